section
-- ===== PART A: goes FIRST, ahead of the names: the tables' words, and 'selects' of the private methods out of them =====
/-- a private method of a class that the tables say can be made, by its rows of tables_1 -/
def lw_okq (q : MethodName × Nat) : Prop := (q.1.cls ≠ "java/lang/invoke/MethodHandle" ∧ q.1.cls ≠ "java/lang/invoke/VarHandle") ∧ Cond.instantiable q.1.cls q.2 ∈ tables_1 ∧ Cond.privateMethod q.1 ∈ tables_1 ∧ Cond.instanceMethod q.1 ∈ tables_1
theorem lw_p0 : lw_okq (⟨"java/lang/Throwable", "fillInStackTrace", "(I)Ljava/lang/Throwable;"⟩, 6) := ⟨⟨by decide +kernel, by decide +kernel⟩, List.mem_of_getElem? (i := 248) (by decide +kernel), List.mem_of_getElem? (i := 246) (by decide +kernel), List.mem_of_getElem? (i := 247) (by decide +kernel)⟩
theorem lw_p1 : lw_okq (⟨"BraidBook", "requireRoomInJournal", "()V"⟩, 3) := ⟨⟨by decide +kernel, by decide +kernel⟩, List.mem_of_getElem? (i := 26) (by decide +kernel), List.mem_of_getElem? (i := 294) (by decide +kernel), List.mem_of_getElem? (i := 295) (by decide +kernel)⟩
theorem lw_p2 : lw_okq (⟨"java/util/ArrayList", "add", "(Ljava/lang/Object;[Ljava/lang/Object;I)V"⟩, 3) := ⟨⟨by decide +kernel, by decide +kernel⟩, List.mem_of_getElem? (i := 49) (by decide +kernel), List.mem_of_getElem? (i := 466) (by decide +kernel), List.mem_of_getElem? (i := 467) (by decide +kernel)⟩
theorem lw_p3 : lw_okq (⟨"java/util/ArrayList", "grow", "()[Ljava/lang/Object;"⟩, 3) := ⟨⟨by decide +kernel, by decide +kernel⟩, List.mem_of_getElem? (i := 49) (by decide +kernel), List.mem_of_getElem? (i := 470) (by decide +kernel), List.mem_of_getElem? (i := 471) (by decide +kernel)⟩
theorem lw_p4 : lw_okq (⟨"java/util/ArrayList", "grow", "(I)[Ljava/lang/Object;"⟩, 3) := ⟨⟨by decide +kernel, by decide +kernel⟩, List.mem_of_getElem? (i := 49) (by decide +kernel), List.mem_of_getElem? (i := 474) (by decide +kernel), List.mem_of_getElem? (i := 475) (by decide +kernel)⟩
theorem lw_p5 : lw_okq (⟨"BraidBookModel", "fails", "(I)Z"⟩, 17) := ⟨⟨by decide +kernel, by decide +kernel⟩, List.mem_of_getElem? (i := 765) (by decide +kernel), List.mem_of_getElem? (i := 838) (by decide +kernel), List.mem_of_getElem? (i := 839) (by decide +kernel)⟩
theorem lw_p6 : lw_okq (⟨"BraidBookModel", "isKnown", "(II)Z"⟩, 17) := ⟨⟨by decide +kernel, by decide +kernel⟩, List.mem_of_getElem? (i := 765) (by decide +kernel), List.mem_of_getElem? (i := 849) (by decide +kernel), List.mem_of_getElem? (i := 850) (by decide +kernel)⟩
theorem lw_p7 : lw_okq (⟨"BraidBookModel", "isEntry", "(I)Z"⟩, 17) := ⟨⟨by decide +kernel, by decide +kernel⟩, List.mem_of_getElem? (i := 765) (by decide +kernel), List.mem_of_getElem? (i := 853) (by decide +kernel), List.mem_of_getElem? (i := 854) (by decide +kernel)⟩
theorem lw_p8 : lw_okq (⟨"BraidBookModel", "may", "(III)Z"⟩, 17) := ⟨⟨by decide +kernel, by decide +kernel⟩, List.mem_of_getElem? (i := 765) (by decide +kernel), List.mem_of_getElem? (i := 860) (by decide +kernel), List.mem_of_getElem? (i := 861) (by decide +kernel)⟩
theorem lw_p9 : lw_okq (⟨"BraidBookModel", "count", "(III)I"⟩, 17) := ⟨⟨by decide +kernel, by decide +kernel⟩, List.mem_of_getElem? (i := 765) (by decide +kernel), List.mem_of_getElem? (i := 864) (by decide +kernel), List.mem_of_getElem? (i := 865) (by decide +kernel)⟩
theorem lw_p10 : lw_okq (⟨"BraidBookModel", "isThere", "(II)Z"⟩, 17) := ⟨⟨by decide +kernel, by decide +kernel⟩, List.mem_of_getElem? (i := 765) (by decide +kernel), List.mem_of_getElem? (i := 875) (by decide +kernel), List.mem_of_getElem? (i := 876) (by decide +kernel)⟩
theorem lw_p11 : lw_okq (⟨"BraidBookModel", "all", "(II)I"⟩, 17) := ⟨⟨by decide +kernel, by decide +kernel⟩, List.mem_of_getElem? (i := 765) (by decide +kernel), List.mem_of_getElem? (i := 879) (by decide +kernel), List.mem_of_getElem? (i := 880) (by decide +kernel)⟩
theorem lw_p12 : lw_okq (⟨"BraidBookModel", "isCovered", "(II)Z"⟩, 17) := ⟨⟨by decide +kernel, by decide +kernel⟩, List.mem_of_getElem? (i := 765) (by decide +kernel), List.mem_of_getElem? (i := 883) (by decide +kernel), List.mem_of_getElem? (i := 884) (by decide +kernel)⟩
theorem lw_p13 : lw_okq (⟨"BraidBookModel", "isKnownMark", "(II)Z"⟩, 17) := ⟨⟨by decide +kernel, by decide +kernel⟩, List.mem_of_getElem? (i := 765) (by decide +kernel), List.mem_of_getElem? (i := 887) (by decide +kernel), List.mem_of_getElem? (i := 888) (by decide +kernel)⟩
theorem lw_p14 : lw_okq (⟨"BraidBookModel", "covers", "(III)Z"⟩, 17) := ⟨⟨by decide +kernel, by decide +kernel⟩, List.mem_of_getElem? (i := 765) (by decide +kernel), List.mem_of_getElem? (i := 891) (by decide +kernel), List.mem_of_getElem? (i := 892) (by decide +kernel)⟩
theorem lw_p15 : lw_okq (⟨"BraidBookModel", "areShared", "(III)Z"⟩, 17) := ⟨⟨by decide +kernel, by decide +kernel⟩, List.mem_of_getElem? (i := 765) (by decide +kernel), List.mem_of_getElem? (i := 903) (by decide +kernel), List.mem_of_getElem? (i := 904) (by decide +kernel)⟩
def lw_privs_1 : List (MethodName × Nat) := [(⟨"java/lang/Throwable", "fillInStackTrace", "(I)Ljava/lang/Throwable;"⟩, 6), (⟨"BraidBook", "requireRoomInJournal", "()V"⟩, 3), (⟨"java/util/ArrayList", "add", "(Ljava/lang/Object;[Ljava/lang/Object;I)V"⟩, 3), (⟨"java/util/ArrayList", "grow", "()[Ljava/lang/Object;"⟩, 3), (⟨"java/util/ArrayList", "grow", "(I)[Ljava/lang/Object;"⟩, 3), (⟨"BraidBookModel", "fails", "(I)Z"⟩, 17), (⟨"BraidBookModel", "isKnown", "(II)Z"⟩, 17), (⟨"BraidBookModel", "isEntry", "(I)Z"⟩, 17), (⟨"BraidBookModel", "may", "(III)Z"⟩, 17), (⟨"BraidBookModel", "count", "(III)I"⟩, 17), (⟨"BraidBookModel", "isThere", "(II)Z"⟩, 17), (⟨"BraidBookModel", "all", "(II)I"⟩, 17), (⟨"BraidBookModel", "isCovered", "(II)Z"⟩, 17), (⟨"BraidBookModel", "isKnownMark", "(II)Z"⟩, 17), (⟨"BraidBookModel", "covers", "(III)Z"⟩, 17), (⟨"BraidBookModel", "areShared", "(III)Z"⟩, 17)]
theorem lw_r1 : ∀ q ∈ lw_privs_1, lw_okq q := List.forall_mem_cons.mpr ⟨lw_p0, List.forall_mem_cons.mpr ⟨lw_p1, List.forall_mem_cons.mpr ⟨lw_p2, List.forall_mem_cons.mpr ⟨lw_p3, List.forall_mem_cons.mpr ⟨lw_p4, List.forall_mem_cons.mpr ⟨lw_p5, List.forall_mem_cons.mpr ⟨lw_p6, List.forall_mem_cons.mpr ⟨lw_p7, List.forall_mem_cons.mpr ⟨lw_p8, List.forall_mem_cons.mpr ⟨lw_p9, List.forall_mem_cons.mpr ⟨lw_p10, List.forall_mem_cons.mpr ⟨lw_p11, List.forall_mem_cons.mpr ⟨lw_p12, List.forall_mem_cons.mpr ⟨lw_p13, List.forall_mem_cons.mpr ⟨lw_p14, List.forall_mem_cons.mpr ⟨lw_p15, fun _ h => absurd h List.not_mem_nil⟩⟩⟩⟩⟩⟩⟩⟩⟩⟩⟩⟩⟩⟩⟩⟩
theorem lw_p16 : lw_okq (⟨"BraidBookModel", "isOld", "(III)Z"⟩, 17) := ⟨⟨by decide +kernel, by decide +kernel⟩, List.mem_of_getElem? (i := 765) (by decide +kernel), List.mem_of_getElem? (i := 907) (by decide +kernel), List.mem_of_getElem? (i := 908) (by decide +kernel)⟩
theorem lw_p17 : lw_okq (⟨"BraidBookModel", "forgets", "(II)V"⟩, 17) := ⟨⟨by decide +kernel, by decide +kernel⟩, List.mem_of_getElem? (i := 765) (by decide +kernel), List.mem_of_getElem? (i := 911) (by decide +kernel), List.mem_of_getElem? (i := 912) (by decide +kernel)⟩
theorem lw_p18 : lw_okq (⟨"BraidBookModel", "joins", "(III)V"⟩, 17) := ⟨⟨by decide +kernel, by decide +kernel⟩, List.mem_of_getElem? (i := 765) (by decide +kernel), List.mem_of_getElem? (i := 918) (by decide +kernel), List.mem_of_getElem? (i := 919) (by decide +kernel)⟩
theorem lw_p19 : lw_okq (⟨"BraidBookModel", "merges", "(II)V"⟩, 17) := ⟨⟨by decide +kernel, by decide +kernel⟩, List.mem_of_getElem? (i := 765) (by decide +kernel), List.mem_of_getElem? (i := 922) (by decide +kernel), List.mem_of_getElem? (i := 923) (by decide +kernel)⟩
theorem lw_p20 : lw_okq (⟨"BraidBookModel", "learns", "(II)V"⟩, 17) := ⟨⟨by decide +kernel, by decide +kernel⟩, List.mem_of_getElem? (i := 765) (by decide +kernel), List.mem_of_getElem? (i := 926) (by decide +kernel), List.mem_of_getElem? (i := 927) (by decide +kernel)⟩
theorem lw_p21 : lw_okq (⟨"BraidBookModel", "notes", "(III)V"⟩, 17) := ⟨⟨by decide +kernel, by decide +kernel⟩, List.mem_of_getElem? (i := 765) (by decide +kernel), List.mem_of_getElem? (i := 930) (by decide +kernel), List.mem_of_getElem? (i := 931) (by decide +kernel)⟩
theorem lw_p22 : lw_okq (⟨"BraidBookModel", "isAged", "(II)Z"⟩, 17) := ⟨⟨by decide +kernel, by decide +kernel⟩, List.mem_of_getElem? (i := 765) (by decide +kernel), List.mem_of_getElem? (i := 938) (by decide +kernel), List.mem_of_getElem? (i := 939) (by decide +kernel)⟩
theorem lw_p23 : lw_okq (⟨"BraidBookModel", "valueOf", "(IIII)I"⟩, 17) := ⟨⟨by decide +kernel, by decide +kernel⟩, List.mem_of_getElem? (i := 765) (by decide +kernel), List.mem_of_getElem? (i := 950) (by decide +kernel), List.mem_of_getElem? (i := 951) (by decide +kernel)⟩
theorem lw_p24 : lw_okq (⟨"BraidBookModel", "teller", "(IIII)I"⟩, 17) := ⟨⟨by decide +kernel, by decide +kernel⟩, List.mem_of_getElem? (i := 765) (by decide +kernel), List.mem_of_getElem? (i := 954) (by decide +kernel), List.mem_of_getElem? (i := 955) (by decide +kernel)⟩
theorem lw_p25 : lw_okq (⟨"BraidBookModel", "areSame", "(IIII)Z"⟩, 17) := ⟨⟨by decide +kernel, by decide +kernel⟩, List.mem_of_getElem? (i := 765) (by decide +kernel), List.mem_of_getElem? (i := 982) (by decide +kernel), List.mem_of_getElem? (i := 983) (by decide +kernel)⟩
def lw_privs_2 : List (MethodName × Nat) := [(⟨"BraidBookModel", "isOld", "(III)Z"⟩, 17), (⟨"BraidBookModel", "forgets", "(II)V"⟩, 17), (⟨"BraidBookModel", "joins", "(III)V"⟩, 17), (⟨"BraidBookModel", "merges", "(II)V"⟩, 17), (⟨"BraidBookModel", "learns", "(II)V"⟩, 17), (⟨"BraidBookModel", "notes", "(III)V"⟩, 17), (⟨"BraidBookModel", "isAged", "(II)Z"⟩, 17), (⟨"BraidBookModel", "valueOf", "(IIII)I"⟩, 17), (⟨"BraidBookModel", "teller", "(IIII)I"⟩, 17), (⟨"BraidBookModel", "areSame", "(IIII)Z"⟩, 17)]
theorem lw_r2 : ∀ q ∈ lw_privs_2, lw_okq q := List.forall_mem_cons.mpr ⟨lw_p16, List.forall_mem_cons.mpr ⟨lw_p17, List.forall_mem_cons.mpr ⟨lw_p18, List.forall_mem_cons.mpr ⟨lw_p19, List.forall_mem_cons.mpr ⟨lw_p20, List.forall_mem_cons.mpr ⟨lw_p21, List.forall_mem_cons.mpr ⟨lw_p22, List.forall_mem_cons.mpr ⟨lw_p23, List.forall_mem_cons.mpr ⟨lw_p24, List.forall_mem_cons.mpr ⟨lw_p25, fun _ h => absurd h List.not_mem_nil⟩⟩⟩⟩⟩⟩⟩⟩⟩⟩
def lw_privs : List (MethodName × Nat) := lw_privs_1 ++ (lw_privs_2)
def lw_tbl : List Cond := k2_sels lw_privs ++ tables_1
theorem lw_privs_ok : ∀ q ∈ lw_privs, lw_okq q := by
  show ∀ q ∈ lw_privs_1 ++ (lw_privs_2), lw_okq q
  exact List.forall_mem_append.mpr ⟨lw_r1, lw_r2⟩
/-- the streams that the claim lets the run draw from -/
abbrev lw_cs : List Choice := [Jvm.Choice.named "NaN.bits"]
theorem lw_bits : nanBits ∈ lw_cs := by first | decide | exact List.mem_cons_self | simp [lw_cs, nanBits]
-- ===== end of PART A; then your names; then what follows =====
end
section
/-! ===== BEGIN words of one list among another's, by their places ===== -/
theorem goodIn_r {big : List Cond} (ws : List Cond) (ps : List Nat) (hp : ws = ps.filterMap (fun i => big[i]?)) (h : ws.all goodWord = true) : GoodIn big ws := by
  intro w hw
  have h1 := List.all_eq_true.mp h w hw
  rw [hp] at hw
  obtain ⟨i, -, hi⟩ := List.mem_filterMap.mp hw
  have hm : w ∈ big := by first | exact List.mem_of_getElem? hi | exact List.getElem?_mem hi
  exact ⟨hm, good_of_word h1⟩
theorem goodIn_app {big a b : List Cond} (ha : GoodIn big a) (hb : GoodIn big b) : GoodIn big (a ++ b) := fun w h => (List.mem_append.mp h).elim (ha w) (hb w)
theorem goodIn_ca {big a b : List Cond} {c : Cond} (ha : GoodIn big (c :: a)) (hb : GoodIn big b) : GoodIn big (c :: (a ++ b)) := fun w h => (List.mem_cons.mp h).elim (fun e => ha w (List.mem_cons.mpr (Or.inl e))) (fun h => (List.mem_append.mp h).elim (fun h => ha w (List.mem_cons.mpr (Or.inr h))) (hb w))
theorem goodIn_sub {big ws : List Cond} (hm : ∀ w ∈ ws, w ∈ big) (h : ws.all goodWord = true) : GoodIn big ws := fun w hw => ⟨hm w hw, good_of_word (List.all_eq_true.mp h w hw)⟩
/-! ===== END ===== -/

/-! ===== BEGIN exceptions that leave a method, and their catching by the caller (launches without stack traces) ===== -/
section VXA
/-! The laws vx_back, vx_callV, vx_callS, vx_callSW, vx_throw0, vx_throwS follow proofs of the library, with one case more: JvmDerived/Free/Laws.lean (Back.of_free), Shelf42/LK1.lean (callV, callS), Shelf/KitTraced.lean (throwNew0V, throwNewS). -/
/-- where a method has thrown q: the class by its name, the cell, what was written, the world -/
def vx_T (XC : String → State → State → Prop) (st : State) (q : Addr) (t : State) (mc ms : Nat) (free : Addr → Prop) : Prop :=
  ∃ (E : String) (ce : Cell) (L : List Loc), XC E st t ∧ t.heap[q]? = some ce ∧ ce.vm = .none ∧ st.vm.findClass E = some ce.cls ∧ st.WarmedH t.vm ∧ st.sameButNew ({ t with vm := st.vm } : State) L mc ms ∧ ∀ z ∈ L, free z.base
def vx_Q (Qc : Array Value → State → Outcome → State → Prop) (XC : String → State → State → Prop) (mc ms : Nat) (free : Addr → Prop) : Array Value → State → Outcome → State → Prop := fun a st o t =>
  (Qc a st o t ∧ ∃ L, FrameEnd st o t L mc ms ∧ ∀ q ∈ L, free q.base) ∨ ∃ q, o = .threw q ∧ vx_T XC st q t mc ms free
/-- a callee that returns or throws -/
def vx_Met (l : Launch) (y : MethodName) (ws : List Cond) (rm : Room) (Pc : Array Value → State → Prop) (Qc : Array Value → State → Outcome → State → Prop) (XC : String → State → State → Prop) (mc ms : Nat) (free : Addr → Prop) : Prop :=
  MetFree l y (headSpec ws rm) Pc (fun _ _ _ _ _ => True) (vx_Q Qc XC mc ms free)
def vx_Post (XC : String → State → State → Prop) (mc ms : Nat) (free : Addr → Prop) : Pt → Array Value → Addr → Pt → Prop := fun A a q B =>
  ∃ (g : JFrame) (mk : MethodId) (t : State) (L : List Loc) (E : String) (ce : Cell), B.U.heap = t.heap ∧ B.U.vm = t.vm ∧ XC E (A.U.calling g mk a) t ∧ t.heap[q]? = some ce ∧ ce.vm = .none ∧ A.U.vm.findClass E = some ce.cls ∧ B.locs = A.locs ++ L ∧ (∀ z ∈ L, free z.base) ∧ B.cells = A.cells + mc ∧ B.slots = A.slots + ms
def vx_Back (l : Launch) (R : Room) (p : Program) (e : Env) (below : List Frame) (s : State) (sargs : Array Value) (y : MethodName) (len W9 : Nat)
    (Pre : Pt → Array Value → Prop) (Post : Pt → Array Value → Option Value → Pt → Prop) (PostX : Pt → Array Value → Addr → Pt → Prop) : Prop :=
  ∀ (m : MethodId) (meth : Method) (c : Code) (A : Pt) (g : JFrame) (ig : Instr) (mk : MethodId) (a : Array Value),
    Stand p l e R s m sargs below meth c A.U A.locs A.cells A.slots → g.method = m → g.locals.size = c.maxLocals → decode c.code g.pc = .ok (ig, len) →
    2 * g.monitorRoom + (g.stack.map fun v => v.category).sum ≤ W9 → A.U.methodNamed? y = some mk → Pre A a →
    (∃ (v : Option Value) (B : Pt), Stand p l e R s m sargs below meth c B.U B.locs B.cells B.slots ∧ Post A a v B ∧
      Steps p.tables e below (doInvoke e (A.U.setTop g) [] mk a).1 (B.U.setTop { g with pc := g.pc + len, stack := v.toList ++ g.stack })) ∨
    (∃ (q : Addr) (B : Pt), Stand p l e R s m sargs below meth c B.U B.locs B.cells B.slots ∧ PostX A a q B ∧
      Steps p.tables e below (doInvoke e (A.U.setTop g) [] mk a).1 ((B.U.setTop g).pushFrame (.throwing q)))
section Payer
variable {l : Launch} {R : Room} {p : Program} {e : Env} {below : List Frame} {s : State} {sargs : Array Value} {y : MethodName} {len W9 : Nat}
theorem vx_back {ws : List Cond} {rm : Room} {Pc : Array Value → State → Prop} {Qc : Array Value → State → Outcome → State → Prop} {XC : String → State → State → Prop} {mc ms : Nat} {free : Addr → Prop} {bytes : ByteArray} {maxL : Nat} {ret : Option FieldType}
    (hM : vx_Met l y ws rm Pc Qc XC mc ms free) (hblind : FrameBlind Pc) (hrc : rm.cells = mc) (hrs : rm.slots = ms)
    (hframes : rm.frames + 1 ≤ R.frames) (hlocals : W9 + (maxL + 11) + rm.locals ≤ R.locals)
    (hws : ∀ w ∈ ws, ∀ a' U, s.WarmedH U.vm → w.before a' U = true) (hcode : Cond.code y bytes maxL ret ∈ ws) (hinit : ∀ a' U, s.WarmedH U.vm → (Cond.initialized y.cls).before a' U = true) :
    vx_Back l R p e below s sargs y len W9 (PreOf R mc ms Pc) (PostOf Qc mc ms free) (vx_Post XC mc ms free) := by
  intro m meth c A g ig mk a X hg hsize hdg hW hn hp
  have h1 : (headSpec ws rm).pre.before a A.U = true := atoms_intro fun w hw => hws w hw _ _ X.warmed
  have h2 : (Cond.code y bytes maxL ret).before a A.U = true := hws _ hcode _ _ X.warmed
  have h3 : (Cond.initialized y.cls).before a A.U = true := hinit _ _ X.warmed
  have h4 : A.cells + (headSpec ws rm).room.cells ≤ R.cells := by rw [show (headSpec ws rm).room.cells = mc from hrc]; exact hp.1
  have h5 : A.slots + (headSpec ws rm).room.slots ≤ R.slots := by rw [show (headSpec ws rm).room.slots = ms from hrs]; exact hp.2.1
  have hPc : Pc a (A.U.calling g mk a) := hblind _ _ _ _ hp.2.2
  obtain ⟨U, Ls, c0, s0⟩ := A
  dsimp only [Pt.U, Pt.locs, Pt.cells, Pt.slots] at h1 h2 h3 h4 h5 X hn hPc ⊢
  obtain ⟨methY, cY, hmY, hcY, -, hlY, -, -, -, -⟩ := Cond.code_spec hn h2
  obtain ⟨kY, hkY, -⟩ := className_of_methodNamed hn
  have hinitY : kY.init = .initialized := Cond.initialized_spec (findClass_of_methodNamed hn) hkY h3
  have h : At U g.method c below := by rw [hg]; exact X.here
  have hlocals9 : W9 + (maxL + 11) + (headSpec ws rm).room.locals ≤ R.locals := hlocals
  have happ : (headSpec ws rm).appliesLoose y e.platform (U.calling g mk a) = true :=
    Spec.appliesLoose_calling (g := g) h hdg hn hkY hinitY
      (X.room_calling (g := g) (R' := (headSpec ws rm).room) hsize hmY hcY hframes (by rw [hlY]; omega) h4 h5) h1
  obtain ⟨mid, hmid⟩ := h.above
  have hfr : (U.setTop g).frames = (.java g :: mid) ++ below := by rw [State.frames_setTop' g h.top, hmid]; rfl
  obtain ⟨o, s₂, hsteps, -, hend, hq⟩ := Steps.callFree hM p X.admits X.cas X.clock (acts := []) hfr happ hPc trivial
  have hq' : vx_Q Qc XC mc ms free a (U.calling g mk a) o s₂ := hq
  rw [State.frames_setTop' g h.top] at hend
  obtain ⟨g₀, hg0⟩ := Option.isSome_iff_exists.mp h.top
  obtain ⟨r, hr⟩ := State.topJava?_eq_some.mp hg0
  have hr' : (({ U with heap := s₂.heap, slotsUsed := s₂.slotsUsed } : State).setVm s₂.vm).frames = .java g₀ :: r := hr
  rcases hq' with ⟨hqc, L, hfe, hL⟩ | ⟨q, rfl, E, ce, L, hx, hce, hcv, hcl, hW₂, hsm, hL⟩
  · obtain ⟨⟨v, rfl⟩, hW₂, e2, q2, q3, q4, q5, q6⟩ := id hfe
    have e3 : s₂ = ({ (U.calling g mk a).setFrames s₂.frames with heap := s₂.heap, slotsUsed := s₂.slotsUsed } : State).setVm s₂.vm := by
      have : s₂ = ({ s₂ with vm := (U.calling g mk a).vm } : State).setVm s₂.vm := rfl
      rw [e2] at this
      exact this
    obtain ⟨c₂, i₂, len₂, hc₂, hd₂, hf₂⟩ := hend
    have hW' : U.WarmedH s₂.vm := hW₂
    have hcc : c₂ = c := by
      have h1 : s₂.code? g.method = U.code? g.method := by
        rw [State.code?_eq, State.code?_eq, hW'.alike.method?]
      exact Option.some.inj (hc₂.symm.trans (h1.trans h.code))
    subst hcc
    have hlen : len₂ = len := by rw [hdg] at hd₂; cases hd₂; rfl
    subst hlen
    have hs₂ : s₂ = (({ U with heap := s₂.heap, slotsUsed := s₂.slotsUsed } : State).setVm s₂.vm).setTop { g with pc := g.pc + len₂, stack := v.toList ++ g.stack } := by
      refine e3.trans ?_
      rw [hf₂, State.calling_eq h.top, State.setFrames_setFrames, State.setTop_of_frames _ hr', hr]
      rfl
    have hsame : U.sameButNew ({ U with heap := s₂.heap, slotsUsed := s₂.slotsUsed } : State) L mc ms := by
      refine ⟨?_, q2, q3, q4, q5, q6⟩
      obtain ⟨t, ht, -⟩ := State.frames_cons hr
      show ({ U with heap := s₂.heap, slotsUsed := s₂.slotsUsed } : State) = { U.setFrames U.frames with heap := s₂.heap, slotsUsed := s₂.slotsUsed }
      rw [State.setFrames_self ht]
    subst hg
    refine Or.inl ⟨v, ⟨(({ U with heap := s₂.heap, slotsUsed := s₂.slotsUsed } : State).setVm s₂.vm), Ls ++ L, c0 + mc, s0 + ms⟩,
      ⟨X.admits, X.cas, X.clock, X.frames, X.room, X.hears, X.method, X.code, (X.here.setHeapUsed s₂.heap s₂.slotsUsed).setVm hW'.alike, X.tail, State.WarmedH.trans X.warmed hW', X.limits, X.bytes, X.same.trans (hsame.setVm s.vm)⟩,
      ⟨g, mk, s₂, L, rfl, rfl, hqc, rfl, hL, rfl, rfl⟩, ?_⟩
    show Steps p.tables e below _ ((({ U with heap := s₂.heap, slotsUsed := s₂.slotsUsed } : State).setVm s₂.vm).setTop { g with pc := g.pc + len₂, stack := v.toList ++ g.stack })
    rw [← hs₂]
    exact hsteps
  · obtain ⟨e2, q2, q3, q4, q5, q6⟩ := id hsm
    have e3 : s₂ = ({ (U.calling g mk a).setFrames s₂.frames with heap := s₂.heap, slotsUsed := s₂.slotsUsed } : State).setVm s₂.vm := by
      have : s₂ = ({ s₂ with vm := (U.calling g mk a).vm } : State).setVm s₂.vm := rfl
      rw [e2] at this
      exact this
    have hf₂ : s₂.frames = .throwing q :: .java g :: U.frames.tail := hend
    have hW' : U.WarmedH s₂.vm := hW₂
    have hs₂ : s₂ = ((({ U with heap := s₂.heap, slotsUsed := s₂.slotsUsed } : State).setVm s₂.vm).setTop g).pushFrame (.throwing q) := by
      refine e3.trans ?_
      rw [hf₂, State.calling_eq h.top, State.setFrames_setFrames, State.pushFrame, State.frames_setTop _ hr', State.setTop_of_frames _ hr', State.setFrames_setFrames, hr]
      rfl
    have hsame : U.sameButNew ({ U with heap := s₂.heap, slotsUsed := s₂.slotsUsed } : State) L mc ms := by
      refine ⟨?_, q2, q3, q4, q5, q6⟩
      obtain ⟨t, ht, -⟩ := State.frames_cons hr
      show ({ U with heap := s₂.heap, slotsUsed := s₂.slotsUsed } : State) = { U.setFrames U.frames with heap := s₂.heap, slotsUsed := s₂.slotsUsed }
      rw [State.setFrames_self ht]
    subst hg
    refine Or.inr ⟨q, ⟨(({ U with heap := s₂.heap, slotsUsed := s₂.slotsUsed } : State).setVm s₂.vm), Ls ++ L, c0 + mc, s0 + ms⟩,
      ⟨X.admits, X.cas, X.clock, X.frames, X.room, X.hears, X.method, X.code, (X.here.setHeapUsed s₂.heap s₂.slotsUsed).setVm hW'.alike, X.tail, State.WarmedH.trans X.warmed hW', X.limits, X.bytes, X.same.trans (hsame.setVm s.vm)⟩,
      ⟨g, mk, s₂, L, E, ce, rfl, rfl, hx, hce, hcv, hcl, rfl, hL, rfl, rfl⟩, ?_⟩
    show Steps p.tables e below _ (((({ U with heap := s₂.heap, slotsUsed := s₂.slotsUsed } : State).setVm s₂.vm).setTop g).pushFrame (.throwing q))
    rw [← hs₂]
    exact hsteps
end Payer
section Calls
variable {p : Program} {l : Launch} {e : Env} {R : Room} {s : State} {m : MethodId} {args : Array Value} {below : List Frame} {meth : Method} {c : Code} {T : State} {locs : List Loc} {cells slots : Nat}
theorem vx_callV (X : Stand p l e R s m args below meth c T locs cells slots) (hexec : p.tables.exec = Jvm.exec) {own C : String} {index : Nat} {y : MethodName} {bytes : ByteArray} {maxL : Nat} {ret : Option FieldType}
    (hown : s.vm.findClass own = some m.cls) (hlink : (Cond.methodLink own index y).before args s = true) (hinst : (Cond.instanceMethod y).before args s = true) (hsel : (Cond.selects C y y).before args s = true)
    (hcode : (Cond.code y bytes maxL ret).before args s = true) (hy : y.cls ≠ "java/lang/invoke/MethodHandle" ∧ y.cls ≠ "java/lang/invoke/VarHandle")
    {W9 : Nat} {Pre : Pt → Array Value → Prop} {Post : Pt → Array Value → Option Value → Pt → Prop} {PostX : Pt → Array Value → Addr → Pt → Prop} (hK : vx_Back l R p e below s args y 3 W9 Pre Post PostX)
    {b : Addr} {cellB : Cell} (hcell : T.heap[b]? = some cellB) (hobj : cellB.vm.isStatics = false) (hcls : s.vm.findClass C = some cellB.cls)
    {g : JFrame} (hg : g.method = m) (hsize : g.locals.size = c.maxLocals) {argsL rest : List Value} (hlen : ∀ sig, parseMethodDescriptor y.desc = some sig → argsL.length = sig.parameters.length)
    (hstack : g.stack = argsL.reverse ++ .ref b :: rest) (hW : 2 * g.monitorRoom + (rest.map fun v => v.category).sum ≤ W9) (hdg : decode c.code g.pc = .ok (.invokevirtual index, 3))
    (hpre : ∀ vm₁, s.WarmedH vm₁ → Pre ⟨T.setVm vm₁, locs, cells, slots⟩ (Value.ref b :: argsL).toArray) :
    (∃ (v : Option Value) (vm₁ : Vm) (B : Pt), s.WarmedH vm₁ ∧ Stand p l e R s m args below meth c B.U B.locs B.cells B.slots ∧ Post ⟨T.setVm vm₁, locs, cells, slots⟩ (Value.ref b :: argsL).toArray v B ∧
      ∀ target, Steps p.tables e below (B.U.setTop { g with pc := g.pc + 3, stack := v.toList ++ rest }) target → Steps p.tables e below (T.setTop g) target) ∨
    (∃ (q : Addr) (vm₁ : Vm) (B : Pt), s.WarmedH vm₁ ∧ Stand p l e R s m args below meth c B.U B.locs B.cells B.slots ∧ PostX ⟨T.setVm vm₁, locs, cells, slots⟩ (Value.ref b :: argsL).toArray q B ∧
      Steps p.tables e below (T.setTop g) ((B.U.setTop { g with stack := rest }).pushFrame (.throwing q))) := by
  obtain ⟨mk, methM, hnamed, hmethM, hstM, habM⟩ := Cond.instanceMethod_spec hinst
  obtain ⟨methM', cM, hmethM', -, -, -, -, -, -, hsigM⟩ := Cond.code_spec hnamed hcode
  cases hmethM.symm.trans hmethM'
  obtain ⟨c2, r2, m2, q1, q2, q3, q4, kP, hkP, hkPi⟩ := Cond.selects_spec hsel
  cases hcls.symm.trans q1
  cases (State.methodFound?_of_named hnamed hy).symm.trans q2
  cases hnamed.symm.trans q3
  have hselP : selectMethod e.platform s.vm cellB.cls mk = .method mk := by rw [Launch.admits_selectMethod X.admits]; exact q4
  obtain ⟨vm₁, X₁, hstep₁⟩ := X.invokevirtual hexec hown hlink hnamed hmethM hstM hkP hkPi hy (a := b) (cell := cellB) hcell
    (fun z h => by rw [h] at hobj; cases hobj) hselP hmethM habM hkP hkPi (g := g) hg (argsL := argsL) (rest := rest) (hlen _ hsigM) hstack hdg
  rcases hK m meth c ⟨T.setVm vm₁, locs, cells, slots⟩ { g with stack := rest } (.invokevirtual index) mk (Value.ref b :: argsL).toArray X₁ hg hsize hdg hW (X₁.named hnamed) (hpre vm₁ X₁.warmed) with ⟨v, B, X', hpost, hsteps⟩ | ⟨q, B, X', hpost, hsteps⟩
  · exact Or.inl ⟨v, vm₁, B, X₁.warmed, X', hpost, fun target h => hstep₁ _ fun acts => by rw [doInvoke_state]; exact hsteps.trans h⟩
  · exact Or.inr ⟨q, vm₁, B, X₁.warmed, X', hpost, hstep₁ _ fun acts => by rw [doInvoke_state]; exact hsteps⟩
theorem vx_callS (X : Stand p l e R s m args below meth c T locs cells slots) (hexec : p.tables.exec = Jvm.exec) {own : String} {index : Nat} {y : MethodName} {bytes : ByteArray} {maxL : Nat} {ret : Option FieldType}
    (hown : s.vm.findClass own = some m.cls) (hlink : (Cond.methodLink own index y).before args s = true) (hstat : (Cond.static y).before args s = true) (hinit : (Cond.initialized y.cls).before args s = true)
    (hcode : (Cond.code y bytes maxL ret).before args s = true) (hy : y.cls ≠ "java/lang/invoke/MethodHandle" ∧ y.cls ≠ "java/lang/invoke/VarHandle")
    {W9 : Nat} {Pre : Pt → Array Value → Prop} {Post : Pt → Array Value → Option Value → Pt → Prop} {PostX : Pt → Array Value → Addr → Pt → Prop} (hK : vx_Back l R p e below s args y 3 W9 Pre Post PostX)
    {g : JFrame} (hg : g.method = m) (hsize : g.locals.size = c.maxLocals) {argsL rest : List Value} (hlen : ∀ sig, parseMethodDescriptor y.desc = some sig → argsL.length = sig.parameters.length)
    (hstack : g.stack = argsL.reverse ++ rest) (hW : 2 * g.monitorRoom + (rest.map fun v => v.category).sum ≤ W9) (hdg : decode c.code g.pc = .ok (.invokestatic index, 3))
    (hpre : ∀ vm₁, s.WarmedH vm₁ → Pre ⟨T.setVm vm₁, locs, cells, slots⟩ argsL.toArray) :
    (∃ (v : Option Value) (vm₁ : Vm) (B : Pt), s.WarmedH vm₁ ∧ Stand p l e R s m args below meth c B.U B.locs B.cells B.slots ∧ Post ⟨T.setVm vm₁, locs, cells, slots⟩ argsL.toArray v B ∧
      ∀ target, Steps p.tables e below (B.U.setTop { g with pc := g.pc + 3, stack := v.toList ++ rest }) target → Steps p.tables e below (T.setTop g) target) ∨
    (∃ (q : Addr) (vm₁ : Vm) (B : Pt), s.WarmedH vm₁ ∧ Stand p l e R s m args below meth c B.U B.locs B.cells B.slots ∧ PostX ⟨T.setVm vm₁, locs, cells, slots⟩ argsL.toArray q B ∧
      Steps p.tables e below (T.setTop g) ((B.U.setTop { g with stack := rest }).pushFrame (.throwing q))) := by
  obtain ⟨mk, hnamed⟩ := Cond.code_named hcode
  obtain ⟨methM, cM, hmethM, -, -, -, -, -, -, hsigM⟩ := Cond.code_spec hnamed hcode
  have hstatic : methM.isStatic = true := Cond.static_spec hnamed hmethM hstat
  obtain ⟨kP, hkP, -⟩ := className_of_methodNamed hnamed
  have hinitP : kP.init = .initialized := Cond.initialized_spec (findClass_of_methodNamed hnamed) hkP hinit
  obtain ⟨vm₁, X₁, hstep₁⟩ := X.invokestatic hexec hown hlink hnamed hmethM hstatic hkP hinitP hy (g := g) hg (argsL := argsL) (rest := rest) (hlen _ hsigM) hstack hdg
  rcases hK m meth c ⟨T.setVm vm₁, locs, cells, slots⟩ { g with stack := rest } (.invokestatic index) mk argsL.toArray X₁ hg hsize hdg hW (X₁.named hnamed) (hpre vm₁ X₁.warmed) with ⟨v, B, X', hpost, hsteps⟩ | ⟨q, B, X', hpost, hsteps⟩
  · exact Or.inl ⟨v, vm₁, B, X₁.warmed, X', hpost, fun target h => hstep₁ _ fun acts => by rw [doInvoke_state]; exact hsteps.trans h⟩
  · exact Or.inr ⟨q, vm₁, B, X₁.warmed, X', hpost, hstep₁ _ fun acts => by rw [doInvoke_state]; exact hsteps⟩
end Calls
theorem vx_cls {s : State} {T : State} {vm₁ : Vm} {E : String} {k : ClassId} (hW : s.WarmedH vm₁) (h : (T.setVm vm₁).vm.findClass E = some k) : s.vm.findClass E = some k := by
  have h1 : vm₁.findClass E = some k := h
  rw [hW.alike.findClass] at h1
  exact h1
/-- the method's frame g, with q thrown over it -/
def vx_W (p : Program) (l : Launch) (e : Env) (R : Room) (s : State) (m : MethodId) (args : Array Value) (below : List Frame) (meth : Method) (c : Code) (H : Heap) (locs : List Loc) (cells slots : Nat) (Q : State → Prop) (g : JFrame) (q : Addr) : Prop :=
  ∀ T : State, T.heap = H → Stand p l e R s m args below meth c T locs cells slots → ∃ t, Steps p.tables e below ((T.setTop g).pushFrame (.throwing q)) t ∧ Q t
def vx_Run (p : Program) (l : Launch) (e : Env) (R : Room) (s : State) (m : MethodId) (args : Array Value) (below : List Frame) (meth : Method) (c : Code) (H : Heap) (locs : List Loc) (cells slots mc ms : Nat) (g : JFrame) (rest : List Value) (Qa : State → Outcome → State → Prop) (XC : String → State → State → Prop) (free : Addr → Prop) : Prop :=
  ∀ T : State, T.heap = H → Stand p l e R s m args below meth c T locs cells slots →
    (∃ (v : Option Value) (st₀ t T' : State) (L : List Loc), st₀.heap = H ∧ Stand p l e R s m args below meth c T' (locs ++ L) (cells + mc) (slots + ms) ∧ (∀ q ∈ L, free q.base) ∧ T'.heap = t.heap ∧ T'.vm = t.vm ∧ Qa st₀ (.returned v) t ∧
      Goes p e below T g T' { g with pc := g.pc + 3, stack := v.toList ++ rest }) ∨
    (∃ (q : Addr) (st₀ t T' : State) (L : List Loc) (E : String) (ce : Cell), st₀.heap = H ∧ Stand p l e R s m args below meth c T' (locs ++ L) (cells + mc) (slots + ms) ∧ (∀ z ∈ L, free z.base) ∧ T'.heap = t.heap ∧ T'.vm = t.vm ∧ XC E st₀ t ∧ t.heap[q]? = some ce ∧ ce.vm = .none ∧ s.vm.findClass E = some ce.cls ∧
      Steps p.tables e below (T.setTop g) ((T'.setTop { g with stack := rest }).pushFrame (.throwing q)))
def vx_X {S : Type} (px : S → Prop) (B : String → S → State → Prop) (A : Nat → Prop) : String → State → State → Prop := fun E st t => ∃ u : S, px u ∧ B E u t ∧ va_F A st t
section Runs
variable {p : Program} {l : Launch} {e : Env} {R : Room} {s : State} {m : MethodId} {args : Array Value} {below : List Frame} {meth : Method} {c : Code} {H : Heap} {locs : List Loc} {cells slots : Nat}
variable {y : MethodName} {bytes cc : ByteArray} {maxL nL mc ms n index : Nat} {ret : Option FieldType} {ws : List Cond} {rm : Room} {Pc : Array Value → State → Prop} {Qc : Array Value → State → Outcome → State → Prop} {XC : String → State → State → Prop} {free : Addr → Prop} {Ts : List Cond} {own C : String} {b : Addr} {As rest : List Value} {g : JFrame}
theorem vx_callBack (cb : CallB R s args own index y bytes maxL ret ws rm mc ms n) (hM : vx_Met l y ws rm Pc Qc XC mc ms free) (hbl : FrameBlind Pc) : vx_Back l R p e below s args y 3 8 (PreOf R mc ms Pc) (PostOf Qc mc ms free) (vx_Post XC mc ms free) := by
  obtain ⟨hrc, hrs, hfr, hlo, hws, hcw, -, hini, -⟩ := cb
  exact vx_back (bytes := bytes) (maxL := maxL) (ret := ret) hM hbl hrc hrs hfr hlo hws hcw (fun a' U hW => word_at hW (Or.inl (by first | rfl | simp [Cond.onTables, Cond.keeps, Cond.steady])) hini)
theorem vx_runV (S : CallFix p m c cc nL s args Ts own) (hM : vx_Met l y ws rm Pc Qc XC mc ms free) (cw : CallW R s args own C index y bytes maxL ret ws rm mc ms n) (hp : PreV s H C b Pc As)
    (hg : g.method = m) (hn : As.length = n) (hsize : g.locals.size = nL) (hstack : g.stack = As.reverse ++ .ref b :: rest) (hW : 2 * g.monitorRoom + (rest.map fun v => v.category).sum ≤ 8) (hdg : decode cc g.pc = .ok (.invokevirtual index, 3)) (hf : cells + mc ≤ R.cells ∧ slots + ms ≤ R.slots) :
    vx_Run p l e R s m args below meth c H locs cells slots mc ms g rest (Qc (Value.ref b :: As).toArray) XC free := by
  have hK : vx_Back l R p e below s args y 3 8 (PreOf R mc ms Pc) (PostOf Qc mc ms free) (vx_Post XC mc ms free) := vx_callBack cw.1 hM hp.1
  obtain ⟨⟨-, -, -, -, -, -, hcode, -, hy, hlen, hl⟩, hin, hse⟩ := cw
  obtain ⟨hx, hb, hml, ho, -⟩ := S
  obtain ⟨-, ⟨cellB, hcB, hoB, hclB⟩, hPc⟩ := hp
  intro T hT X
  rcases vx_callV X hx (C := C) (bytes := bytes) (maxL := maxL) (ret := ret) ho hl hin hse hcode hy hK (by rw [hT]; exact hcB) hoB hclB hg (hsize.trans hml.symm) (argsL := As) (rest := rest) (fun sig h => hn.trans (hlen sig h)) hstack hW (by rw [hb]; exact hdg)
    (fun vm₁ hW₁ => ⟨hf.1, hf.2, hPc (T.setVm vm₁) hT hW₁⟩) with ⟨v, vm₁, ⟨U', l2, c2, s2⟩, hW₁, X', ⟨g', mk, t, L, e1, e2, hq, h1, hL, h2, h3⟩, st⟩ | ⟨q, vm₁, ⟨U', l2, c2, s2⟩, hW₁, X', ⟨g', mk, t, L, E, ce, e1, e2, hq, hce, hcv, hcl, h1, hL, h2, h3⟩, st⟩
  · dsimp only [Pt.U, Pt.locs, Pt.cells, Pt.slots] at X' e1 e2 h1 h2 h3 st
    subst h1; subst h2; subst h3
    exact Or.inl ⟨v, (T.setVm vm₁).calling g' mk (Value.ref b :: As).toArray, t, U', L, hT, X', hL, e1, e2, hq, st⟩
  · dsimp only [Pt.U, Pt.locs, Pt.cells, Pt.slots] at X' e1 e2 h1 h2 h3 st hcl
    subst h1; subst h2; subst h3
    exact Or.inr ⟨q, (T.setVm vm₁).calling g' mk (Value.ref b :: As).toArray, t, U', L, E, ce, hT, X', hL, e1, e2, hq, hce, hcv, vx_cls hW₁ hcl, st⟩
theorem vx_runS (S : CallFix p m c cc nL s args Ts own) (hM : vx_Met l y ws rm Pc Qc XC mc ms free) (cw : CallB R s args own index y bytes maxL ret ws rm mc ms n ∧ (Cond.static y).before args s = true) (hp : PreS s H Pc As)
    (hg : g.method = m) (hn : As.length = n) (hsize : g.locals.size = nL) (hstack : g.stack = As.reverse ++ rest) (hW : 2 * g.monitorRoom + (rest.map fun v => v.category).sum ≤ 8) (hdg : decode cc g.pc = .ok (.invokestatic index, 3)) (hf : cells + mc ≤ R.cells ∧ slots + ms ≤ R.slots) :
    vx_Run p l e R s m args below meth c H locs cells slots mc ms g rest (Qc As.toArray) XC free := by
  have hK : vx_Back l R p e below s args y 3 8 (PreOf R mc ms Pc) (PostOf Qc mc ms free) (vx_Post XC mc ms free) := vx_callBack cw.1 hM hp.1
  obtain ⟨⟨-, -, -, -, -, -, hcode, hini, hy, hlen, hl⟩, hstt⟩ := cw
  obtain ⟨hx, hb, hml, ho, -⟩ := S
  intro T hT X
  rcases vx_callS X hx (bytes := bytes) (maxL := maxL) (ret := ret) ho hl hstt hini hcode hy hK hg (hsize.trans hml.symm) (argsL := As) (rest := rest) (fun sig h => hn.trans (hlen sig h)) hstack hW (by rw [hb]; exact hdg)
    (fun vm₁ hW₁ => ⟨hf.1, hf.2, hp.2 (T.setVm vm₁) hT hW₁⟩) with ⟨v, vm₁, ⟨U', l2, c2, s2⟩, hW₁, X', ⟨g', mk, t, L, e1, e2, hq, h1, hL, h2, h3⟩, st⟩ | ⟨q, vm₁, ⟨U', l2, c2, s2⟩, hW₁, X', ⟨g', mk, t, L, E, ce, e1, e2, hq, hce, hcv, hcl, h1, hL, h2, h3⟩, st⟩
  · dsimp only [Pt.U, Pt.locs, Pt.cells, Pt.slots] at X' e1 e2 h1 h2 h3 st
    subst h1; subst h2; subst h3
    exact Or.inl ⟨v, (T.setVm vm₁).calling g' mk As.toArray, t, U', L, hT, X', hL, e1, e2, hq, st⟩
  · dsimp only [Pt.U, Pt.locs, Pt.cells, Pt.slots] at X' e1 e2 h1 h2 h3 st hcl
    subst h1; subst h2; subst h3
    exact Or.inr ⟨q, (T.setVm vm₁).calling g' mk As.toArray, t, U', L, E, ce, hT, X', hL, e1, e2, hq, hce, hcv, vx_cls hW₁ hcl, st⟩
end Runs
section Rows
variable {p : Program} {l : Launch} {e : Env} {R : Room} {s : State} {m : MethodId} {args : Array Value} {below : List Frame} {meth : Method} {c : Code} {H : Heap} {locs : List Loc} {cells slots : Nat} {Q : State → Prop}
variable {mc ms : Nat} {free : Addr → Prop} {A0 A1 : Nat → Prop} {H0 : Heap} {a : Array Value} {pc : Nat} {ls : Array Slot} {st0 rest : List Value}
theorem vx_keep {st₀ t T' : State} {L : List Loc} (h0 : st₀.heap = H) (e1 : T'.heap = t.heap) (hS : va_S A0 H0 H locs) (hA : ∀ q, q < H.size → A1 q → A0 q) (hf : ∀ q, free q → A0 q) (hL : ∀ q ∈ L, free q.base) (hF : va_F A1 st₀ t) :
    H.size ≤ T'.heap.size ∧ (∀ q : Nat, q < H.size → ¬ A1 q → T'.heap[q]? = H[q]?) ∧ va_S A0 H0 T'.heap (locs ++ L) := by
  obtain ⟨hz, hk⟩ := hF
  rw [h0] at hz hk
  exact ⟨by rw [e1]; exact hz, fun q h1 h2 => by rw [e1]; exact hk q h1 h2,
    ⟨Nat.le_trans hS.1 (by rw [e1]; exact hz), fun q h1 h2 => by rw [e1, hk q (Nat.lt_of_lt_of_le h1 hS.1) (fun z => h2 (hA q (Nat.lt_of_lt_of_le h1 hS.1) z))]; exact hS.2.1 q h1 h2, fun q hq => by
      rcases List.mem_append.mp hq with h | h
      · exact hS.2.2 q h
      · exact hf _ (hL q h)⟩⟩
theorem vx_calli {S SX : Type} {post : Int32 → S → Prop} {px : SX → Prop} {B : S → State → Prop} {BX : String → SX → State → Prop} {AX : Nat → Prop} (hr : vx_Run p l e R s m args below meth c H locs cells slots mc ms (F0 m pc ls st0) rest (va_Qi post B A1 a) (vx_X px BX AX) free) (hS : va_S A0 H0 H locs) (hA : ∀ q, q < H.size → A1 q → A0 q) (hf : ∀ q, free q → A0 q) (hAX : ∀ q, q < H.size → AX q → A0 q)
    (kx : ∀ (E : String) (ce : Cell) (q9 : Addr) (u : SX) (t : State) (H1 : Heap) (locs1 : List Loc), t.heap = H1 → s.vm.Alike t.vm → px u → BX E u t → H.size ≤ H1.size → (∀ q : Nat, q < H.size → ¬ AX q → H1[q]? = H[q]?) → va_S A0 H0 H1 locs1 → H1[q9]? = some ce → ce.vm = .none → s.vm.findClass E = some ce.cls → vx_W p l e R s m args below meth c H1 locs1 (cells + mc) (slots + ms) Q (F0 m pc ls rest) q9)
    (kk : ∀ (r : Int32) (u : S) (t : State) (H1 : Heap) (locs1 : List Loc), t.heap = H1 → s.vm.Alike t.vm → post r u → B u t → H.size ≤ H1.size → (∀ q : Nat, q < H.size → ¬ A1 q → H1[q]? = H[q]?) → va_S A0 H0 H1 locs1 → W p l e R s m args below meth c H1 locs1 (cells + mc) (slots + ms) Q (F0 m (pc + 3) ls (.int r :: rest))) : W p l e R s m args below meth c H locs cells slots Q (F0 m pc ls st0) := by
  intro T hT X
  rcases hr T hT X with ⟨v, st₀, t, T', L, h0, X', hL, e1, e2, ⟨⟨r, u, hv, hp, hb⟩, hF⟩, st⟩ | ⟨q, st₀, t, T', L, E, ce, h0, X', hL, e1, e2, ⟨u, hp, hb, hF⟩, hce, hcv, hcl, st⟩
  · cases hv
    obtain ⟨k1, k2, k3⟩ := vx_keep h0 e1 hS hA hf hL hF
    obtain ⟨t2, a1, b1⟩ := kk r u t T'.heap (locs ++ L) e1.symm (by rw [← e2]; exact X'.warmed.alike) hp hb k1 k2 k3 T' rfl X'
    exact ⟨t2, st t2 a1, b1⟩
  · obtain ⟨k1, k2, k3⟩ := vx_keep h0 e1 hS hAX hf hL hF
    obtain ⟨t2, a1, b1⟩ := kx E ce q u t T'.heap (locs ++ L) e1.symm (by rw [← e2]; exact X'.warmed.alike) hp hb k1 k2 k3 (by rw [e1]; exact hce) hcv hcl T' rfl X'
    exact ⟨t2, st.trans a1, b1⟩
theorem vx_calll {S SX : Type} {post : Int64 → S → Prop} {px : SX → Prop} {B : S → State → Prop} {BX : String → SX → State → Prop} {AX : Nat → Prop} (hr : vx_Run p l e R s m args below meth c H locs cells slots mc ms (F0 m pc ls st0) rest (va_Ql post B A1 a) (vx_X px BX AX) free) (hS : va_S A0 H0 H locs) (hA : ∀ q, q < H.size → A1 q → A0 q) (hf : ∀ q, free q → A0 q) (hAX : ∀ q, q < H.size → AX q → A0 q)
    (kx : ∀ (E : String) (ce : Cell) (q9 : Addr) (u : SX) (t : State) (H1 : Heap) (locs1 : List Loc), t.heap = H1 → s.vm.Alike t.vm → px u → BX E u t → H.size ≤ H1.size → (∀ q : Nat, q < H.size → ¬ AX q → H1[q]? = H[q]?) → va_S A0 H0 H1 locs1 → H1[q9]? = some ce → ce.vm = .none → s.vm.findClass E = some ce.cls → vx_W p l e R s m args below meth c H1 locs1 (cells + mc) (slots + ms) Q (F0 m pc ls rest) q9)
    (kk : ∀ (r : Int64) (u : S) (t : State) (H1 : Heap) (locs1 : List Loc), t.heap = H1 → s.vm.Alike t.vm → post r u → B u t → H.size ≤ H1.size → (∀ q : Nat, q < H.size → ¬ A1 q → H1[q]? = H[q]?) → va_S A0 H0 H1 locs1 → W p l e R s m args below meth c H1 locs1 (cells + mc) (slots + ms) Q (F0 m (pc + 3) ls (.long r :: rest))) : W p l e R s m args below meth c H locs cells slots Q (F0 m pc ls st0) := by
  intro T hT X
  rcases hr T hT X with ⟨v, st₀, t, T', L, h0, X', hL, e1, e2, ⟨⟨r, u, hv, hp, hb⟩, hF⟩, st⟩ | ⟨q, st₀, t, T', L, E, ce, h0, X', hL, e1, e2, ⟨u, hp, hb, hF⟩, hce, hcv, hcl, st⟩
  · cases hv
    obtain ⟨k1, k2, k3⟩ := vx_keep h0 e1 hS hA hf hL hF
    obtain ⟨t2, a1, b1⟩ := kk r u t T'.heap (locs ++ L) e1.symm (by rw [← e2]; exact X'.warmed.alike) hp hb k1 k2 k3 T' rfl X'
    exact ⟨t2, st t2 a1, b1⟩
  · obtain ⟨k1, k2, k3⟩ := vx_keep h0 e1 hS hAX hf hL hF
    obtain ⟨t2, a1, b1⟩ := kx E ce q u t T'.heap (locs ++ L) e1.symm (by rw [← e2]; exact X'.warmed.alike) hp hb k1 k2 k3 (by rw [e1]; exact hce) hcv hcl T' rfl X'
    exact ⟨t2, st.trans a1, b1⟩
theorem vx_callf {S SX : Type} {post : UInt32 → S → Prop} {px : SX → Prop} {B : S → State → Prop} {BX : String → SX → State → Prop} {AX : Nat → Prop} (hr : vx_Run p l e R s m args below meth c H locs cells slots mc ms (F0 m pc ls st0) rest (va_Qf post B A1 a) (vx_X px BX AX) free) (hS : va_S A0 H0 H locs) (hA : ∀ q, q < H.size → A1 q → A0 q) (hf : ∀ q, free q → A0 q) (hAX : ∀ q, q < H.size → AX q → A0 q)
    (kx : ∀ (E : String) (ce : Cell) (q9 : Addr) (u : SX) (t : State) (H1 : Heap) (locs1 : List Loc), t.heap = H1 → s.vm.Alike t.vm → px u → BX E u t → H.size ≤ H1.size → (∀ q : Nat, q < H.size → ¬ AX q → H1[q]? = H[q]?) → va_S A0 H0 H1 locs1 → H1[q9]? = some ce → ce.vm = .none → s.vm.findClass E = some ce.cls → vx_W p l e R s m args below meth c H1 locs1 (cells + mc) (slots + ms) Q (F0 m pc ls rest) q9)
    (kk : ∀ (r : UInt32) (u : S) (t : State) (H1 : Heap) (locs1 : List Loc), t.heap = H1 → s.vm.Alike t.vm → post r u → B u t → H.size ≤ H1.size → (∀ q : Nat, q < H.size → ¬ A1 q → H1[q]? = H[q]?) → va_S A0 H0 H1 locs1 → W p l e R s m args below meth c H1 locs1 (cells + mc) (slots + ms) Q (F0 m (pc + 3) ls (.float r :: rest))) : W p l e R s m args below meth c H locs cells slots Q (F0 m pc ls st0) := by
  intro T hT X
  rcases hr T hT X with ⟨v, st₀, t, T', L, h0, X', hL, e1, e2, ⟨⟨r, u, hv, hp, hb⟩, hF⟩, st⟩ | ⟨q, st₀, t, T', L, E, ce, h0, X', hL, e1, e2, ⟨u, hp, hb, hF⟩, hce, hcv, hcl, st⟩
  · cases hv
    obtain ⟨k1, k2, k3⟩ := vx_keep h0 e1 hS hA hf hL hF
    obtain ⟨t2, a1, b1⟩ := kk r u t T'.heap (locs ++ L) e1.symm (by rw [← e2]; exact X'.warmed.alike) hp hb k1 k2 k3 T' rfl X'
    exact ⟨t2, st t2 a1, b1⟩
  · obtain ⟨k1, k2, k3⟩ := vx_keep h0 e1 hS hAX hf hL hF
    obtain ⟨t2, a1, b1⟩ := kx E ce q u t T'.heap (locs ++ L) e1.symm (by rw [← e2]; exact X'.warmed.alike) hp hb k1 k2 k3 (by rw [e1]; exact hce) hcv hcl T' rfl X'
    exact ⟨t2, st.trans a1, b1⟩
theorem vx_calld {S SX : Type} {post : UInt64 → S → Prop} {px : SX → Prop} {B : S → State → Prop} {BX : String → SX → State → Prop} {AX : Nat → Prop} (hr : vx_Run p l e R s m args below meth c H locs cells slots mc ms (F0 m pc ls st0) rest (va_Qd post B A1 a) (vx_X px BX AX) free) (hS : va_S A0 H0 H locs) (hA : ∀ q, q < H.size → A1 q → A0 q) (hf : ∀ q, free q → A0 q) (hAX : ∀ q, q < H.size → AX q → A0 q)
    (kx : ∀ (E : String) (ce : Cell) (q9 : Addr) (u : SX) (t : State) (H1 : Heap) (locs1 : List Loc), t.heap = H1 → s.vm.Alike t.vm → px u → BX E u t → H.size ≤ H1.size → (∀ q : Nat, q < H.size → ¬ AX q → H1[q]? = H[q]?) → va_S A0 H0 H1 locs1 → H1[q9]? = some ce → ce.vm = .none → s.vm.findClass E = some ce.cls → vx_W p l e R s m args below meth c H1 locs1 (cells + mc) (slots + ms) Q (F0 m pc ls rest) q9)
    (kk : ∀ (r : UInt64) (u : S) (t : State) (H1 : Heap) (locs1 : List Loc), t.heap = H1 → s.vm.Alike t.vm → post r u → B u t → H.size ≤ H1.size → (∀ q : Nat, q < H.size → ¬ A1 q → H1[q]? = H[q]?) → va_S A0 H0 H1 locs1 → W p l e R s m args below meth c H1 locs1 (cells + mc) (slots + ms) Q (F0 m (pc + 3) ls (.double r :: rest))) : W p l e R s m args below meth c H locs cells slots Q (F0 m pc ls st0) := by
  intro T hT X
  rcases hr T hT X with ⟨v, st₀, t, T', L, h0, X', hL, e1, e2, ⟨⟨r, u, hv, hp, hb⟩, hF⟩, st⟩ | ⟨q, st₀, t, T', L, E, ce, h0, X', hL, e1, e2, ⟨u, hp, hb, hF⟩, hce, hcv, hcl, st⟩
  · cases hv
    obtain ⟨k1, k2, k3⟩ := vx_keep h0 e1 hS hA hf hL hF
    obtain ⟨t2, a1, b1⟩ := kk r u t T'.heap (locs ++ L) e1.symm (by rw [← e2]; exact X'.warmed.alike) hp hb k1 k2 k3 T' rfl X'
    exact ⟨t2, st t2 a1, b1⟩
  · obtain ⟨k1, k2, k3⟩ := vx_keep h0 e1 hS hAX hf hL hF
    obtain ⟨t2, a1, b1⟩ := kx E ce q u t T'.heap (locs ++ L) e1.symm (by rw [← e2]; exact X'.warmed.alike) hp hb k1 k2 k3 (by rw [e1]; exact hce) hcv hcl T' rfl X'
    exact ⟨t2, st.trans a1, b1⟩
theorem vx_callv {S SX : Type} {post : S → Prop} {px : SX → Prop} {B : S → State → Prop} {BX : String → SX → State → Prop} {AX : Nat → Prop} (hr : vx_Run p l e R s m args below meth c H locs cells slots mc ms (F0 m pc ls st0) rest (va_Qv post B A1 a) (vx_X px BX AX) free) (hS : va_S A0 H0 H locs) (hA : ∀ q, q < H.size → A1 q → A0 q) (hf : ∀ q, free q → A0 q) (hAX : ∀ q, q < H.size → AX q → A0 q)
    (kx : ∀ (E : String) (ce : Cell) (q9 : Addr) (u : SX) (t : State) (H1 : Heap) (locs1 : List Loc), t.heap = H1 → s.vm.Alike t.vm → px u → BX E u t → H.size ≤ H1.size → (∀ q : Nat, q < H.size → ¬ AX q → H1[q]? = H[q]?) → va_S A0 H0 H1 locs1 → H1[q9]? = some ce → ce.vm = .none → s.vm.findClass E = some ce.cls → vx_W p l e R s m args below meth c H1 locs1 (cells + mc) (slots + ms) Q (F0 m pc ls rest) q9)
    (kk : ∀ (u : S) (t : State) (H1 : Heap) (locs1 : List Loc), t.heap = H1 → s.vm.Alike t.vm → post u → B u t → H.size ≤ H1.size → (∀ q : Nat, q < H.size → ¬ A1 q → H1[q]? = H[q]?) → va_S A0 H0 H1 locs1 → W p l e R s m args below meth c H1 locs1 (cells + mc) (slots + ms) Q (F0 m (pc + 3) ls (rest))) : W p l e R s m args below meth c H locs cells slots Q (F0 m pc ls st0) := by
  intro T hT X
  rcases hr T hT X with ⟨v, st₀, t, T', L, h0, X', hL, e1, e2, ⟨⟨u, hv, hp, hb⟩, hF⟩, st⟩ | ⟨q, st₀, t, T', L, E, ce, h0, X', hL, e1, e2, ⟨u, hp, hb, hF⟩, hce, hcv, hcl, st⟩
  · cases hv
    obtain ⟨k1, k2, k3⟩ := vx_keep h0 e1 hS hA hf hL hF
    obtain ⟨t2, a1, b1⟩ := kk u t T'.heap (locs ++ L) e1.symm (by rw [← e2]; exact X'.warmed.alike) hp hb k1 k2 k3 T' rfl X'
    exact ⟨t2, st t2 a1, b1⟩
  · obtain ⟨k1, k2, k3⟩ := vx_keep h0 e1 hS hAX hf hL hF
    obtain ⟨t2, a1, b1⟩ := kx E ce q u t T'.heap (locs ++ L) e1.symm (by rw [← e2]; exact X'.warmed.alike) hp hb k1 k2 k3 (by rw [e1]; exact hce) hcv hcl T' rfl X'
    exact ⟨t2, st.trans a1, b1⟩
/-- caught by the row x of this method's table; the rows ahead don't take it -/
theorem vx_catch {own name : String} {E : String} {ce : Cell} {q : Addr} (hown : s.vm.findClass own = some m.cls) (pre : List ExceptionTableEntry) (x : ExceptionTableEntry) (suf : List ExceptionTableEntry) (hsplit : c.exceptionTable.toList = pre ++ x :: suf)
    (hpass : ∀ z ∈ pre, covers z pc = false ∨ (z.catchType ≠ 0 ∧ ∃ nm : String, (Cond.classLink own z.catchType nm).before args s = true ∧ va_Nc E nm s)) (hx : covers x pc = true) (h0 : x.catchType ≠ 0)
    (hlink : (Cond.classLink own x.catchType name).before args s = true) (hcast : (Cond.castable E name).before args s = true) (hcell : H[q]? = some ce) (hv : ce.vm = .none) (hcl : s.vm.findClass E = some ce.cls)
    (kk : W p l e R s m args below meth c H locs cells slots Q (F0 m x.handlerPc ls [.ref q])) : vx_W p l e R s m args below meth c H locs cells slots Q (F0 m pc ls rest) q := by
  intro T hT X
  have hpl : e.platform.magicAccessors = ({} : Platform).magicAccessors := by rw [X.admits.platform]
  obtain ⟨c3, c4, hc3, hc4, hasg⟩ := Cond.castable_spec hcast
  cases Option.some.inj (hc3.symm.trans hcl)
  obtain ⟨c5, hc5, hcl5⟩ := Cond.classLink_spec hown hlink e.platform hpl
  cases Option.some.inj (hc4.symm.trans hc5)
  obtain ⟨vm', X', st⟩ := X.thenCaughtThrough q (g := F0 m pc ls rest) rfl (Steps.refl _) (by rw [hT]; exact hcell) (by rw [hv]; rfl) (by obtain ⟨k9, h9, -⟩ := Vm.findClass_spec hcl; exact ⟨k9, h9⟩) pre x suf hsplit
    (fun z hz => by
      rcases hpass z hz with h | ⟨hz0, nm, hl1, hn1⟩
      · exact Or.inl h
      · obtain ⟨c6, hc6, hcl6⟩ := Cond.classLink_spec hown hl1 e.platform hpl
        obtain ⟨a8, b8, h1, h2, h3⟩ := hn1
        cases Option.some.inj (h1.symm.trans hcl)
        cases Option.some.inj (h2.symm.trans hc6)
        exact Or.inr ⟨hz0, _, hcl6, h3⟩) hx (Or.inr ⟨h0, c4, hcl5, hasg⟩)
  obtain ⟨t, a1, b1⟩ := kk (T.setVm vm') hT X'
  exact ⟨t, st.trans a1, b1⟩
end Rows
section Ends
variable {p : Program} {l : Launch} {e : Env} {R : Room} {s : State} {m : MethodId} {args : Array Value} {below : List Frame} {meth : Method} {c : Code} {H : Heap} {locs : List Loc} {cells slots : Nat} {Q : State → Prop}
variable {mc ms : Nat} {free : Addr → Prop} {A0 A1 : Nat → Prop} {H0 : Heap} {a : Array Value} {ls : Array Slot} {st0 rest : List Value}
variable {Qc : Array Value → State → Outcome → State → Prop} {XC : String → State → State → Prop}
/-- what a body that may throw owes at its end -/
def vx_MQ (below : List Frame) (Qc : Array Value → State → Outcome → State → Prop) (XC : String → State → State → Prop) (a : Array Value) (s : State) (mc ms : Nat) (free : Addr → Prop) : State → Prop := fun t =>
  ∃ o, t.status = .running ∧ Ended t below o ∧ vx_Q Qc XC mc ms free a s o t
theorem vx_ret {g : JFrame} {mc ms : Nat} (k : W p l e R s m args below meth c H locs cells slots (MQ below Qc args s mc ms free) g) : W p l e R s m args below meth c H locs cells slots (vx_MQ below Qc XC args s mc ms free) g := by
  intro T hT X
  obtain ⟨t, a1, o, b1, b2, b3, b4⟩ := k T hT X
  exact ⟨t, a1, o, b1, b2, Or.inl ⟨b3, b4⟩⟩
/-- not caught here: it goes on to the caller -/
theorem vx_widen {g : JFrame} {q : Addr} {k n : Nat} (h1 : cells ≤ k) (h2 : slots ≤ n) (kk : vx_W p l e R s m args below meth c H locs k n Q g q) : vx_W p l e R s m args below meth c H locs cells slots Q g q := fun T hT X => kk T hT (stand_widen X h1 h2)
theorem vx_out {pc : Nat} {E : String} {ce : Cell} {q : Addr} {mc ms : Nat} (hout : ∀ x ∈ c.exceptionTable.toList, covers x pc = false) (hlocks : meth.locks = false) (hcell : H[q]? = some ce) (hv : ce.vm = .none) (hcl : s.vm.findClass E = some ce.cls)
    (hx : ∀ t : State, t.heap = H → s.vm.Alike t.vm → XC E s t) (hf : ∀ z ∈ locs, free z.base) (hc : cells ≤ mc) (hs : slots ≤ ms) :
    vx_W p l e R s m args below meth c H locs cells slots (vx_MQ below Qc XC args s mc ms free) (F0 m pc ls rest) q := by
  intro T hT X
  obtain ⟨st1, hrun, hend, hW, hsm⟩ := X.leaveThrown q (g := F0 m pc ls rest) rfl rfl rfl hout hlocks
  have hcell9 : (T.setFrames (.throwing q :: below)).heap[q]? = some ce := by
    show T.heap[q]? = some ce
    rw [hT]; exact hcell
  exact ⟨_, st1, .threw q, hrun, hend, Or.inr ⟨q, rfl, E, ce, locs, hx _ hT hW.alike, hcell9, hv, hcl, hW, hsm.mono hc hs, hf⟩⟩
theorem vx_frame {U : State} {k n : Nat} (h : s.sameButNew ({ U with vm := s.vm } : State) locs k n) : s.heap.size ≤ U.heap.size ∧ ∀ q : Nat, q < s.heap.size → (∀ z ∈ locs, z.base ≠ q) → U.heap[q]? = s.heap[q]? := by
  obtain ⟨-, h2, -, -, -, h6⟩ := h
  refine ⟨h2, fun q hq hz => ?_⟩
  obtain ⟨c9, e1, e2, e3, e4⟩ := h6 q _ (Array.getElem?_eq_getElem hq)
  have hs : c9.slots = (s.heap[q]).slots := Array.ext_getElem? fun i => e4 i fun hm => hz _ hm rfl
  have h9 : c9 = s.heap[q] := by
    rw [hs] at e2
    exact e2
  have e5 : U.heap[q]? = some c9 := e1
  rw [e5, h9, Array.getElem?_eq_getElem hq]
/-- the words of a throw but the four that speak of the heap -/
def vx_no (w : Cond) : Bool := decide (w ≠ .isRef (.static Bundle.tN "UNASSIGNED_STACK" Bundle.steD)) && decide (w ≠ .isRef (.static Bundle.tN "SUPPRESSED_SENTINEL" Bundle.listD)) && decide (w ≠ .laysStatic Bundle.tN "UNASSIGNED_STACK" Bundle.steD) && decide (w ≠ .laysStatic Bundle.tN "SUPPRESSED_SENTINEL" Bundle.listD)
def vx_at0 (own : String) (ic : Nat) (X : String) (names : List String) : List Cond := (Bundle.ownAtoms0 own ic X names).filter vx_no
def vx_atS (own : String) (ic : Nat) (X : String) (names : List String) : List Cond := (Bundle.ownAtoms own ic X names).filter vx_no
/-- a word that the tables alone decide, or a good one -/
def vx_ot (w : Cond) : Bool := w.onTables || goodWord w
theorem vx_ot_at {args a' : Array Value} {s U : State} {w : Cond} (hW : s.WarmedH U.vm) (hvm : s.vm = U.vm) (hg : vx_ot w = true) (h : w.before args s = true) : w.before a' U = true := by
  simp only [vx_ot, Bool.or_eq_true] at hg
  rcases hg with hg | hg
  · exact va_tabs hg hvm h
  · exact word_at hW (good_of_word hg) h
/-- a list's words: the good ones out of the method's own list, the others by premises of their own -/
theorem vx_hat {args : Array Value} {s : State} {L B : List Cond} (h1 : ∀ w ∈ L.filter goodWord, w.before args s = true) (h2 : ∀ w ∈ L.filter (fun w => !goodWord w), w ∈ B) (h3 : ∀ w ∈ B, w.before args s = true) : ∀ w ∈ L, w.before args s = true := by
  intro w hw
  by_cases g : goodWord w = true
  · exact h1 w (List.mem_filter.mpr ⟨hw, g⟩)
  · refine h3 w (h2 w (List.mem_filter.mpr ⟨hw, ?_⟩))
    show (!goodWord w) = true
    cases hgw : goodWord w
    · rfl
    · exact absurd hgw g
theorem vx_c {args : Array Value} {s : State} {w : Cond} {B : List Cond} (h : w.before args s = true) (t : ∀ w ∈ B, w.before args s = true) : ∀ w' ∈ w :: B, w'.before args s = true := fun w' h' => (List.mem_cons.mp h').elim (fun e => by rw [e]; exact h) (t w')
theorem vx_n {args : Array Value} {s : State} : ∀ w ∈ ([] : List Cond), w.before args s = true := fun _ h => nomatch h
theorem vx_own {args : Array Value} {s : State} {L : List Cond} (h1 : ∀ w ∈ L.filter vx_no, w.before args s = true)
    (hU : (Cond.isRef (.static Bundle.tN "UNASSIGNED_STACK" Bundle.steD)).before args s = true) (hN : (Cond.isRef (.static Bundle.tN "SUPPRESSED_SENTINEL" Bundle.listD)).before args s = true)
    (lU : (Cond.laysStatic Bundle.tN "UNASSIGNED_STACK" Bundle.steD).before args s = true) (lN : (Cond.laysStatic Bundle.tN "SUPPRESSED_SENTINEL" Bundle.listD).before args s = true) : ∀ w ∈ L, w.before args s = true := by
  intro w hw
  by_cases e1 : w = .isRef (.static Bundle.tN "UNASSIGNED_STACK" Bundle.steD)
  · rw [e1]; exact hU
  · by_cases e2 : w = .isRef (.static Bundle.tN "SUPPRESSED_SENTINEL" Bundle.listD)
    · rw [e2]; exact hN
    · by_cases e3 : w = .laysStatic Bundle.tN "UNASSIGNED_STACK" Bundle.steD
      · rw [e3]; exact lU
      · by_cases e4 : w = .laysStatic Bundle.tN "SUPPRESSED_SENTINEL" Bundle.listD
        · rw [e4]; exact lN
        · exact h1 w (List.mem_filter.mpr ⟨hw, by unfold vx_no; rw [decide_eq_true e1, decide_eq_true e2, decide_eq_true e3, decide_eq_true e4]; rfl⟩)
/-- where a static field lies, its class's statics cell in H -/
def vx_L (C n d : String) (A : Nat → Prop) (U : State) (H : Heap) : Prop := ∃ (c : ClassId) (k : Class) (i : Nat) (f : Field) (a : Nat) (cell : Cell), U.vm.findClass C = some c ∧ U.fieldFound? C n d = some (c, k, i, f) ∧ f.isStatic = true ∧ k.statics = some a ∧ H[a]? = some cell ∧ cell.vm.isStatics = true ∧ cell.cls = c ∧ f.slot < cell.slots.size ∧ k.staticTypes[f.slot]? = some f.type ∧ ¬ A a
theorem vx_L.moved {C n d : String} {A : Nat → Prop} {u U : State} {H : Heap} (hvm : u.vm.Alike U.vm) (h : vx_L C n d A u H) : vx_L C n d A U H := by
  obtain ⟨c, k, i, f, a, cell, h1, h2, h3, h4, h5, h6, h7, h8, h9, h10⟩ := h
  obtain ⟨k', hi', he⟩ := State.fieldFound?_setVm hvm h2
  exact ⟨c, k', i, f, a, cell, by rw [hvm.findClass]; exact h1, hi', h3, by rw [he]; exact h4, h5, h6, h7, h8, by rw [he]; exact h9, h10⟩
theorem vx_L.kept {C n d : String} {A : Nat → Prop} {U : State} {H H1 : Heap} (h : vx_L C n d A U H) (hq : ∀ a : Nat, a < H.size → ¬ A a → H1[a]? = H[a]?) : vx_L C n d A U H1 := by
  obtain ⟨c, k, i, f, a, cell, h1, h2, h3, h4, h5, h6, h7, h8, h9, h10⟩ := h
  exact ⟨c, k, i, f, a, cell, h1, h2, h3, h4, by rw [hq a (Array.getElem?_eq_some_iff.mp h5).1 h10]; exact h5, h6, h7, h8, h9, h10⟩
theorem vx_L.narrow {C n d : String} {A B : Nat → Prop} {U : State} {H : Heap} (h : vx_L C n d A U H) (hAB : ∀ q, B q → A q) : vx_L C n d B U H := by
  obtain ⟨c, k, i, f, a, cell, h1, h2, h3, h4, h5, h6, h7, h8, h9, h10⟩ := h
  exact ⟨c, k, i, f, a, cell, h1, h2, h3, h4, h5, h6, h7, h8, h9, fun z => h10 (hAB _ z)⟩
theorem vx_L.word {C n d : String} {A : Nat → Prop} {s : State} {args : Array Value} (h : vx_L C n d A s s.heap) : (Cond.laysStatic C n d).before args s = true := by
  obtain ⟨c, k, i, f, a, cell, h1, h2, h3, h4, h5, h6, h7, h8, h9, -⟩ := h
  show (Cond.laysStatic C n d).holds args s none s [] = true
  exact Cond.laysStatic_of h1 h2 h3 h4 h5 h6 h7 h8 h9
/-- .. and what it holds: null or some reference -/
def vx_Zq (C n d : String) (A : Nat → Prop) (U : State) (H : Heap) : Prop := va_Zq C n d A U H ∧ vx_L C n d A U H
theorem vx_Zq.moved {C n d : String} {A : Nat → Prop} {u U : State} {H : Heap} (hvm : u.vm.Alike U.vm) (h : vx_Zq C n d A u H) : vx_Zq C n d A U H := ⟨va_Zq.moved hvm h.1, vx_L.moved hvm h.2⟩
theorem vx_Zq.kept {C n d : String} {A : Nat → Prop} {U : State} {H H1 : Heap} (h : vx_Zq C n d A U H) (hq : ∀ a : Nat, a < H.size → ¬ A a → H1[a]? = H[a]?) : vx_Zq C n d A U H1 := ⟨va_Zq.kept h.1 hq, vx_L.kept h.2 hq⟩
theorem vx_Zq.narrow {C n d : String} {A B : Nat → Prop} {U : State} {H : Heap} (h : vx_Zq C n d A U H) (hAB : ∀ q, B q → A q) : vx_Zq C n d B U H := ⟨va_Zq.narrow h.1 hAB, vx_L.narrow h.2 hAB⟩
theorem vx_Zqof {args : Array Value} {s : State} {C n d : String} {A : Nat → Prop} (hl : (Cond.laysStatic C n d).before args s = true) (hini : (Cond.initialized C).before args s = true) (h : (Cond.isRef (.static C n d)).before args s = true) (hA : ∀ a : Nat, a < s.heap.size → ¬ A a) : vx_Zq C n d A s s.heap := by
  refine ⟨va_Zqof hl hini h hA, ?_⟩
  obtain ⟨c, k, i, f, a, cell, h1, h2, h3, h4, h5, h6, h7, h8, h9⟩ := Cond.laysStatic_spec hl
  exact ⟨c, k, i, f, a, cell, h1, h2, h3, h4, h5, h6, h7, h8, h9, hA a (Array.getElem?_eq_some_iff.mp h5).1⟩
theorem vx_isRef {C n d : String} {v : Value} {A : Nat → Prop} {s : State} {args : Array Value} (h : va_Z C n d v A s s.heap) (hv : v.isRef = true) : (Cond.isRef (.static C n d)).before args s = true := by
  obtain ⟨cf, kf, fi, f, a, cell, h1, h2, h3, h4, h5, h6, h7, -⟩ := h
  have he : (Term.static C n d).eval args s none [] s = some v := by
    simp [Term.eval, State.fieldNamed?, h1, h2, h4, h5, h6, h7]
  simp only [Cond.before, Cond.holds, Cond.value, he]
  cases v <;> simp_all [Value.isRef]
theorem vx_isRefq {C n d : String} {A : Nat → Prop} {s : State} {args : Array Value} (h : va_Zq C n d A s s.heap) : (Cond.isRef (.static C n d)).before args s = true := by
  rcases h with h | ⟨t, h⟩
  · exact vx_isRef h rfl
  · exact vx_isRef h rfl
/-- the same frame, seen from here: as if the method were called anew in this heap -/
theorem vx_rebase {T : State} (X : Stand p l e R s m args below meth c T locs cells slots) {R' : Room} (hf : R'.frames ≤ R.frames) (hl : R'.locals ≤ R.locals) (hc : cells + R'.cells ≤ R.cells) (hs : slots + R'.slots ≤ R.slots) :
    Stand p l e R' ((T.setVm s.vm).setFrames (.invoking m args :: below)) m args below meth c T [] 0 0 := by
  have htop : (T.setVm s.vm).topJava?.isSome := X.here.top
  have hF : ((T.setVm s.vm).setFrames (.invoking m args :: below)).frames = .invoking m args :: below := State.frames_setFrames _ (State.cur_lt_of_top htop)
  obtain ⟨g₀, hg0⟩ := Option.isSome_iff_exists.mp htop
  obtain ⟨r, hr⟩ := State.topJava?_eq_some.mp hg0
  have hl9 : e.platform.stackLimits (T.setVm s.vm).me = e.platform.stackLimits s.me := X.limits
  have hb9 : (T.setVm s.vm).me.stackBytes = s.me.stackBytes := X.bytes
  refine ⟨X.admits, X.cas, X.clock, hF, ?_, X.hears, X.method, X.code, X.here, X.tail, X.warmed, ?_, ?_, ?_⟩
  · have h := X.room
    have hU : ((T.setVm s.vm).setFrames (.invoking m args :: below)).localsInUse = s.localsInUse := by
      rw [State.localsInUse_invoking hF (meth := meth) (c := c) X.method X.code, State.localsInUse_invoking X.frames X.method X.code]
    simp only [State.hasRoom, Bool.and_eq_true, decide_eq_true_eq] at h ⊢
    obtain ⟨⟨⟨⟨h1, h2, h3, h4, h5, h6⟩, h7⟩, h8⟩, h9⟩ := h
    rw [X.frames, List.length_cons] at h2 h3
    have q1 := X.heapSize
    have q2 := X.used
    simp only [hF, hU, List.length_cons, State.stackLimits_setFrames, State.stackBytes_setFrames, hl9, hb9]
    refine ⟨⟨⟨⟨by omega, by omega, by omega, by omega, by omega, h6⟩, ?_⟩, ?_⟩, X.book⟩
    · show T.heap.size + R'.cells ≤ e.platform.maxCells
      omega
    · show T.slotsUsed + R'.slots ≤ e.platform.maxSlots
      omega
  · rw [State.stackLimits_setFrames]; rfl
  · rw [State.stackBytes_setFrames]; rfl
  · refine ⟨?_, Nat.le_refl _, Nat.le_refl _, ?_, ?_, fun a c9 h9 => ⟨c9, h9, rfl, rfl, fun _ _ => rfl⟩⟩
    · obtain ⟨t, ht, -⟩ := State.frames_cons hr
      show T.setVm s.vm = { ((T.setVm s.vm).setFrames (.invoking m args :: below)).setFrames (T.setVm s.vm).frames with heap := T.heap, slotsUsed := T.slotsUsed }
      rw [State.setFrames_setFrames, State.setFrames_self ht]
      rfl
    · show T.slotsUsed = T.slotsUsed + ((T.heap.toList.drop T.heap.size).map (·.slots.size)).sum
      rw [List.drop_eq_nil_of_le (Nat.le_of_eq Array.length_toList)]
      rfl
    · show ((T.heap.toList.drop T.heap.size).map (·.slots.size)).sum ≤ 0
      rw [List.drop_eq_nil_of_le (Nat.le_of_eq Array.length_toList)]
      exact Nat.le_refl _
/-- 'throw new E()': new; dup; invokespecial; athrow -/
theorem vx_throw0 {cc : ByteArray} {pc : Nat} (hexec : p.tables.exec = Jvm.exec) (hb : c.code = cc) (hl : l.stackTraces = false) {own cls : String} {names : List String} {ik ic mc ms : Nat} {A : Nat → Prop}
    (hown : s.vm.findClass own = some m.cls) (hcls : Bundle.fit cls = true) (hnames : ∀ n ∈ names, Bundle.fit n = true)
    (hk : (Cond.classLink own ik cls).before args s = true) (hini : (Cond.initialized cls).before args s = true) (hat : ∀ w ∈ vx_at0 own ic cls names, w.before args s = true)
    (hgood : ∀ w ∈ Cond.classLink own ik cls :: Cond.initialized cls :: vx_at0 own ic cls names, vx_ot w = true)
    (hU : vx_Zq Bundle.tN "UNASSIGNED_STACK" Bundle.steD A s s.heap) (hN : vx_Zq Bundle.tN "SUPPRESSED_SENTINEL" Bundle.listD A s s.heap) (hS : va_S A s.heap H locs) (hsize : ls.size = c.maxLocals)
    (d0 : decode cc pc = .ok (.new ik, 3)) (d3 : decode cc (pc + 3) = .ok (.dup, 1)) (d4 : decode cc (pc + 4) = .ok (.invokespecial ic, 3)) (d7 : decode cc (pc + 7) = .ok (.athrow, 1))
    (hout : ∀ x ∈ c.exceptionTable.toList, covers x (pc + 7) = false)
    (hRframes : names.length + 3 < R.frames) (hRlocals : (rest.map fun v => v.category).sum + (13 * (names.length + 1) + 42) ≤ R.locals) (hRcells : cells + 1 ≤ R.cells) (hRslots : slots + 6 ≤ R.slots) (hlocks : meth.locks = false)
    (hx : ∀ t : State, s.vm.Alike t.vm → H.size ≤ t.heap.size → (∀ q : Nat, q < H.size → t.heap[q]? = H[q]?) → XC cls s t)
    (hf : ∀ z ∈ locs, free z.base) (hc : cells + 1 ≤ mc) (hs : slots + 6 ≤ ms) :
    W p l e R s m args below meth c H locs cells slots (vx_MQ below Qc XC args s mc ms free) (F0 m pc ls rest) := by
  intro T hT X
  have htr : e.platform.stackTraces = false := (show e.platform.stackTraces = l.stackTraces by rw [X.admits.platform]).trans hl
  have Y := vx_rebase X (R' := { frames := R.frames, locals := R.locals, cells := 1, slots := 6 }) (Nat.le_refl _) (Nat.le_refl _) hRcells hRslots
  obtain ⟨s', hA⟩ : ∃ z, z = (T.setVm s.vm).setFrames (.invoking m args :: below) := ⟨_, rfl⟩
  rw [← hA] at Y
  have hvm : s'.vm = s.vm := by rw [hA]; rfl
  have hhp : s'.heap = H := by rw [hA]; exact hT
  have hW0 : s.WarmedH s'.vm := by rw [hvm]; exact State.WarmedH.refl s
  have hat' : ∀ w ∈ vx_at0 own ic cls names, w.before args s' = true := fun w hw => vx_ot_at hW0 hvm.symm (hgood w (List.mem_cons_of_mem _ (List.mem_cons_of_mem _ hw))) (hat w hw)
  have hk' : (Cond.classLink own ik cls).before args s' = true := vx_ot_at hW0 hvm.symm (hgood _ List.mem_cons_self) hk
  have hini' : (Cond.initialized cls).before args s' = true := vx_ot_at hW0 hvm.symm (hgood _ (List.mem_cons_of_mem _ List.mem_cons_self)) hini
  have hU' : vx_Zq Bundle.tN "UNASSIGNED_STACK" Bundle.steD A s' s'.heap := by rw [hhp]; exact vx_Zq.moved hW0.alike (hU.kept hS.2.1)
  have hN' : vx_Zq Bundle.tN "SUPPRESSED_SENTINEL" Bundle.listD A s' s'.heap := by rw [hhp]; exact vx_Zq.moved hW0.alike (hN.kept hS.2.1)
  have h : ∀ w ∈ Bundle.ownAtoms0 own ic cls names, w.before args s' = true := vx_own hat' (vx_isRefq hU'.1) (vx_isRefq hN'.1) hU'.2.word hN'.2.word
  have hown' : s'.vm.findClass own = some m.cls := by rw [hvm]; exact hown
  have hins : (Cond.instantiable cls 6).before args s' = true := h _ (by simp [Bundle.ownAtoms0])
  obtain ⟨vm₁, cX, kX, hfX, hkX, -, -, X₁, st1⟩ := Y.newCold hexec (own := own) (C := cls) (index := ik) (n := 6) hown' hk' hins hini'
    (g := F0 m pc ls rest) rfl (by rw [hb]; exact d0) (Nat.le_refl _) (Nat.le_refl _)
  generalize hT1 : (T.setVm vm₁).pushCell { cls := cX, slots := kX.instanceTypes.map defaultValue, vm := .none } = T1 at X₁ st1
  have hcat : (Value.ref T.heap.size).category = 1 := rfl
  have hcellA : T1.heap[T.heap.size]? = some (freshCell cX kX) := by rw [← hT1]; exact State.heap_pushCell_size _ _
  have d3' : decode c.code (pc + 3) = .ok (.dup, 1) := by rw [hb]; exact d3
  obtain ⟨U, hsteps, hrun, hend, hW, hsame, ce, hce, hO⟩ := X₁.ctorThrow0 hexec htr (own := own) (cls := cls) (names := names) (ic := ic) hown' hcls hnames h (fun x hx => nomatch hx) hfX hkX hcellA (by rw [hhp, hT]; exact Nat.le_refl _)
    (g := { method := m, pc := pc + 4, locals := ls, stack := .ref T.heap.size :: .ref T.heap.size :: rest, locked := none }) rfl hsize rfl rfl (rest := rest) rfl
    (by rw [hb]; exact d4) (by rw [hb]; exact d7) hout hRframes (by simp only [List.map_cons, List.sum_cons, hcat]; omega) hlocks
  obtain ⟨f1, f2⟩ := vx_frame hsame
  rw [hhp] at f1 f2
  have hWs : s.WarmedH U.vm := State.WarmedH.trans hW0 hW
  have hcl : s.vm.findClass cls = some ce.cls := by
    have h9 := hO.cls
    rw [hvm] at h9
    exact h9
  have hall : s.sameButNew ({ U with vm := s.vm } : State) locs mc ms := by
    subst hA
    obtain ⟨e1, e2⟩ := hsame
    rw [State.setFrames_setFrames] at e1
    have h2 : (T.setVm s.vm).sameButNew ({ U with vm := s.vm } : State) [] (0 + 1) (0 + 6) := ⟨e1, e2⟩
    have h3 := X.same.trans h2
    rw [List.append_nil] at h3
    exact h3.mono hc hs
  refine ⟨U, ?_, .threw T.heap.size, hrun, hend, Or.inr ⟨T.heap.size, rfl, cls, ce, locs, hx U hWs.alike f1 (fun q hq => f2 q hq (fun z hz => nomatch hz)), hce, hO.vm, hcl, hWs, hall, hf⟩⟩
  refine st1 _ ?_
  show Steps p.tables e below (T1.setTop { method := m, pc := pc + 3, locals := ls, stack := .ref T.heap.size :: rest, locked := none }) _
  jvm_step X₁.here [X₁.here.top, hexec, d3', Value.category]
  exact hsteps
/-- 'throw new E("text")': new; dup; ldc; invokespecial; athrow -/
theorem vx_throwS {cc : ByteArray} {pc : Nat} (hexec : p.tables.exec = Jvm.exec) (hb : c.code = cc) (hl : l.stackTraces = false) {own cls text : String} {names : List String} {ik is ic mc ms sa : Nat} {A : Nat → Prop}
    (hown : s.vm.findClass own = some m.cls) (hcls : Bundle.fit cls = true) (hnames : ∀ n ∈ names, Bundle.fit n = true)
    (hk : (Cond.classLink own ik cls).before args s = true) (hini : (Cond.initialized cls).before args s = true) (hstr : vk_R own is text sa s) (hat : ∀ w ∈ vx_atS own ic cls names, w.before args s = true)
    (hgood : ∀ w ∈ Cond.classLink own ik cls :: Cond.initialized cls :: vx_atS own ic cls names, vx_ot w = true)
    (hU : vx_Zq Bundle.tN "UNASSIGNED_STACK" Bundle.steD A s s.heap) (hN : vx_Zq Bundle.tN "SUPPRESSED_SENTINEL" Bundle.listD A s s.heap) (hS : va_S A s.heap H locs) (hsize : ls.size = c.maxLocals)
    (d0 : decode cc pc = .ok (.new ik, 3)) (d3 : decode cc (pc + 3) = .ok (.dup, 1)) (d4 : decode cc (pc + 4) = .ok (.ldc is, 2)) (d6 : decode cc (pc + 6) = .ok (.invokespecial ic, 3)) (d9 : decode cc (pc + 9) = .ok (.athrow, 1))
    (hout : ∀ x ∈ c.exceptionTable.toList, covers x (pc + 9) = false)
    (hRframes : names.length + 3 < R.frames) (hRlocals : (rest.map fun v => v.category).sum + (13 * (names.length + 1) + 43) ≤ R.locals) (hRcells : cells + 1 ≤ R.cells) (hRslots : slots + 6 ≤ R.slots) (hlocks : meth.locks = false)
    (hx : ∀ t : State, s.vm.Alike t.vm → H.size ≤ t.heap.size → (∀ q : Nat, q < H.size → t.heap[q]? = H[q]?) → XC cls s t)
    (hf : ∀ z ∈ locs, free z.base) (hc : cells + 1 ≤ mc) (hs : slots + 6 ≤ ms) :
    W p l e R s m args below meth c H locs cells slots (vx_MQ below Qc XC args s mc ms free) (F0 m pc ls rest) := by
  intro T hT X
  have htr : e.platform.stackTraces = false := (show e.platform.stackTraces = l.stackTraces by rw [X.admits.platform]).trans hl
  have Y := vx_rebase X (R' := { frames := R.frames, locals := R.locals, cells := 1, slots := 6 }) (Nat.le_refl _) (Nat.le_refl _) hRcells hRslots
  obtain ⟨s', hA⟩ : ∃ z, z = (T.setVm s.vm).setFrames (.invoking m args :: below) := ⟨_, rfl⟩
  rw [← hA] at Y
  have hvm : s'.vm = s.vm := by rw [hA]; rfl
  have hhp : s'.heap = H := by rw [hA]; exact hT
  have hW0 : s.WarmedH s'.vm := by rw [hvm]; exact State.WarmedH.refl s
  have hat' : ∀ w ∈ vx_atS own ic cls names, w.before args s' = true := fun w hw => vx_ot_at hW0 hvm.symm (hgood w (List.mem_cons_of_mem _ (List.mem_cons_of_mem _ hw))) (hat w hw)
  have hk' : (Cond.classLink own ik cls).before args s' = true := vx_ot_at hW0 hvm.symm (hgood _ List.mem_cons_self) hk
  have hini' : (Cond.initialized cls).before args s' = true := vx_ot_at hW0 hvm.symm (hgood _ (List.mem_cons_of_mem _ List.mem_cons_self)) hini
  have hU' : vx_Zq Bundle.tN "UNASSIGNED_STACK" Bundle.steD A s' s'.heap := by rw [hhp]; exact vx_Zq.moved hW0.alike (hU.kept hS.2.1)
  have hN' : vx_Zq Bundle.tN "SUPPRESSED_SENTINEL" Bundle.listD A s' s'.heap := by rw [hhp]; exact vx_Zq.moved hW0.alike (hN.kept hS.2.1)
  have h : ∀ w ∈ Bundle.ownAtoms own ic cls names, w.before args s' = true := vx_own hat' (vx_isRefq hU'.1) (vx_isRefq hN'.1) hU'.2.word hN'.2.word
  have hown' : s'.vm.findClass own = some m.cls := by rw [hvm]; exact hown
  have hins : (Cond.instantiable cls 6).before args s' = true := h _ (by simp [Bundle.ownAtoms])
  obtain ⟨vm₁, cX, kX, hfX, hkX, -, -, X₁, st1⟩ := Y.newCold hexec (own := own) (C := cls) (index := ik) (n := 6) hown' hk' hins hini'
    (g := F0 m pc ls rest) rfl (by rw [hb]; exact d0) (Nat.le_refl _) (Nat.le_refl _)
  generalize hT1 : (T.setVm vm₁).pushCell { cls := cX, slots := kX.instanceTypes.map defaultValue, vm := .none } = T1 at X₁ st1
  have hcat : (Value.ref T.heap.size).category = 1 := rfl
  have hcellA : T1.heap[T.heap.size]? = some (freshCell cX kX) := by rw [← hT1]; exact State.heap_pushCell_size _ _
  have d3' : decode c.code (pc + 3) = .ok (.dup, 1) := by rw [hb]; exact d3
  have d4' : decode c.code (pc + 4) = .ok (.ldc is, 2) := by rw [hb]; exact d4
  have hstr' : vk_R own is text sa s' := vk_R.warm hW0 hstr
  obtain ⟨U, hsteps, hrun, hend, hW, hsame, ce, hce, hO⟩ := X₁.ctorThrowS hexec htr (own := own) (cls := cls) (names := names) (ic := ic) hown' hcls hnames h (fun x hx => nomatch hx) hfX hkX hcellA (by rw [hhp, hT]; exact Nat.le_refl _) (msg := .ref sa) rfl
    (g := { method := m, pc := pc + 6, locals := ls, stack := .ref sa :: .ref T.heap.size :: .ref T.heap.size :: rest, locked := none }) rfl hsize rfl rfl (rest := rest) rfl
    (by rw [hb]; exact d6) (by rw [hb]; exact d9) hout hRframes (by simp only [List.map_cons, List.sum_cons, hcat]; omega) hlocks
  obtain ⟨f1, f2⟩ := vx_frame hsame
  rw [hhp] at f1 f2
  have hWs : s.WarmedH U.vm := State.WarmedH.trans hW0 hW
  have hcl : s.vm.findClass cls = some ce.cls := by
    have h9 := hO.cls
    rw [hvm] at h9
    exact h9
  have hall : s.sameButNew ({ U with vm := s.vm } : State) locs mc ms := by
    subst hA
    obtain ⟨e1, e2⟩ := hsame
    rw [State.setFrames_setFrames] at e1
    have h2 : (T.setVm s.vm).sameButNew ({ U with vm := s.vm } : State) [] (0 + 1) (0 + 6) := ⟨e1, e2⟩
    have h3 := X.same.trans h2
    rw [List.append_nil] at h3
    exact h3.mono hc hs
  refine ⟨U, ?_, .threw T.heap.size, hrun, hend, Or.inr ⟨T.heap.size, rfl, cls, ce, locs, hx U hWs.alike f1 (fun q hq => f2 q hq (fun z hz => nomatch hz)), hce, hO.vm, hcl, hWs, hall, hf⟩⟩
  refine st1 _ ?_
  show Steps p.tables e below (T1.setTop { method := m, pc := pc + 3, locals := ls, stack := .ref T.heap.size :: rest, locked := none }) _
  jvm_step X₁.here [X₁.here.top, hexec, d3', Value.category]
  exact X₁.ldcString hexec (own := own) (text := text) (index := is) (a := sa) hown' hstr'.1 hstr'.2
    (g := { method := m, pc := pc + 4, locals := ls, stack := .ref T.heap.size :: .ref T.heap.size :: rest, locked := none }) rfl d4' _ hsteps
/-- 'throw new E("text")', the text by a wide index -/
theorem vx_throwSW {cc : ByteArray} {pc : Nat} (hexec : p.tables.exec = Jvm.exec) (hb : c.code = cc) (hl : l.stackTraces = false) {own cls text : String} {names : List String} {ik is ic mc ms sa : Nat} {A : Nat → Prop}
    (hown : s.vm.findClass own = some m.cls) (hcls : Bundle.fit cls = true) (hnames : ∀ n ∈ names, Bundle.fit n = true)
    (hk : (Cond.classLink own ik cls).before args s = true) (hini : (Cond.initialized cls).before args s = true) (hstr : vk_R own is text sa s) (hat : ∀ w ∈ vx_atS own ic cls names, w.before args s = true)
    (hgood : ∀ w ∈ Cond.classLink own ik cls :: Cond.initialized cls :: vx_atS own ic cls names, vx_ot w = true)
    (hU : vx_Zq Bundle.tN "UNASSIGNED_STACK" Bundle.steD A s s.heap) (hN : vx_Zq Bundle.tN "SUPPRESSED_SENTINEL" Bundle.listD A s s.heap) (hS : va_S A s.heap H locs) (hsize : ls.size = c.maxLocals)
    (d0 : decode cc pc = .ok (.new ik, 3)) (d3 : decode cc (pc + 3) = .ok (.dup, 1)) (d4 : decode cc (pc + 4) = .ok (.ldc_w is, 3)) (d7 : decode cc (pc + 7) = .ok (.invokespecial ic, 3)) (d10 : decode cc (pc + 10) = .ok (.athrow, 1))
    (hout : ∀ x ∈ c.exceptionTable.toList, covers x (pc + 10) = false)
    (hRframes : names.length + 3 < R.frames) (hRlocals : (rest.map fun v => v.category).sum + (13 * (names.length + 1) + 43) ≤ R.locals) (hRcells : cells + 1 ≤ R.cells) (hRslots : slots + 6 ≤ R.slots) (hlocks : meth.locks = false)
    (hx : ∀ t : State, s.vm.Alike t.vm → H.size ≤ t.heap.size → (∀ q : Nat, q < H.size → t.heap[q]? = H[q]?) → XC cls s t)
    (hf : ∀ z ∈ locs, free z.base) (hc : cells + 1 ≤ mc) (hs : slots + 6 ≤ ms) :
    W p l e R s m args below meth c H locs cells slots (vx_MQ below Qc XC args s mc ms free) (F0 m pc ls rest) := by
  intro T hT X
  have htr : e.platform.stackTraces = false := (show e.platform.stackTraces = l.stackTraces by rw [X.admits.platform]).trans hl
  have Y := vx_rebase X (R' := { frames := R.frames, locals := R.locals, cells := 1, slots := 6 }) (Nat.le_refl _) (Nat.le_refl _) hRcells hRslots
  obtain ⟨s', hA⟩ : ∃ z, z = (T.setVm s.vm).setFrames (.invoking m args :: below) := ⟨_, rfl⟩
  rw [← hA] at Y
  have hvm : s'.vm = s.vm := by rw [hA]; rfl
  have hhp : s'.heap = H := by rw [hA]; exact hT
  have hW0 : s.WarmedH s'.vm := by rw [hvm]; exact State.WarmedH.refl s
  have hat' : ∀ w ∈ vx_atS own ic cls names, w.before args s' = true := fun w hw => vx_ot_at hW0 hvm.symm (hgood w (List.mem_cons_of_mem _ (List.mem_cons_of_mem _ hw))) (hat w hw)
  have hk' : (Cond.classLink own ik cls).before args s' = true := vx_ot_at hW0 hvm.symm (hgood _ List.mem_cons_self) hk
  have hini' : (Cond.initialized cls).before args s' = true := vx_ot_at hW0 hvm.symm (hgood _ (List.mem_cons_of_mem _ List.mem_cons_self)) hini
  have hU' : vx_Zq Bundle.tN "UNASSIGNED_STACK" Bundle.steD A s' s'.heap := by rw [hhp]; exact vx_Zq.moved hW0.alike (hU.kept hS.2.1)
  have hN' : vx_Zq Bundle.tN "SUPPRESSED_SENTINEL" Bundle.listD A s' s'.heap := by rw [hhp]; exact vx_Zq.moved hW0.alike (hN.kept hS.2.1)
  have h : ∀ w ∈ Bundle.ownAtoms own ic cls names, w.before args s' = true := vx_own hat' (vx_isRefq hU'.1) (vx_isRefq hN'.1) hU'.2.word hN'.2.word
  have hown' : s'.vm.findClass own = some m.cls := by rw [hvm]; exact hown
  have hins : (Cond.instantiable cls 6).before args s' = true := h _ (by simp [Bundle.ownAtoms])
  obtain ⟨vm₁, cX, kX, hfX, hkX, -, -, X₁, st1⟩ := Y.newCold hexec (own := own) (C := cls) (index := ik) (n := 6) hown' hk' hins hini'
    (g := F0 m pc ls rest) rfl (by rw [hb]; exact d0) (Nat.le_refl _) (Nat.le_refl _)
  generalize hT1 : (T.setVm vm₁).pushCell { cls := cX, slots := kX.instanceTypes.map defaultValue, vm := .none } = T1 at X₁ st1
  have hcat : (Value.ref T.heap.size).category = 1 := rfl
  have hcellA : T1.heap[T.heap.size]? = some (freshCell cX kX) := by rw [← hT1]; exact State.heap_pushCell_size _ _
  have d3' : decode c.code (pc + 3) = .ok (.dup, 1) := by rw [hb]; exact d3
  have d4' : decode c.code (pc + 4) = .ok (.ldc_w is, 3) := by rw [hb]; exact d4
  have hstr' : vk_R own is text sa s' := vk_R.warm hW0 hstr
  obtain ⟨U, hsteps, hrun, hend, hW, hsame, ce, hce, hO⟩ := X₁.ctorThrowS hexec htr (own := own) (cls := cls) (names := names) (ic := ic) hown' hcls hnames h (fun x hx => nomatch hx) hfX hkX hcellA (by rw [hhp, hT]; exact Nat.le_refl _) (msg := .ref sa) rfl
    (g := { method := m, pc := pc + 7, locals := ls, stack := .ref sa :: .ref T.heap.size :: .ref T.heap.size :: rest, locked := none }) rfl hsize rfl rfl (rest := rest) rfl
    (by rw [hb]; exact d7) (by rw [hb]; exact d10) hout hRframes (by simp only [List.map_cons, List.sum_cons, hcat]; omega) hlocks
  obtain ⟨f1, f2⟩ := vx_frame hsame
  rw [hhp] at f1 f2
  have hWs : s.WarmedH U.vm := State.WarmedH.trans hW0 hW
  have hcl : s.vm.findClass cls = some ce.cls := by
    have h9 := hO.cls
    rw [hvm] at h9
    exact h9
  have hall : s.sameButNew ({ U with vm := s.vm } : State) locs mc ms := by
    subst hA
    obtain ⟨e1, e2⟩ := hsame
    rw [State.setFrames_setFrames] at e1
    have h2 : (T.setVm s.vm).sameButNew ({ U with vm := s.vm } : State) [] (0 + 1) (0 + 6) := ⟨e1, e2⟩
    have h3 := X.same.trans h2
    rw [List.append_nil] at h3
    exact h3.mono hc hs
  refine ⟨U, ?_, .threw T.heap.size, hrun, hend, Or.inr ⟨T.heap.size, rfl, cls, ce, locs, hx U hWs.alike f1 (fun q hq => f2 q hq (fun z hz => nomatch hz)), hce, hO.vm, hcl, hWs, hall, hf⟩⟩
  refine st1 _ ?_
  show Steps p.tables e below (T1.setTop { method := m, pc := pc + 3, locals := ls, stack := .ref T.heap.size :: rest, locked := none }) _
  jvm_step X₁.here [X₁.here.top, hexec, d3', Value.category]
  exact X₁.ldcStringW hexec (own := own) (text := text) (index := is) (a := sa) hown' hstr'.1 hstr'.2
    (g := { method := m, pc := pc + 4, locals := ls, stack := .ref T.heap.size :: .ref T.heap.size :: rest, locked := none }) rfl d4' _ hsteps
end Ends
section Bodies
variable {l : Launch}
theorem vx_ofW {y : MethodName} {ws ws' : List Cond} {rm : Room} {Pc : Array Value → State → Prop} {Qc : Array Value → State → Outcome → State → Prop} {XC : String → State → State → Prop} {mc ms : Nat} {free : Addr → Prop} {cc : ByteArray} {maxL : Nat} {ret : Option FieldType}
    (hy : plainName y.cls = true) (hw : ws = Cond.code y cc maxL ret :: ws')
    (body : ∀ p e s m args below meth c s₁, BodyLoose p l y (headSpec ws rm) cc maxL ret e s m args below meth c s₁ → c.maxLocals = maxL → (∀ x ∈ c.exceptionTable.toList, False) → Pc args s →
      W p l e (headSpec ws rm).room s m args below meth c s.heap [] 0 0 (vx_MQ below Qc XC args s mc ms free) (entryFrame m args maxL)) : vx_Met l y ws rm Pc Qc XC mc ms free := by
  refine MetFree.of_bodyS (code := cc) (maxLocals := maxL) (ret := ret) hy ?_ ?_
  · intro args s m h hn
    obtain ⟨meth, c, h1, h2, h3, h4, h5, h6, -, -⟩ := Cond.code_spec hn (atoms_spec (ws := ws) h _ (by rw [hw]; exact List.mem_cons_self))
    exact ⟨meth, c, h1, h2, h3, h4, h5, h6⟩
  · intro p e s m args below meth c s₁ B hml hP _
    have hh0 : s₁.heap = s.heap := by rw [B.state]; rfl
    have ht : ∀ x ∈ c.exceptionTable.toList, False := by
      obtain ⟨meth9, c9, h1, h2, -, -, -, -, h7, -⟩ := Cond.code_spec B.named (atoms_spec (ws := ws) B.pre _ (by rw [hw]; exact List.mem_cons_self))
      cases Option.some.inj (h1.symm.trans B.method)
      cases Option.some.inj (h2.symm.trans (Stand.of_body B).code)
      intro x hx
      rw [Array.isEmpty_iff.mp h7] at hx
      cases hx
    obtain ⟨t, a1, o, b1, b2, b3⟩ := body p e s m args below meth c s₁ B hml ht hP s₁ hh0 (Stand.of_body B)
    exact ⟨t, o, a1, b1, b2, b3⟩
/-- the table of a body with handlers -/
theorem vx_table {p : Program} {x y : MethodName} {S : Spec} {cc bytes : ByteArray} {maxL maxL' : Nat} {ret ret' : Option FieldType} {e : Env} {s s₁ : State} {m : MethodId} {args : Array Value} {below : List Frame} {meth : Method} {c : Code} {hh : List (Nat × Nat × Nat × Nat)}
    (B : BodyLoose p l y S cc maxL ret e s m args below meth c s₁) (h : (Cond.codeWith y bytes maxL' ret' hh).before args s = true) : c.exceptionTable.toList = tableOf hh := by
  obtain ⟨m9, meth9, c9, hn9, h1, h2, -, -, h6, -⟩ := Cond.codeWith_spec h
  cases Option.some.inj (hn9.symm.trans B.named)
  cases Option.some.inj (h1.symm.trans B.method)
  cases Option.some.inj (h2.symm.trans (Stand.of_body B).code)
  rw [← h6, table_eq]
end Bodies
end VXA
/-! ===== END ===== -/
/-! ===== BEGIN a static call of a method with an exception table ===== -/
section VXS
variable {p : Program} {l : Launch} {e : Env} {R : Room} {s : State} {m : MethodId} {args : Array Value} {below : List Frame} {meth : Method} {c : Code} {T : State} {H : Heap} {locs : List Loc} {cells slots : Nat}
abbrev vx_CSW (R : Room) (s : State) (args : Array Value) (own : String) (index : Nat) (y : MethodName) (bytes : ByteArray) (maxL : Nat) (ret : Option FieldType) (hh : List (Nat × Nat × Nat × Nat)) (ws : List Cond) (rm : Room) (mc ms n : Nat) : Prop :=
  (rm.cells = mc ∧ rm.slots = ms ∧ rm.frames + 1 ≤ R.frames ∧ 8 + (maxL + 11) + rm.locals ≤ R.locals ∧ (∀ w ∈ ws, ∀ (a' : Array Value) (U : State), s.WarmedH U.vm → w.before a' U = true) ∧ Cond.codeWith y bytes maxL ret hh ∈ ws) ∧
  (Cond.codeWith y bytes maxL ret hh).before args s = true ∧ (Cond.initialized y.cls).before args s = true ∧ (y.cls ≠ "java/lang/invoke/MethodHandle" ∧ y.cls ≠ "java/lang/invoke/VarHandle") ∧
  (∀ sig, parseMethodDescriptor y.desc = some sig → n = sig.parameters.length) ∧ (Cond.methodLink own index y).before args s = true ∧ (Cond.static y).before args s = true
theorem vx_cwSW {own : String} {index maxL mc ms : Nat} {y : MethodName} {bytes : ByteArray} {ret : Option FieldType} {hh : List (Nat × Nat × Nat × Nat)} {Ts ws ws' : List Cond} {rm : Room} (n : Nat) (ht : ∀ w ∈ Ts, w.before args s = true) (hT : GoodIn Ts (va_wsS own index y ws)) (hw : ws = Cond.codeWith y bytes maxL ret hh :: ws') (hrc : rm.cells = mc) (hrs : rm.slots = ms)
    (hd : y.cls ≠ "java/lang/invoke/MethodHandle" ∧ y.cls ≠ "java/lang/invoke/VarHandle" ∧ (parseMethodDescriptor y.desc).map (fun d => d.parameters.length) = some n) (hR : rm.frames + 1 ≤ R.frames ∧ 8 + (maxL + 11) + rm.locals ≤ R.locals) :
    vx_CSW R s args own index y bytes maxL ret hh ws rm mc ms n := by
  have ok : ∀ w ∈ va_wsS own index y ws, w.before args s = true := fun w h => ht w (hT w h).1
  have hG : GoodIn Ts ws := fun w h => hT w (by unfold va_wsS; exact List.mem_append_right _ h)
  have hc : Cond.codeWith y bytes maxL ret hh ∈ ws := by rw [hw]; exact List.mem_cons_self
  refine ⟨⟨hrc, hrs, hR.1, hR.2, pay_in ht hG, hc⟩, ht _ (hG _ hc).1, ok _ (by simp [va_wsS]), ⟨hd.1, hd.2.1⟩, fun sig h => ?_, ok _ (by simp [va_wsS]), ok _ (by simp [va_wsS])⟩
  have h2 := hd.2.2
  rw [h] at h2
  exact (Option.some.inj h2).symm
theorem vx_callSW (X : Stand p l e R s m args below meth c T locs cells slots) (hexec : p.tables.exec = Jvm.exec) {own : String} {index : Nat} {y : MethodName} {bytes : ByteArray} {maxL : Nat} {ret : Option FieldType} {hh : List (Nat × Nat × Nat × Nat)}
    (hown : s.vm.findClass own = some m.cls) (hlink : (Cond.methodLink own index y).before args s = true) (hstat : (Cond.static y).before args s = true) (hinit : (Cond.initialized y.cls).before args s = true)
    (hcode : (Cond.codeWith y bytes maxL ret hh).before args s = true) (hy : y.cls ≠ "java/lang/invoke/MethodHandle" ∧ y.cls ≠ "java/lang/invoke/VarHandle")
    {W9 : Nat} {Pre : Pt → Array Value → Prop} {Post : Pt → Array Value → Option Value → Pt → Prop} (hK : Back l R p e below s args y 3 W9 Pre Post)
    {g : JFrame} (hg : g.method = m) (hsize : g.locals.size = c.maxLocals) {argsL rest : List Value} (hlen : ∀ sig, parseMethodDescriptor y.desc = some sig → argsL.length = sig.parameters.length)
    (hstack : g.stack = argsL.reverse ++ rest) (hW : 2 * g.monitorRoom + (rest.map fun v => v.category).sum ≤ W9) (hdg : decode c.code g.pc = .ok (.invokestatic index, 3))
    (hpre : ∀ vm₁, s.WarmedH vm₁ → Pre ⟨T.setVm vm₁, locs, cells, slots⟩ argsL.toArray) :
    ∃ (v : Option Value) (vm₁ : Vm) (B : Pt), s.WarmedH vm₁ ∧ Stand p l e R s m args below meth c B.U B.locs B.cells B.slots ∧ Post ⟨T.setVm vm₁, locs, cells, slots⟩ argsL.toArray v B ∧
      ∀ target, Steps p.tables e below (B.U.setTop { g with pc := g.pc + 3, stack := v.toList ++ rest }) target → Steps p.tables e below (T.setTop g) target := by
  obtain ⟨mk, methM, cM, hnamed, hmethM, -, -, -, -, -, -, hsigM⟩ := Cond.codeWith_spec hcode
  have hstatic : methM.isStatic = true := Cond.static_spec hnamed hmethM hstat
  obtain ⟨kP, hkP, -⟩ := className_of_methodNamed hnamed
  have hinitP : kP.init = .initialized := Cond.initialized_spec (findClass_of_methodNamed hnamed) hkP hinit
  obtain ⟨vm₁, X₁, hstep₁⟩ := X.invokestatic hexec hown hlink hnamed hmethM hstatic hkP hinitP hy (g := g) hg (argsL := argsL) (rest := rest) (hlen _ hsigM) hstack hdg
  obtain ⟨v, B, X', hpost, hsteps⟩ := hK m meth c ⟨T.setVm vm₁, locs, cells, slots⟩ { g with stack := rest } (.invokestatic index) mk argsL.toArray X₁ hg hsize hdg hW (X₁.named hnamed) (hpre vm₁ X₁.warmed)
  exact ⟨v, vm₁, B, X₁.warmed, X', hpost, fun target h => hstep₁ _ fun acts => by rw [doInvoke_state]; exact hsteps.trans h⟩
theorem vx_runSW {y : MethodName} {bytes cc : ByteArray} {maxL nL mc ms n index : Nat} {ret : Option FieldType} {hh : List (Nat × Nat × Nat × Nat)} {ws : List Cond} {rm : Room} {Pc : Array Value → State → Prop} {Qc : Array Value → State → Outcome → State → Prop} {free : Addr → Prop} {Ts : List Cond} {own : String} {As rest : List Value} {g : JFrame}
    (S : CallFix p m c cc nL s args Ts own) (hM : Met l y ws rm Pc Qc mc ms free) (cw : vx_CSW R s args own index y bytes maxL ret hh ws rm mc ms n) (hp : PreS s H Pc As)
    (hg : g.method = m) (hn : As.length = n) (hsize : g.locals.size = nL) (hstack : g.stack = As.reverse ++ rest) (hW : 2 * g.monitorRoom + (rest.map fun v => v.category).sum ≤ 8) (hdg : decode cc g.pc = .ok (.invokestatic index, 3)) (hf : cells + mc ≤ R.cells ∧ slots + ms ≤ R.slots) :
    va_Run p l e R s m args below meth c H locs cells slots mc ms g rest (Qc As.toArray) (free) := by
  obtain ⟨⟨hrc, hrs, hfr, hlo, hws, hcw⟩, hcode, hini, hy, hlen, hl, hstt⟩ := cw
  have hK : Back l R p e below s args y 3 8 (PreOf R mc ms Pc) (PostOf Qc mc ms free) := va_backW (hh := hh) (bytes := bytes) (maxL := maxL) (ret := ret) hM hp.1 hrc hrs hfr hlo hws hcw (fun a' U hW => word_at hW (Or.inl (by first | rfl | simp [Cond.onTables, Cond.keeps, Cond.steady])) hini)
  obtain ⟨hx, hb, hml, ho, -⟩ := S
  intro T hT X
  obtain ⟨v, vm₁, ⟨U', l2, c2, s2⟩, hW₁, X', ⟨g', mk, t, L, e1, e2, hq, h1, hL, h2, h3⟩, st⟩ := vx_callSW X hx (hh := hh) (bytes := bytes) (maxL := maxL) (ret := ret) ho hl hstt hini hcode hy hK hg (hsize.trans hml.symm) (argsL := As) (rest := rest) (fun sig h => hn.trans (hlen sig h)) hstack hW (by rw [hb]; exact hdg)
    (fun vm₁ hW₁ => ⟨hf.1, hf.2, hp.2 (T.setVm vm₁) hT hW₁⟩)
  dsimp only [Pt.U, Pt.locs, Pt.cells, Pt.slots] at X' e1 e2 h1 h2 h3 st
  subst h1; subst h2; subst h3
  exact ⟨v, (T.setVm vm₁).calling g' mk As.toArray, t, U', L, hT, X', hL, e1, e2, hq, st⟩
/-- not caught here, past rows that name other classes: it goes on to the caller -/
theorem vx_outP {p : Program} {l : Launch} {e : Env} {R : Room} {s : State} {m : MethodId} {args : Array Value} {below : List Frame} {meth : Method} {c : Code} {H : Heap} {locs : List Loc} {cells slots : Nat} {free : Addr → Prop} {ls : Array Slot} {rest : List Value} {Qc : Array Value → State → Outcome → State → Prop} {XC : String → State → State → Prop}
    {pc : Nat} {own E : String} {ce : Cell} {q : Addr} {mc ms : Nat} (hown : s.vm.findClass own = some m.cls) (hlocks : meth.locks = false)
    (hpass : ∀ z ∈ c.exceptionTable.toList, covers z pc = false ∨ (z.catchType ≠ 0 ∧ ∃ nm : String, (Cond.classLink own z.catchType nm).before args s = true ∧ va_Nc E nm s)) (hcell : H[q]? = some ce) (hv : ce.vm = .none) (hcl : s.vm.findClass E = some ce.cls)
    (hx : ∀ t : State, t.heap = H → s.vm.Alike t.vm → XC E s t) (hf : ∀ z ∈ locs, free z.base) (hc : cells ≤ mc) (hs : slots ≤ ms) :
    vx_W p l e R s m args below meth c H locs cells slots (vx_MQ below Qc XC args s mc ms free) (F0 m pc ls rest) q := by
  intro T hT X
  have hpl : e.platform.magicAccessors = ({} : Platform).magicAccessors := by rw [X.admits.platform]
  obtain ⟨vm', hW', X', st⟩ := X.outThrough hlocks q (g := F0 m pc ls rest) rfl rfl rfl (cell := ce) (by rw [hT]; exact hcell) (by rw [hv]; rfl)
    (by obtain ⟨k9, h9, -⟩ := Vm.findClass_spec hcl; exact ⟨k9, h9⟩) (fun z hz => by
      rcases hpass z hz with h | ⟨hz0, nm, hl1, hn1⟩
      · exact Or.inl h
      · obtain ⟨c6, hc6, hcl6⟩ := Cond.classLink_spec hown hl1 e.platform hpl
        obtain ⟨a8, b8, h1, h2, h3⟩ := hn1
        cases Option.some.inj (h1.symm.trans hcl)
        cases Option.some.inj (h2.symm.trans hc6)
        exact Or.inr ⟨hz0, _, hcl6, h3⟩)
  obtain ⟨g₀, hfr⟩ := X'.frames_eq
  have hcell9 : ((T.setVm vm').setFrames (.throwing q :: below)).heap[q]? = some ce := by
    show T.heap[q]? = some ce
    rw [hT]; exact hcell
  have hend : Ended ((T.setVm vm').setFrames (.throwing q :: below)) below (.threw q) := State.frames_setFrames _ (State.cur_lt_of_frames hfr)
  refine ⟨(T.setVm vm').setFrames (.throwing q :: below), ?_, .threw q, X'.here.running, hend, Or.inr ⟨q, rfl, E, ce, locs, hx _ hT (X'.ends _).1.alike, hcell9, hv, hcl, (X'.ends _).1, (X'.ends _).2.mono hc hs, hf⟩⟩
  rw [X.pushThrowing_eq]
  exact st
/-- a thing of a world lies in the heap -/
theorem vx_lt {D : va_G} {cl : List vw_C} {ws : va_W} {H1 : Heap} (h : va_P D cl ws H1) {k : Nat} {q : Nat × va_E} (hk : ws[k]? = some q) : q.1 < H1.size := (h k q hk).lt
end VXS
/-! ===== END ===== -/
/-! ===== BEGIN methods with a table of their own: called by a name, returning or throwing ===== -/
section VXH
/-! vx_backW, vx_callVX, vx_callSX, vx_callVW, vx_runVW, vx_runVX, vx_runSX, vx_ofWH follow the same proofs as their sisters above (Free/Laws.lean, Shelf42/LK1.lean); vx_outP calls Shelf42/NT130.lean (outThrough). -/
section
variable {l : Launch} {R : Room} {p : Program} {e : Env} {below : List Frame} {s : State} {sargs : Array Value} {y : MethodName} {len W9 : Nat}
theorem vx_backW {ws : List Cond} {rm : Room} {Pc : Array Value → State → Prop} {Qc : Array Value → State → Outcome → State → Prop} {XC : String → State → State → Prop} {mc ms : Nat} {free : Addr → Prop} {bytes : ByteArray} {maxL : Nat} {ret : Option FieldType} {hh : List (Nat × Nat × Nat × Nat)}
    (hM : vx_Met l y ws rm Pc Qc XC mc ms free) (hblind : FrameBlind Pc) (hrc : rm.cells = mc) (hrs : rm.slots = ms)
    (hframes : rm.frames + 1 ≤ R.frames) (hlocals : W9 + (maxL + 11) + rm.locals ≤ R.locals)
    (hws : ∀ w ∈ ws, ∀ a' U, s.WarmedH U.vm → w.before a' U = true) (hcode : Cond.codeWith y bytes maxL ret hh ∈ ws) (hinit : ∀ a' U, s.WarmedH U.vm → (Cond.initialized y.cls).before a' U = true) :
    vx_Back l R p e below s sargs y len W9 (PreOf R mc ms Pc) (PostOf Qc mc ms free) (vx_Post XC mc ms free) := by
  intro m meth c A g ig mk a X hg hsize hdg hW hn hp
  have h1 : (headSpec ws rm).pre.before a A.U = true := atoms_intro fun w hw => hws w hw _ _ X.warmed
  have h2 : (Cond.codeWith y bytes maxL ret hh).before a A.U = true := hws _ hcode _ _ X.warmed
  have h3 : (Cond.initialized y.cls).before a A.U = true := hinit _ _ X.warmed
  have h4 : A.cells + (headSpec ws rm).room.cells ≤ R.cells := by rw [show (headSpec ws rm).room.cells = mc from hrc]; exact hp.1
  have h5 : A.slots + (headSpec ws rm).room.slots ≤ R.slots := by rw [show (headSpec ws rm).room.slots = ms from hrs]; exact hp.2.1
  have hPc : Pc a (A.U.calling g mk a) := hblind _ _ _ _ hp.2.2
  obtain ⟨U, Ls, c0, s0⟩ := A
  dsimp only [Pt.U, Pt.locs, Pt.cells, Pt.slots] at h1 h2 h3 h4 h5 X hn hPc ⊢
  obtain ⟨m9, methY, cY, hn9, hmY, hcY, -, hlY, -⟩ := Cond.codeWith_spec h2
  cases Option.some.inj (hn9.symm.trans hn)
  obtain ⟨kY, hkY, -⟩ := className_of_methodNamed hn
  have hinitY : kY.init = .initialized := Cond.initialized_spec (findClass_of_methodNamed hn) hkY h3
  have h : At U g.method c below := by rw [hg]; exact X.here
  have hlocals9 : W9 + (maxL + 11) + (headSpec ws rm).room.locals ≤ R.locals := hlocals
  have happ : (headSpec ws rm).appliesLoose y e.platform (U.calling g mk a) = true :=
    Spec.appliesLoose_calling (g := g) h hdg hn hkY hinitY
      (X.room_calling (g := g) (R' := (headSpec ws rm).room) hsize hmY hcY hframes (by rw [hlY]; omega) h4 h5) h1
  obtain ⟨mid, hmid⟩ := h.above
  have hfr : (U.setTop g).frames = (.java g :: mid) ++ below := by rw [State.frames_setTop' g h.top, hmid]; rfl
  obtain ⟨o, s₂, hsteps, -, hend, hq⟩ := Steps.callFree hM p X.admits X.cas X.clock (acts := []) hfr happ hPc trivial
  have hq' : vx_Q Qc XC mc ms free a (U.calling g mk a) o s₂ := hq
  rw [State.frames_setTop' g h.top] at hend
  obtain ⟨g₀, hg0⟩ := Option.isSome_iff_exists.mp h.top
  obtain ⟨r, hr⟩ := State.topJava?_eq_some.mp hg0
  have hr' : (({ U with heap := s₂.heap, slotsUsed := s₂.slotsUsed } : State).setVm s₂.vm).frames = .java g₀ :: r := hr
  rcases hq' with ⟨hqc, L, hfe, hL⟩ | ⟨q, rfl, E, ce, L, hx, hce, hcv, hcl, hW₂, hsm, hL⟩
  · obtain ⟨⟨v, rfl⟩, hW₂, e2, q2, q3, q4, q5, q6⟩ := id hfe
    have e3 : s₂ = ({ (U.calling g mk a).setFrames s₂.frames with heap := s₂.heap, slotsUsed := s₂.slotsUsed } : State).setVm s₂.vm := by
      have : s₂ = ({ s₂ with vm := (U.calling g mk a).vm } : State).setVm s₂.vm := rfl
      rw [e2] at this
      exact this
    obtain ⟨c₂, i₂, len₂, hc₂, hd₂, hf₂⟩ := hend
    have hW' : U.WarmedH s₂.vm := hW₂
    have hcc : c₂ = c := by
      have h1 : s₂.code? g.method = U.code? g.method := by
        rw [State.code?_eq, State.code?_eq, hW'.alike.method?]
      exact Option.some.inj (hc₂.symm.trans (h1.trans h.code))
    subst hcc
    have hlen : len₂ = len := by rw [hdg] at hd₂; cases hd₂; rfl
    subst hlen
    have hs₂ : s₂ = (({ U with heap := s₂.heap, slotsUsed := s₂.slotsUsed } : State).setVm s₂.vm).setTop { g with pc := g.pc + len₂, stack := v.toList ++ g.stack } := by
      refine e3.trans ?_
      rw [hf₂, State.calling_eq h.top, State.setFrames_setFrames, State.setTop_of_frames _ hr', hr]
      rfl
    have hsame : U.sameButNew ({ U with heap := s₂.heap, slotsUsed := s₂.slotsUsed } : State) L mc ms := by
      refine ⟨?_, q2, q3, q4, q5, q6⟩
      obtain ⟨t, ht, -⟩ := State.frames_cons hr
      show ({ U with heap := s₂.heap, slotsUsed := s₂.slotsUsed } : State) = { U.setFrames U.frames with heap := s₂.heap, slotsUsed := s₂.slotsUsed }
      rw [State.setFrames_self ht]
    subst hg
    refine Or.inl ⟨v, ⟨(({ U with heap := s₂.heap, slotsUsed := s₂.slotsUsed } : State).setVm s₂.vm), Ls ++ L, c0 + mc, s0 + ms⟩,
      ⟨X.admits, X.cas, X.clock, X.frames, X.room, X.hears, X.method, X.code, (X.here.setHeapUsed s₂.heap s₂.slotsUsed).setVm hW'.alike, X.tail, State.WarmedH.trans X.warmed hW', X.limits, X.bytes, X.same.trans (hsame.setVm s.vm)⟩,
      ⟨g, mk, s₂, L, rfl, rfl, hqc, rfl, hL, rfl, rfl⟩, ?_⟩
    show Steps p.tables e below _ ((({ U with heap := s₂.heap, slotsUsed := s₂.slotsUsed } : State).setVm s₂.vm).setTop { g with pc := g.pc + len₂, stack := v.toList ++ g.stack })
    rw [← hs₂]
    exact hsteps
  · obtain ⟨e2, q2, q3, q4, q5, q6⟩ := id hsm
    have e3 : s₂ = ({ (U.calling g mk a).setFrames s₂.frames with heap := s₂.heap, slotsUsed := s₂.slotsUsed } : State).setVm s₂.vm := by
      have : s₂ = ({ s₂ with vm := (U.calling g mk a).vm } : State).setVm s₂.vm := rfl
      rw [e2] at this
      exact this
    have hf₂ : s₂.frames = .throwing q :: .java g :: U.frames.tail := hend
    have hW' : U.WarmedH s₂.vm := hW₂
    have hs₂ : s₂ = ((({ U with heap := s₂.heap, slotsUsed := s₂.slotsUsed } : State).setVm s₂.vm).setTop g).pushFrame (.throwing q) := by
      refine e3.trans ?_
      rw [hf₂, State.calling_eq h.top, State.setFrames_setFrames, State.pushFrame, State.frames_setTop _ hr', State.setTop_of_frames _ hr', State.setFrames_setFrames, hr]
      rfl
    have hsame : U.sameButNew ({ U with heap := s₂.heap, slotsUsed := s₂.slotsUsed } : State) L mc ms := by
      refine ⟨?_, q2, q3, q4, q5, q6⟩
      obtain ⟨t, ht, -⟩ := State.frames_cons hr
      show ({ U with heap := s₂.heap, slotsUsed := s₂.slotsUsed } : State) = { U.setFrames U.frames with heap := s₂.heap, slotsUsed := s₂.slotsUsed }
      rw [State.setFrames_self ht]
    subst hg
    refine Or.inr ⟨q, ⟨(({ U with heap := s₂.heap, slotsUsed := s₂.slotsUsed } : State).setVm s₂.vm), Ls ++ L, c0 + mc, s0 + ms⟩,
      ⟨X.admits, X.cas, X.clock, X.frames, X.room, X.hears, X.method, X.code, (X.here.setHeapUsed s₂.heap s₂.slotsUsed).setVm hW'.alike, X.tail, State.WarmedH.trans X.warmed hW', X.limits, X.bytes, X.same.trans (hsame.setVm s.vm)⟩,
      ⟨g, mk, s₂, L, E, ce, rfl, rfl, hx, hce, hcv, hcl, rfl, hL, rfl, rfl⟩, ?_⟩
    show Steps p.tables e below _ (((({ U with heap := s₂.heap, slotsUsed := s₂.slotsUsed } : State).setVm s₂.vm).setTop g).pushFrame (.throwing q))
    rw [← hs₂]
    exact hsteps
end
variable {p : Program} {l : Launch} {e : Env} {R : Room} {s : State} {m : MethodId} {args : Array Value} {below : List Frame} {meth : Method} {c : Code} {T : State} {H : Heap} {locs : List Loc} {cells slots : Nat}
theorem vx_callVX (X : Stand p l e R s m args below meth c T locs cells slots) (hexec : p.tables.exec = Jvm.exec) {own C : String} {index : Nat} {y : MethodName} {bytes : ByteArray} {maxL : Nat} {ret : Option FieldType} {hh : List (Nat × Nat × Nat × Nat)}
    (hown : s.vm.findClass own = some m.cls) (hlink : (Cond.methodLink own index y).before args s = true) (hinst : (Cond.instanceMethod y).before args s = true) (hsel : (Cond.selects C y y).before args s = true)
    (hcode : (Cond.codeWith y bytes maxL ret hh).before args s = true) (hy : y.cls ≠ "java/lang/invoke/MethodHandle" ∧ y.cls ≠ "java/lang/invoke/VarHandle")
    {W9 : Nat} {Pre : Pt → Array Value → Prop} {Post : Pt → Array Value → Option Value → Pt → Prop} {PostX : Pt → Array Value → Addr → Pt → Prop} (hK : vx_Back l R p e below s args y 3 W9 Pre Post PostX)
    {b : Addr} {cellB : Cell} (hcell : T.heap[b]? = some cellB) (hobj : cellB.vm.isStatics = false) (hcls : s.vm.findClass C = some cellB.cls)
    {g : JFrame} (hg : g.method = m) (hsize : g.locals.size = c.maxLocals) {argsL rest : List Value} (hlen : ∀ sig, parseMethodDescriptor y.desc = some sig → argsL.length = sig.parameters.length)
    (hstack : g.stack = argsL.reverse ++ .ref b :: rest) (hW : 2 * g.monitorRoom + (rest.map fun v => v.category).sum ≤ W9) (hdg : decode c.code g.pc = .ok (.invokevirtual index, 3))
    (hpre : ∀ vm₁, s.WarmedH vm₁ → Pre ⟨T.setVm vm₁, locs, cells, slots⟩ (Value.ref b :: argsL).toArray) :
    (∃ (v : Option Value) (vm₁ : Vm) (B : Pt), s.WarmedH vm₁ ∧ Stand p l e R s m args below meth c B.U B.locs B.cells B.slots ∧ Post ⟨T.setVm vm₁, locs, cells, slots⟩ (Value.ref b :: argsL).toArray v B ∧
      ∀ target, Steps p.tables e below (B.U.setTop { g with pc := g.pc + 3, stack := v.toList ++ rest }) target → Steps p.tables e below (T.setTop g) target) ∨
    (∃ (q : Addr) (vm₁ : Vm) (B : Pt), s.WarmedH vm₁ ∧ Stand p l e R s m args below meth c B.U B.locs B.cells B.slots ∧ PostX ⟨T.setVm vm₁, locs, cells, slots⟩ (Value.ref b :: argsL).toArray q B ∧
      Steps p.tables e below (T.setTop g) ((B.U.setTop { g with stack := rest }).pushFrame (.throwing q))) := by
  obtain ⟨mk, methM, hnamed, hmethM, hstM, habM⟩ := Cond.instanceMethod_spec hinst
  obtain ⟨m8, methM', cM, hn8, hmethM', -, -, -, -, -, -, hsigM⟩ := Cond.codeWith_spec hcode
  cases Option.some.inj (hn8.symm.trans hnamed)
  cases hmethM.symm.trans hmethM'
  obtain ⟨c2, r2, m2, q1, q2, q3, q4, kP, hkP, hkPi⟩ := Cond.selects_spec hsel
  cases hcls.symm.trans q1
  cases (State.methodFound?_of_named hnamed hy).symm.trans q2
  cases hnamed.symm.trans q3
  have hselP : selectMethod e.platform s.vm cellB.cls mk = .method mk := by rw [Launch.admits_selectMethod X.admits]; exact q4
  obtain ⟨vm₁, X₁, hstep₁⟩ := X.invokevirtual hexec hown hlink hnamed hmethM hstM hkP hkPi hy (a := b) (cell := cellB) hcell
    (fun z h => by rw [h] at hobj; cases hobj) hselP hmethM habM hkP hkPi (g := g) hg (argsL := argsL) (rest := rest) (hlen _ hsigM) hstack hdg
  rcases hK m meth c ⟨T.setVm vm₁, locs, cells, slots⟩ { g with stack := rest } (.invokevirtual index) mk (Value.ref b :: argsL).toArray X₁ hg hsize hdg hW (X₁.named hnamed) (hpre vm₁ X₁.warmed) with ⟨v, B, X', hpost, hsteps⟩ | ⟨q, B, X', hpost, hsteps⟩
  · exact Or.inl ⟨v, vm₁, B, X₁.warmed, X', hpost, fun target h => hstep₁ _ fun acts => by rw [doInvoke_state]; exact hsteps.trans h⟩
  · exact Or.inr ⟨q, vm₁, B, X₁.warmed, X', hpost, hstep₁ _ fun acts => by rw [doInvoke_state]; exact hsteps⟩
theorem vx_callSX (X : Stand p l e R s m args below meth c T locs cells slots) (hexec : p.tables.exec = Jvm.exec) {own : String} {index : Nat} {y : MethodName} {bytes : ByteArray} {maxL : Nat} {ret : Option FieldType} {hh : List (Nat × Nat × Nat × Nat)}
    (hown : s.vm.findClass own = some m.cls) (hlink : (Cond.methodLink own index y).before args s = true) (hstat : (Cond.static y).before args s = true) (hinit : (Cond.initialized y.cls).before args s = true)
    (hcode : (Cond.codeWith y bytes maxL ret hh).before args s = true) (hy : y.cls ≠ "java/lang/invoke/MethodHandle" ∧ y.cls ≠ "java/lang/invoke/VarHandle")
    {W9 : Nat} {Pre : Pt → Array Value → Prop} {Post : Pt → Array Value → Option Value → Pt → Prop} {PostX : Pt → Array Value → Addr → Pt → Prop} (hK : vx_Back l R p e below s args y 3 W9 Pre Post PostX)
    {g : JFrame} (hg : g.method = m) (hsize : g.locals.size = c.maxLocals) {argsL rest : List Value} (hlen : ∀ sig, parseMethodDescriptor y.desc = some sig → argsL.length = sig.parameters.length)
    (hstack : g.stack = argsL.reverse ++ rest) (hW : 2 * g.monitorRoom + (rest.map fun v => v.category).sum ≤ W9) (hdg : decode c.code g.pc = .ok (.invokestatic index, 3))
    (hpre : ∀ vm₁, s.WarmedH vm₁ → Pre ⟨T.setVm vm₁, locs, cells, slots⟩ argsL.toArray) :
    (∃ (v : Option Value) (vm₁ : Vm) (B : Pt), s.WarmedH vm₁ ∧ Stand p l e R s m args below meth c B.U B.locs B.cells B.slots ∧ Post ⟨T.setVm vm₁, locs, cells, slots⟩ argsL.toArray v B ∧
      ∀ target, Steps p.tables e below (B.U.setTop { g with pc := g.pc + 3, stack := v.toList ++ rest }) target → Steps p.tables e below (T.setTop g) target) ∨
    (∃ (q : Addr) (vm₁ : Vm) (B : Pt), s.WarmedH vm₁ ∧ Stand p l e R s m args below meth c B.U B.locs B.cells B.slots ∧ PostX ⟨T.setVm vm₁, locs, cells, slots⟩ argsL.toArray q B ∧
      Steps p.tables e below (T.setTop g) ((B.U.setTop { g with stack := rest }).pushFrame (.throwing q))) := by
  obtain ⟨mk, methM, cM, hnamed, hmethM, -, -, -, -, -, -, hsigM⟩ := Cond.codeWith_spec hcode
  have hstatic : methM.isStatic = true := Cond.static_spec hnamed hmethM hstat
  obtain ⟨kP, hkP, -⟩ := className_of_methodNamed hnamed
  have hinitP : kP.init = .initialized := Cond.initialized_spec (findClass_of_methodNamed hnamed) hkP hinit
  obtain ⟨vm₁, X₁, hstep₁⟩ := X.invokestatic hexec hown hlink hnamed hmethM hstatic hkP hinitP hy (g := g) hg (argsL := argsL) (rest := rest) (hlen _ hsigM) hstack hdg
  rcases hK m meth c ⟨T.setVm vm₁, locs, cells, slots⟩ { g with stack := rest } (.invokestatic index) mk argsL.toArray X₁ hg hsize hdg hW (X₁.named hnamed) (hpre vm₁ X₁.warmed) with ⟨v, B, X', hpost, hsteps⟩ | ⟨q, B, X', hpost, hsteps⟩
  · exact Or.inl ⟨v, vm₁, B, X₁.warmed, X', hpost, fun target h => hstep₁ _ fun acts => by rw [doInvoke_state]; exact hsteps.trans h⟩
  · exact Or.inr ⟨q, vm₁, B, X₁.warmed, X', hpost, hstep₁ _ fun acts => by rw [doInvoke_state]; exact hsteps⟩
theorem vx_callVW (X : Stand p l e R s m args below meth c T locs cells slots) (hexec : p.tables.exec = Jvm.exec) {own C : String} {index : Nat} {y : MethodName} {bytes : ByteArray} {maxL : Nat} {ret : Option FieldType} {hh : List (Nat × Nat × Nat × Nat)}
    (hown : s.vm.findClass own = some m.cls) (hlink : (Cond.methodLink own index y).before args s = true) (hinst : (Cond.instanceMethod y).before args s = true) (hsel : (Cond.selects C y y).before args s = true)
    (hcode : (Cond.codeWith y bytes maxL ret hh).before args s = true) (hy : y.cls ≠ "java/lang/invoke/MethodHandle" ∧ y.cls ≠ "java/lang/invoke/VarHandle")
    {W9 : Nat} {Pre : Pt → Array Value → Prop} {Post : Pt → Array Value → Option Value → Pt → Prop} (hK : Back l R p e below s args y 3 W9 Pre Post)
    {b : Addr} {cellB : Cell} (hcell : T.heap[b]? = some cellB) (hobj : cellB.vm.isStatics = false) (hcls : s.vm.findClass C = some cellB.cls)
    {g : JFrame} (hg : g.method = m) (hsize : g.locals.size = c.maxLocals) {argsL rest : List Value} (hlen : ∀ sig, parseMethodDescriptor y.desc = some sig → argsL.length = sig.parameters.length)
    (hstack : g.stack = argsL.reverse ++ .ref b :: rest) (hW : 2 * g.monitorRoom + (rest.map fun v => v.category).sum ≤ W9) (hdg : decode c.code g.pc = .ok (.invokevirtual index, 3))
    (hpre : ∀ vm₁, s.WarmedH vm₁ → Pre ⟨T.setVm vm₁, locs, cells, slots⟩ (Value.ref b :: argsL).toArray) :
    ∃ (v : Option Value) (vm₁ : Vm) (B : Pt), s.WarmedH vm₁ ∧ Stand p l e R s m args below meth c B.U B.locs B.cells B.slots ∧ Post ⟨T.setVm vm₁, locs, cells, slots⟩ (Value.ref b :: argsL).toArray v B ∧
      ∀ target, Steps p.tables e below (B.U.setTop { g with pc := g.pc + 3, stack := v.toList ++ rest }) target → Steps p.tables e below (T.setTop g) target := by
  obtain ⟨mk, methM, hnamed, hmethM, hstM, habM⟩ := Cond.instanceMethod_spec hinst
  obtain ⟨m8, methM', cM, hn8, hmethM', -, -, -, -, -, -, hsigM⟩ := Cond.codeWith_spec hcode
  cases Option.some.inj (hn8.symm.trans hnamed)
  cases hmethM.symm.trans hmethM'
  obtain ⟨c2, r2, m2, q1, q2, q3, q4, kP, hkP, hkPi⟩ := Cond.selects_spec hsel
  cases hcls.symm.trans q1
  cases (State.methodFound?_of_named hnamed hy).symm.trans q2
  cases hnamed.symm.trans q3
  have hselP : selectMethod e.platform s.vm cellB.cls mk = .method mk := by rw [Launch.admits_selectMethod X.admits]; exact q4
  obtain ⟨vm₁, X₁, hstep₁⟩ := X.invokevirtual hexec hown hlink hnamed hmethM hstM hkP hkPi hy (a := b) (cell := cellB) hcell
    (fun z h => by rw [h] at hobj; cases hobj) hselP hmethM habM hkP hkPi (g := g) hg (argsL := argsL) (rest := rest) (hlen _ hsigM) hstack hdg
  obtain ⟨v, B, X', hpost, hsteps⟩ := hK m meth c ⟨T.setVm vm₁, locs, cells, slots⟩ { g with stack := rest } (.invokevirtual index) mk (Value.ref b :: argsL).toArray X₁ hg hsize hdg hW (X₁.named hnamed) (hpre vm₁ X₁.warmed)
  exact ⟨v, vm₁, B, X₁.warmed, X', hpost, fun target h => hstep₁ _ fun acts => by rw [doInvoke_state]; exact hsteps.trans h⟩
abbrev vx_CVW (R : Room) (s : State) (args : Array Value) (own C : String) (index : Nat) (y : MethodName) (bytes : ByteArray) (maxL : Nat) (ret : Option FieldType) (hh : List (Nat × Nat × Nat × Nat)) (ws : List Cond) (rm : Room) (mc ms n : Nat) : Prop :=
  (rm.cells = mc ∧ rm.slots = ms ∧ rm.frames + 1 ≤ R.frames ∧ 8 + (maxL + 11) + rm.locals ≤ R.locals ∧ (∀ w ∈ ws, ∀ (a' : Array Value) (U : State), s.WarmedH U.vm → w.before a' U = true) ∧ Cond.codeWith y bytes maxL ret hh ∈ ws) ∧
  (Cond.codeWith y bytes maxL ret hh).before args s = true ∧ (Cond.initialized y.cls).before args s = true ∧ (y.cls ≠ "java/lang/invoke/MethodHandle" ∧ y.cls ≠ "java/lang/invoke/VarHandle") ∧
  (∀ sig, parseMethodDescriptor y.desc = some sig → n = sig.parameters.length) ∧ (Cond.methodLink own index y).before args s = true ∧ (Cond.instanceMethod y).before args s = true ∧ (Cond.selects C y y).before args s = true
theorem vx_cwVW {own C : String} {index maxL mc ms : Nat} {y : MethodName} {bytes : ByteArray} {ret : Option FieldType} {hh : List (Nat × Nat × Nat × Nat)} {Ts ws ws' : List Cond} {rm : Room} (n : Nat) (ht : ∀ w ∈ Ts, w.before args s = true) (hT : GoodIn Ts (wsV own index C y ws)) (hw : ws = Cond.codeWith y bytes maxL ret hh :: ws') (hrc : rm.cells = mc) (hrs : rm.slots = ms)
    (hd : y.cls = C ∧ y.cls ≠ "java/lang/invoke/MethodHandle" ∧ y.cls ≠ "java/lang/invoke/VarHandle" ∧ (parseMethodDescriptor y.desc).map (fun d => d.parameters.length) = some n) (hR : rm.frames + 1 ≤ R.frames ∧ 8 + (maxL + 11) + rm.locals ≤ R.locals) :
    vx_CVW R s args own C index y bytes maxL ret hh ws rm mc ms n := by
  obtain ⟨hC, hd⟩ := hd
  subst hC
  have ok : ∀ w ∈ wsV own index y.cls y ws, w.before args s = true := fun w h => ht w (hT w h).1
  have hG : GoodIn Ts ws := fun w h => hT w (by unfold wsV; exact List.mem_append_right _ h)
  have hc : Cond.codeWith y bytes maxL ret hh ∈ ws := by rw [hw]; exact List.mem_cons_self
  refine ⟨⟨hrc, hrs, hR.1, hR.2, pay_in ht hG, hc⟩, ht _ (hG _ hc).1, ok _ (by simp [wsV]), ⟨hd.1, hd.2.1⟩, fun sig h => ?_, ok _ (by simp [wsV]), ok _ (by simp [wsV]), ok _ (by simp [wsV])⟩
  have h2 := hd.2.2
  rw [h] at h2
  exact (Option.some.inj h2).symm
theorem vx_runVW {y : MethodName} {bytes cc : ByteArray} {maxL nL mc ms n index : Nat} {ret : Option FieldType} {hh : List (Nat × Nat × Nat × Nat)} {ws : List Cond} {rm : Room} {Pc : Array Value → State → Prop} {Qc : Array Value → State → Outcome → State → Prop} {free : Addr → Prop} {Ts : List Cond} {own C : String} {b : Addr} {As rest : List Value} {g : JFrame}
    (S : CallFix p m c cc nL s args Ts own) (hM : Met l y ws rm Pc Qc mc ms free) (cw : vx_CVW R s args own C index y bytes maxL ret hh ws rm mc ms n) (hp : PreV s H C b Pc As)
    (hg : g.method = m) (hn : As.length = n) (hsize : g.locals.size = nL) (hstack : g.stack = As.reverse ++ .ref b :: rest) (hW : 2 * g.monitorRoom + (rest.map fun v => v.category).sum ≤ 8) (hdg : decode cc g.pc = .ok (.invokevirtual index, 3)) (hf : cells + mc ≤ R.cells ∧ slots + ms ≤ R.slots) :
    va_Run p l e R s m args below meth c H locs cells slots mc ms g rest (Qc (Value.ref b :: As).toArray) free := by
  obtain ⟨⟨hrc, hrs, hfr, hlo, hws, hcw⟩, hcode, hini, hy, hlen, hl, hin, hse⟩ := cw
  have hK : Back l R p e below s args y 3 8 (PreOf R mc ms Pc) (PostOf Qc mc ms free) := va_backW (hh := hh) (bytes := bytes) (maxL := maxL) (ret := ret) hM hp.1 hrc hrs hfr hlo hws hcw (fun a' U hW => word_at hW (Or.inl (by first | rfl | simp [Cond.onTables, Cond.keeps, Cond.steady])) hini)
  obtain ⟨hx, hb, hml, ho, -⟩ := S
  obtain ⟨-, ⟨cellB, hcB, hoB, hclB⟩, hPc⟩ := hp
  intro T hT X
  obtain ⟨v, vm₁, ⟨U', l2, c2, s2⟩, hW₁, X', ⟨g', mk, t, L, e1, e2, hq, h1, hL, h2, h3⟩, st⟩ := vx_callVW X hx (C := C) (hh := hh) (bytes := bytes) (maxL := maxL) (ret := ret) ho hl hin hse hcode hy hK (by rw [hT]; exact hcB) hoB hclB hg (hsize.trans hml.symm) (argsL := As) (rest := rest) (fun sig h => hn.trans (hlen sig h)) hstack hW (by rw [hb]; exact hdg)
    (fun vm₁ hW₁ => ⟨hf.1, hf.2, hPc (T.setVm vm₁) hT hW₁⟩)
  dsimp only [Pt.U, Pt.locs, Pt.cells, Pt.slots] at X' e1 e2 h1 h2 h3 st
  subst h1; subst h2; subst h3
  exact ⟨v, (T.setVm vm₁).calling g' mk (Value.ref b :: As).toArray, t, U', L, hT, X', hL, e1, e2, hq, st⟩
section
variable {y : MethodName} {bytes cc : ByteArray} {maxL nL mc ms n index : Nat} {ret : Option FieldType} {ws : List Cond} {rm : Room} {Pc : Array Value → State → Prop} {Qc : Array Value → State → Outcome → State → Prop} {XC : String → State → State → Prop} {free : Addr → Prop} {Ts : List Cond} {own C : String} {b : Addr} {As rest : List Value} {g : JFrame}
theorem vx_runVX {hh : List (Nat × Nat × Nat × Nat)} (S : CallFix p m c cc nL s args Ts own) (hM : vx_Met l y ws rm Pc Qc XC mc ms free) (cw : vx_CVW R s args own C index y bytes maxL ret hh ws rm mc ms n) (hp : PreV s H C b Pc As)
    (hg : g.method = m) (hn : As.length = n) (hsize : g.locals.size = nL) (hstack : g.stack = As.reverse ++ .ref b :: rest) (hW : 2 * g.monitorRoom + (rest.map fun v => v.category).sum ≤ 8) (hdg : decode cc g.pc = .ok (.invokevirtual index, 3)) (hf : cells + mc ≤ R.cells ∧ slots + ms ≤ R.slots) :
    vx_Run p l e R s m args below meth c H locs cells slots mc ms g rest (Qc (Value.ref b :: As).toArray) XC free := by
  obtain ⟨⟨hrc, hrs, hfr, hlo, hws, hcw⟩, hcode, hini, hy, hlen, hl, hin, hse⟩ := cw
  have hK : vx_Back l R p e below s args y 3 8 (PreOf R mc ms Pc) (PostOf Qc mc ms free) (vx_Post XC mc ms free) := vx_backW (hh := hh) (bytes := bytes) (maxL := maxL) (ret := ret) hM hp.1 hrc hrs hfr hlo hws hcw (fun a' U hW => word_at hW (Or.inl (by first | rfl | simp [Cond.onTables, Cond.keeps, Cond.steady])) hini)
  obtain ⟨hx, hb, hml, ho, -⟩ := S
  obtain ⟨-, ⟨cellB, hcB, hoB, hclB⟩, hPc⟩ := hp
  intro T hT X
  rcases vx_callVX X hx (C := C) (hh := hh) (bytes := bytes) (maxL := maxL) (ret := ret) ho hl hin hse hcode hy hK (by rw [hT]; exact hcB) hoB hclB hg (hsize.trans hml.symm) (argsL := As) (rest := rest) (fun sig h => hn.trans (hlen sig h)) hstack hW (by rw [hb]; exact hdg)
    (fun vm₁ hW₁ => ⟨hf.1, hf.2, hPc (T.setVm vm₁) hT hW₁⟩) with ⟨v, vm₁, ⟨U', l2, c2, s2⟩, hW₁, X', ⟨g', mk, t, L, e1, e2, hq, h1, hL, h2, h3⟩, st⟩ | ⟨q, vm₁, ⟨U', l2, c2, s2⟩, hW₁, X', ⟨g', mk, t, L, E, ce, e1, e2, hq, hce, hcv, hcl, h1, hL, h2, h3⟩, st⟩
  · dsimp only [Pt.U, Pt.locs, Pt.cells, Pt.slots] at X' e1 e2 h1 h2 h3 st
    subst h1; subst h2; subst h3
    exact Or.inl ⟨v, (T.setVm vm₁).calling g' mk (Value.ref b :: As).toArray, t, U', L, hT, X', hL, e1, e2, hq, st⟩
  · dsimp only [Pt.U, Pt.locs, Pt.cells, Pt.slots] at X' e1 e2 h1 h2 h3 st hcl
    subst h1; subst h2; subst h3
    exact Or.inr ⟨q, (T.setVm vm₁).calling g' mk (Value.ref b :: As).toArray, t, U', L, E, ce, hT, X', hL, e1, e2, hq, hce, hcv, vx_cls hW₁ hcl, st⟩
theorem vx_runSX {hh : List (Nat × Nat × Nat × Nat)} (S : CallFix p m c cc nL s args Ts own) (hM : vx_Met l y ws rm Pc Qc XC mc ms free) (cw : vx_CSW R s args own index y bytes maxL ret hh ws rm mc ms n) (hp : PreS s H Pc As)
    (hg : g.method = m) (hn : As.length = n) (hsize : g.locals.size = nL) (hstack : g.stack = As.reverse ++ rest) (hW : 2 * g.monitorRoom + (rest.map fun v => v.category).sum ≤ 8) (hdg : decode cc g.pc = .ok (.invokestatic index, 3)) (hf : cells + mc ≤ R.cells ∧ slots + ms ≤ R.slots) :
    vx_Run p l e R s m args below meth c H locs cells slots mc ms g rest (Qc As.toArray) XC free := by
  obtain ⟨⟨hrc, hrs, hfr, hlo, hws, hcw⟩, hcode, hini, hy, hlen, hl, hstt⟩ := cw
  have hK : vx_Back l R p e below s args y 3 8 (PreOf R mc ms Pc) (PostOf Qc mc ms free) (vx_Post XC mc ms free) := vx_backW (hh := hh) (bytes := bytes) (maxL := maxL) (ret := ret) hM hp.1 hrc hrs hfr hlo hws hcw (fun a' U hW => word_at hW (Or.inl (by first | rfl | simp [Cond.onTables, Cond.keeps, Cond.steady])) hini)
  obtain ⟨hx, hb, hml, ho, -⟩ := S
  intro T hT X
  rcases vx_callSX X hx (hh := hh) (bytes := bytes) (maxL := maxL) (ret := ret) ho hl hstt hini hcode hy hK hg (hsize.trans hml.symm) (argsL := As) (rest := rest) (fun sig h => hn.trans (hlen sig h)) hstack hW (by rw [hb]; exact hdg)
    (fun vm₁ hW₁ => ⟨hf.1, hf.2, hp.2 (T.setVm vm₁) hT hW₁⟩) with ⟨v, vm₁, ⟨U', l2, c2, s2⟩, hW₁, X', ⟨g', mk, t, L, e1, e2, hq, h1, hL, h2, h3⟩, st⟩ | ⟨q, vm₁, ⟨U', l2, c2, s2⟩, hW₁, X', ⟨g', mk, t, L, E, ce, e1, e2, hq, hce, hcv, hcl, h1, hL, h2, h3⟩, st⟩
  · dsimp only [Pt.U, Pt.locs, Pt.cells, Pt.slots] at X' e1 e2 h1 h2 h3 st
    subst h1; subst h2; subst h3
    exact Or.inl ⟨v, (T.setVm vm₁).calling g' mk As.toArray, t, U', L, hT, X', hL, e1, e2, hq, st⟩
  · dsimp only [Pt.U, Pt.locs, Pt.cells, Pt.slots] at X' e1 e2 h1 h2 h3 st hcl
    subst h1; subst h2; subst h3
    exact Or.inr ⟨q, (T.setVm vm₁).calling g' mk As.toArray, t, U', L, E, ce, hT, X', hL, e1, e2, hq, hce, hcv, vx_cls hW₁ hcl, st⟩
end
end VXH
theorem vx_ofWH {l : Launch} {y : MethodName} {ws ws' : List Cond} {rm : Room} {Pc : Array Value → State → Prop} {Qc : Array Value → State → Outcome → State → Prop} {XC : String → State → State → Prop} {mc ms : Nat} {free : Addr → Prop} {cc : ByteArray} {maxL : Nat} {ret : Option FieldType} {hh : List (Nat × Nat × Nat × Nat)}
    (hy : plainName y.cls = true) (hw : ws = Cond.codeWith y cc maxL ret hh :: ws')
    (body : ∀ p e s m args below meth c s₁, BodyLoose p l y (headSpec ws rm) cc maxL ret e s m args below meth c s₁ → c.maxLocals = maxL → Pc args s →
      W p l e (headSpec ws rm).room s m args below meth c s.heap [] 0 0 (vx_MQ below Qc XC args s mc ms free) (entryFrame m args maxL)) : vx_Met l y ws rm Pc Qc XC mc ms free := by
  refine MetFree.of_bodyS (code := cc) (maxLocals := maxL) (ret := ret) hy ?_ ?_
  · intro args s m h hn
    obtain ⟨m9, meth, c, hn9, h1, h2, h3, h4, -, h5, h6, -⟩ := Cond.codeWith_spec (atoms_spec (ws := ws) h _ (by rw [hw]; exact List.mem_cons_self))
    cases hn.symm.trans hn9
    exact ⟨meth, c, h1, h2, h3, h4, h5, h6⟩
  · intro p e s m args below meth c s₁ B hml hP _
    have hh0 : s₁.heap = s.heap := by rw [B.state]; rfl
    obtain ⟨t, a1, o, b1, b2, b3⟩ := body p e s m args below meth c s₁ B hml hP s₁ hh0 (Stand.of_body B)
    exact ⟨t, o, a1, b1, b2, b3⟩
/-! ===== END ===== -/
end
section
def RX0 : String := "BraidBook$Books"
def TX0 : u_T := fun k => match k with
  | 0 => ("BraidBook$Books", "month", "I", false)
  | 1 => ("BraidBook$Books", "entryCount", "I", false)
  | 2 => ("BraidBook$Books", "actCounts", "[I", true)
  | _ => ("BraidBook$Books", "entries", "[LBraidBook$Entry;", true)
def tyX0 : Nat → FieldType := fun k => match k with
  | 0 => .int
  | 1 => .int
  | 2 => .array .int
  | _ => .array (.object "BraidBook$Entry")
abbrev wsX00 : List Cond := u_ws RX0 TX0 4
theorem nmX0 : ∀ a, a < 4 → ∀ b, b < 4 → a ≠ b → (TX0 a).2.1 ≠ (TX0 b).2.1 := by decide +kernel
theorem tyX0_ok : ∀ k, k < 4 → parseFieldDescriptor (TX0 k).2.2.1 = some (tyX0 k) := by decide +kernel
abbrev cX0_init : ByteArray := prog_2_method_1_code
def yX0_init : MethodName := ⟨RX0, "<init>", "()V"⟩
abbrev cX0_clear : ByteArray := prog_2_method_2_code
def yX0_clear : MethodName := ⟨RX0, "clear", "()V"⟩
abbrev cX0_find : ByteArray := prog_2_method_3_code
def yX0_find : MethodName := ⟨RX0, "find", "(I)LBraidBook$Entry;"⟩
abbrev cX0_nextAct : ByteArray := prog_2_method_4_code
def yX0_nextAct : MethodName := ⟨RX0, "nextAct", "(I)I"⟩
abbrev cX0_makeEntry : ByteArray := prog_2_method_5_code
def yX0_makeEntry : MethodName := ⟨RX0, "makeEntry", "(I)I"⟩
abbrev cX0_tellValue : ByteArray := prog_2_method_6_code
def yX0_tellValue : MethodName := ⟨RX0, "tellValue", "(IIII)I"⟩
abbrev cX0_setMark : ByteArray := prog_2_method_7_code
def yX0_setMark : MethodName := ⟨RX0, "setMark", "(II)I"⟩
abbrev cX0_shareFields : ByteArray := prog_2_method_8_code
def yX0_shareFields : MethodName := ⟨RX0, "shareFields", "(III)I"⟩
abbrev cX0_mergeDevices : ByteArray := prog_2_method_9_code
def yX0_mergeDevices : MethodName := ⟨RX0, "mergeDevices", "(II)I"⟩
abbrev cX0_passMonths : ByteArray := prog_2_method_10_code
def yX0_passMonths : MethodName := ⟨RX0, "passMonths", "(I)I"⟩
abbrev cX0_countClashes : ByteArray := prog_2_method_11_code
def yX0_countClashes : MethodName := ⟨RX0, "countClashes", "(I)I"⟩
abbrev cX0_countCompared : ByteArray := prog_2_method_12_code
def yX0_countCompared : MethodName := ⟨RX0, "countCompared", "(II)I"⟩
abbrev cX0_countSame : ByteArray := prog_2_method_13_code
def yX0_countSame : MethodName := ⟨RX0, "countSame", "(II)I"⟩
def RX1 : String := "BraidBook$Copy"
def TX1 : u_T := fun k => match k with
  | 0 => ("BraidBook$Copy", "known", "Z", false)
  | 1 => ("BraidBook$Copy", "noted", "Z", false)
  | 2 => ("BraidBook$Copy", "acts", "[I", true)
  | 3 => ("BraidBook$Copy", "told", "[I", true)
  | 4 => ("BraidBook$Copy", "seen", "LBraidBook$Numbers;", true)
  | _ => ("BraidBook$Copy", "note", "LBraidBook$Numbers;", true)
def tyX1 : Nat → FieldType := fun k => match k with
  | 0 => .boolean
  | 1 => .boolean
  | 2 => .array .int
  | 3 => .array .int
  | 4 => .object "BraidBook$Numbers"
  | _ => .object "BraidBook$Numbers"
abbrev wsX10 : List Cond := u_ws RX1 TX1 6
theorem nmX1 : ∀ a, a < 6 → ∀ b, b < 6 → a ≠ b → (TX1 a).2.1 ≠ (TX1 b).2.1 := by decide +kernel
theorem tyX1_ok : ∀ k, k < 6 → parseFieldDescriptor (TX1 k).2.2.1 = some (tyX1 k) := by decide +kernel
abbrev cX1_init : ByteArray := prog_3_method_1_code
def yX1_init : MethodName := ⟨RX1, "<init>", "()V"⟩
abbrev cX1_clear : ByteArray := prog_3_method_2_code
def yX1_clear : MethodName := ⟨RX1, "clear", "()V"⟩
abbrev cX1_countValues : ByteArray := prog_3_method_3_code
def yX1_countValues : MethodName := ⟨RX1, "countValues", "(I)I"⟩
abbrev cX1_countAllValues : ByteArray := prog_3_method_4_code
def yX1_countAllValues : MethodName := ⟨RX1, "countAllValues", "()I"⟩
abbrev cX1_countClashes : ByteArray := prog_3_method_5_code
def yX1_countClashes : MethodName := ⟨RX1, "countClashes", "()I"⟩
abbrev cX1_valueAt : ByteArray := prog_3_method_6_code
def yX1_valueAt : MethodName := ⟨RX1, "valueAt", "(II)I"⟩
abbrev cX1_dropValues : ByteArray := prog_3_method_7_code
def yX1_dropValues : MethodName := ⟨RX1, "dropValues", "(I)V"⟩
abbrev cX1_keepFields : ByteArray := prog_3_method_8_code
def yX1_keepFields : MethodName := ⟨RX1, "keepFields", "(I)V"⟩
abbrev cX1_hasSameValues : ByteArray := prog_3_method_9_code
def yX1_hasSameValues : MethodName := ⟨RX1, "hasSameValues", "(LBraidBook$Copy;I)Z"⟩
abbrev cX1_braid : ByteArray := prog_3_method_10_code
def yX1_braid : MethodName := ⟨RX1, "braid", "(LBraidBook$Copy;I)I"⟩
abbrev cX1_braidCell : ByteArray := prog_3_method_11_code
def yX1_braidCell : MethodName := ⟨RX1, "braidCell", "(LBraidBook$Copy;I)I"⟩
abbrev cX1_exchangeNotes : ByteArray := prog_3_method_12_code
def yX1_exchangeNotes : MethodName := ⟨RX1, "exchangeNotes", "(LBraidBook$Copy;)V"⟩
def RX2 : String := "BraidBook$Entry"
def TX2 : u_T := fun k => match k with
  | 0 => ("BraidBook$Entry", "owner", "I", false)
  | 1 => ("BraidBook$Entry", "markCount", "I", false)
  | 2 => ("BraidBook$Entry", "shared", "[I", true)
  | 3 => ("BraidBook$Entry", "copies", "[LBraidBook$Copy;", true)
  | _ => ("BraidBook$Entry", "marks", "Ljava/util/ArrayList;", true)
def tyX2 : Nat → FieldType := fun k => match k with
  | 0 => .int
  | 1 => .int
  | 2 => .array .int
  | 3 => .array (.object "BraidBook$Copy")
  | _ => .object "java/util/ArrayList"
abbrev wsX20 : List Cond := u_ws RX2 TX2 5
theorem nmX2 : ∀ a, a < 5 → ∀ b, b < 5 → a ≠ b → (TX2 a).2.1 ≠ (TX2 b).2.1 := by decide +kernel
theorem tyX2_ok : ∀ k, k < 5 → parseFieldDescriptor (TX2 k).2.2.1 = some (tyX2 k) := by decide +kernel
abbrev cX2_init : ByteArray := prog_4_method_1_code
def yX2_init : MethodName := ⟨RX2, "<init>", "()V"⟩
abbrev cX2_clear : ByteArray := prog_4_method_2_code
def yX2_clear : MethodName := ⟨RX2, "clear", "()V"⟩
abbrev cX2_fieldsFor : ByteArray := prog_4_method_3_code
def yX2_fieldsFor : MethodName := ⟨RX2, "fieldsFor", "(I)I"⟩
abbrev cX2_stateOn : ByteArray := prog_4_method_4_code
def yX2_stateOn : MethodName := ⟨RX2, "stateOn", "(I)I"⟩
abbrev cX2_isCovered : ByteArray := prog_4_method_5_code
def yX2_isCovered : MethodName := ⟨RX2, "isCovered", "(I)Z"⟩
abbrev cX2_countMarks : ByteArray := prog_4_method_6_code
def yX2_countMarks : MethodName := ⟨RX2, "countMarks", "(I)I"⟩
abbrev cX2_newestMark : ByteArray := prog_4_method_7_code
def yX2_newestMark : MethodName := ⟨RX2, "newestMark", "(I)I"⟩
abbrev cX2_addMark : ByteArray := prog_4_method_8_code
def yX2_addMark : MethodName := ⟨RX2, "addMark", "(II)V"⟩
abbrev cX2_forget : ByteArray := prog_4_method_9_code
def yX2_forget : MethodName := ⟨RX2, "forget", "(I)V"⟩
abbrev cX2_forgetWhereOld : ByteArray := prog_4_method_10_code
def yX2_forgetWhereOld : MethodName := ⟨RX2, "forgetWhereOld", "(I)I"⟩
abbrev cX2_mergeOn : ByteArray := prog_4_method_11_code
def yX2_mergeOn : MethodName := ⟨RX2, "mergeOn", "(III)I"⟩
abbrev cX2_isOutdated : ByteArray := prog_4_method_12_code
def yX2_isOutdated : MethodName := ⟨RX2, "isOutdated", "(II)Z"⟩
abbrev cX2_braid : ByteArray := prog_4_method_13_code
def yX2_braid : MethodName := ⟨RX2, "braid", "(IIII)I"⟩
abbrev cX2_comparedFields : ByteArray := prog_4_method_14_code
def yX2_comparedFields : MethodName := ⟨RX2, "comparedFields", "(II)I"⟩
abbrev cX2_countSame : ByteArray := prog_4_method_15_code
def yX2_countSame : MethodName := ⟨RX2, "countSame", "(II)I"⟩
def RX3 : String := "BraidBook$Journal"
def TX3 : u_T := fun k => match k with
  | 0 => ("BraidBook$Journal", "size", "I", false)
  | 1 => ("BraidBook$Journal", "kinds", "[I", true)
  | 2 => ("BraidBook$Journal", "firsts", "[I", true)
  | 3 => ("BraidBook$Journal", "seconds", "[I", true)
  | 4 => ("BraidBook$Journal", "thirds", "[I", true)
  | _ => ("BraidBook$Journal", "fourths", "[I", true)
def tyX3 : Nat → FieldType := fun k => match k with
  | 0 => .int
  | 1 => .array .int
  | 2 => .array .int
  | 3 => .array .int
  | 4 => .array .int
  | _ => .array .int
abbrev wsX30 : List Cond := u_ws RX3 TX3 6
theorem nmX3 : ∀ a, a < 6 → ∀ b, b < 6 → a ≠ b → (TX3 a).2.1 ≠ (TX3 b).2.1 := by decide +kernel
theorem tyX3_ok : ∀ k, k < 6 → parseFieldDescriptor (TX3 k).2.2.1 = some (tyX3 k) := by decide +kernel
abbrev cX3_init : ByteArray := prog_5_method_1_code
def yX3_init : MethodName := ⟨RX3, "<init>", "()V"⟩
abbrev cX3_isFull : ByteArray := prog_5_method_2_code
def yX3_isFull : MethodName := ⟨RX3, "isFull", "()Z"⟩
abbrev cX3_write : ByteArray := prog_5_method_3_code
def yX3_write : MethodName := ⟨RX3, "write", "(IIIII)V"⟩
abbrev cX3_repeatOn : ByteArray := prog_5_method_4_code
def yX3_repeatOn : MethodName := ⟨RX3, "repeatOn", "(LBraidBook$Books;)V"⟩
def RX4 : String := "BraidBook$Mark"
def TX4 : u_T := fun k => match k with
  | 0 => ("BraidBook$Mark", "seen", "LBraidBook$Numbers;", true)
  | _ => ("BraidBook$Mark", "knownSince", "[I", true)
def tyX4 : Nat → FieldType := fun k => match k with
  | 0 => .object "BraidBook$Numbers"
  | _ => .array .int
abbrev wsX40 : List Cond := u_ws RX4 TX4 2
theorem nmX4 : ∀ a, a < 2 → ∀ b, b < 2 → a ≠ b → (TX4 a).2.1 ≠ (TX4 b).2.1 := by decide +kernel
theorem tyX4_ok : ∀ k, k < 2 → parseFieldDescriptor (TX4 k).2.2.1 = some (tyX4 k) := by decide +kernel
abbrev cX4_init : ByteArray := prog_6_method_1_code
def yX4_init : MethodName := ⟨RX4, "<init>", "()V"⟩
abbrev cX4_set : ByteArray := prog_6_method_2_code
def yX4_set : MethodName := ⟨RX4, "set", "(LBraidBook$Numbers;II)V"⟩
abbrev cX4_isKnownOn : ByteArray := prog_6_method_3_code
def yX4_isKnownOn : MethodName := ⟨RX4, "isKnownOn", "(I)Z"⟩
abbrev cX4_spread : ByteArray := prog_6_method_4_code
def yX4_spread : MethodName := ⟨RX4, "spread", "(III)V"⟩
def RX5 : String := "BraidBook$Numbers"
def TX5 : u_T := fun k => match k with
  | _ => ("BraidBook$Numbers", "numbers", "[I", true)
def tyX5 : Nat → FieldType := fun k => match k with
  | _ => .array .int
abbrev wsX50 : List Cond := u_ws RX5 TX5 1
theorem nmX5 : ∀ a, a < 1 → ∀ b, b < 1 → a ≠ b → (TX5 a).2.1 ≠ (TX5 b).2.1 := by decide +kernel
theorem tyX5_ok : ∀ k, k < 1 → parseFieldDescriptor (TX5 k).2.2.1 = some (tyX5 k) := by decide +kernel
abbrev cX5_init : ByteArray := prog_7_method_1_code
def yX5_init : MethodName := ⟨RX5, "<init>", "()V"⟩
abbrev cX5_clear : ByteArray := prog_7_method_2_code
def yX5_clear : MethodName := ⟨RX5, "clear", "()V"⟩
abbrev cX5_raiseTo : ByteArray := prog_7_method_3_code
def yX5_raiseTo : MethodName := ⟨RX5, "raiseTo", "(LBraidBook$Numbers;)V"⟩
abbrev cX5_coverAll : ByteArray := prog_7_method_4_code
def yX5_coverAll : MethodName := ⟨RX5, "coverAll", "(LBraidBook$Copy;)Z"⟩
def RX6 : String := "BraidBook"
def TX6 : u_T := fun k => match k with
  | 0 => ("BraidBook", "books", "LBraidBook$Books;", true)
  | 1 => ("BraidBook", "booksAnew", "LBraidBook$Books;", true)
  | _ => ("BraidBook", "journal", "LBraidBook$Journal;", true)
def tyX6 : Nat → FieldType := fun k => match k with
  | 0 => .object "BraidBook$Books"
  | 1 => .object "BraidBook$Books"
  | _ => .object "BraidBook$Journal"
abbrev wsX60 : List Cond := u_ws RX6 TX6 3
theorem nmX6 : ∀ a, a < 3 → ∀ b, b < 3 → a ≠ b → (TX6 a).2.1 ≠ (TX6 b).2.1 := by decide +kernel
theorem tyX6_ok : ∀ k, k < 3 → parseFieldDescriptor (TX6 k).2.2.1 = some (tyX6 k) := by decide +kernel
abbrev cX6_init : ByteArray := prog_1_method_1_code
def yX6_init : MethodName := ⟨RX6, "<init>", "()V"⟩
abbrev cX6_entry : ByteArray := prog_1_method_2_code
def yX6_entry : MethodName := ⟨RX6, "entry", "(I)I"⟩
abbrev cX6_tell : ByteArray := prog_1_method_3_code
def yX6_tell : MethodName := ⟨RX6, "tell", "(IIII)I"⟩
abbrev cX6_delete : ByteArray := prog_1_method_4_code
def yX6_delete : MethodName := ⟨RX6, "delete", "(II)I"⟩
abbrev cX6_share : ByteArray := prog_1_method_5_code
def yX6_share : MethodName := ⟨RX6, "share", "(IIII)I"⟩
abbrev cX6_merge : ByteArray := prog_1_method_6_code
def yX6_merge : MethodName := ⟨RX6, "merge", "(II)I"⟩
abbrev cX6_pass : ByteArray := prog_1_method_7_code
def yX6_pass : MethodName := ⟨RX6, "pass", "(I)I"⟩
abbrev cX6_state : ByteArray := prog_1_method_8_code
def yX6_state : MethodName := ⟨RX6, "state", "(II)I"⟩
abbrev cX6_value : ByteArray := prog_1_method_9_code
def yX6_value : MethodName := ⟨RX6, "value", "(IIII)I"⟩
abbrev cX6_valueAnew : ByteArray := prog_1_method_10_code
def yX6_valueAnew : MethodName := ⟨RX6, "valueAnew", "(IIII)I"⟩
abbrev cX6_values : ByteArray := prog_1_method_11_code
def yX6_values : MethodName := ⟨RX6, "values", "(III)I"⟩
abbrev cX6_seen : ByteArray := prog_1_method_12_code
def yX6_seen : MethodName := ⟨RX6, "seen", "(IIII)I"⟩
abbrev cX6_marks : ByteArray := prog_1_method_13_code
def yX6_marks : MethodName := ⟨RX6, "marks", "(II)I"⟩
abbrev cX6_clashes : ByteArray := prog_1_method_14_code
def yX6_clashes : MethodName := ⟨RX6, "clashes", "(I)I"⟩
abbrev cX6_agreement : ByteArray := prog_1_method_15_code
def yX6_agreement : MethodName := ⟨RX6, "agreement", "(II)F"⟩
abbrev cX6_requireDevice : ByteArray := prog_1_method_16_code
def yX6_requireDevice : MethodName := ⟨RX6, "requireDevice", "(I)V"⟩
abbrev cX6_requireField : ByteArray := prog_1_method_17_code
def yX6_requireField : MethodName := ⟨RX6, "requireField", "(I)V"⟩
abbrev cX6_requireOwner : ByteArray := prog_1_method_18_code
def yX6_requireOwner : MethodName := ⟨RX6, "requireOwner", "(LBraidBook$Entry;I)V"⟩
abbrev cX6_requireRoomInJournal : ByteArray := prog_1_method_19_code
def yX6_requireRoomInJournal : MethodName := ⟨RX6, "requireRoomInJournal", "()V"⟩
abbrev cX6_knownEntry : ByteArray := prog_1_method_20_code
def yX6_knownEntry : MethodName := ⟨RX6, "knownEntry", "(LBraidBook$Books;II)LBraidBook$Entry;"⟩
abbrev cX6_valueIn : ByteArray := prog_1_method_21_code
def yX6_valueIn : MethodName := ⟨RX6, "valueIn", "(LBraidBook$Books;IIII)I"⟩
abbrev cX6_isDevice : ByteArray := prog_1_method_22_code
def yX6_isDevice : MethodName := ⟨RX6, "isDevice", "(I)Z"⟩
abbrev cX6_isPerson : ByteArray := prog_1_method_23_code
def yX6_isPerson : MethodName := ⟨RX6, "isPerson", "(I)Z"⟩
abbrev cX6_isField : ByteArray := prog_1_method_24_code
def yX6_isField : MethodName := ⟨RX6, "isField", "(I)Z"⟩
abbrev cX6_personOf : ByteArray := prog_1_method_25_code
def yX6_personOf : MethodName := ⟨RX6, "personOf", "(I)I"⟩
abbrev cX6_cell : ByteArray := prog_1_method_26_code
def yX6_cell : MethodName := ⟨RX6, "cell", "(II)I"⟩
abbrev cX6_contains : ByteArray := prog_1_method_27_code
def yX6_contains : MethodName := ⟨RX6, "contains", "(II)Z"⟩
def RX7 : String := "BraidBookModel"
def TX7 : u_T := fun k => match k with
  | 0 => ("BraidBookModel", "month", "I", false)
  | 1 => ("BraidBookModel", "acts", "[I", true)
  | 2 => ("BraidBookModel", "entries", "I", false)
  | 3 => ("BraidBookModel", "owner", "[I", true)
  | 4 => ("BraidBookModel", "shared", "[I", true)
  | 5 => ("BraidBookModel", "knows", "[Z", true)
  | 6 => ("BraidBookModel", "act", "[I", true)
  | 7 => ("BraidBookModel", "value", "[I", true)
  | 8 => ("BraidBookModel", "seen", "[I", true)
  | 9 => ("BraidBookModel", "hasNote", "[Z", true)
  | 10 => ("BraidBookModel", "note", "[I", true)
  | 11 => ("BraidBookModel", "marks", "I", false)
  | 12 => ("BraidBookModel", "markOf", "[I", true)
  | 13 => ("BraidBookModel", "copy", "[I", true)
  | 14 => ("BraidBookModel", "since", "[I", true)
  | 15 => ("BraidBookModel", "gained", "I", false)
  | _ => ("BraidBookModel", "thrown", "I", false)
def tyX7 : Nat → FieldType := fun k => match k with
  | 0 => .int
  | 1 => .array .int
  | 2 => .int
  | 3 => .array .int
  | 4 => .array .int
  | 5 => .array .boolean
  | 6 => .array .int
  | 7 => .array .int
  | 8 => .array .int
  | 9 => .array .boolean
  | 10 => .array .int
  | 11 => .int
  | 12 => .array .int
  | 13 => .array .int
  | 14 => .array .int
  | 15 => .int
  | _ => .int
abbrev wsX70 : List Cond := u_ws RX7 TX7 17
theorem nmX7 : ∀ a, a < 17 → ∀ b, b < 17 → a ≠ b → (TX7 a).2.1 ≠ (TX7 b).2.1 := by decide +kernel
theorem tyX7_ok : ∀ k, k < 17 → parseFieldDescriptor (TX7 k).2.2.1 = some (tyX7 k) := by decide +kernel
abbrev cX7_init : ByteArray := prog_9_method_1_code
def yX7_init : MethodName := ⟨RX7, "<init>", "()V"⟩
abbrev cX7_thrown : ByteArray := prog_9_method_2_code
def yX7_thrown : MethodName := ⟨RX7, "thrown", "()I"⟩
abbrev cX7_fails : ByteArray := prog_9_method_3_code
def yX7_fails : MethodName := ⟨RX7, "fails", "(I)Z"⟩
abbrev cX7_isIn : ByteArray := prog_9_method_4_code
def yX7_isIn : MethodName := ⟨RX7, "isIn", "(III)Z"⟩
abbrev cX7_isDevice : ByteArray := prog_9_method_5_code
def yX7_isDevice : MethodName := ⟨RX7, "isDevice", "(I)Z"⟩
abbrev cX7_isField : ByteArray := prog_9_method_6_code
def yX7_isField : MethodName := ⟨RX7, "isField", "(I)Z"⟩
abbrev cX7_isEntry : ByteArray := prog_9_method_7_code
def yX7_isEntry : MethodName := ⟨RX7, "isEntry", "(I)Z"⟩
abbrev cX7_pair : ByteArray := prog_9_method_8_code
def yX7_pair : MethodName := ⟨RX7, "pair", "(II)I"⟩
abbrev cX7_place : ByteArray := prog_9_method_9_code
def yX7_place : MethodName := ⟨RX7, "place", "(IIII)I"⟩
abbrev cX7_isKnown : ByteArray := prog_9_method_10_code
def yX7_isKnown : MethodName := ⟨RX7, "isKnown", "(II)Z"⟩
abbrev cX7_may : ByteArray := prog_9_method_11_code
def yX7_may : MethodName := ⟨RX7, "may", "(III)Z"⟩
abbrev cX7_entry : ByteArray := prog_9_method_12_code
def yX7_entry : MethodName := ⟨RX7, "entry", "(I)I"⟩
abbrev cX7_count : ByteArray := prog_9_method_13_code
def yX7_count : MethodName := ⟨RX7, "count", "(III)I"⟩
abbrev cX7_all : ByteArray := prog_9_method_14_code
def yX7_all : MethodName := ⟨RX7, "all", "(II)I"⟩
abbrev cX7_tell : ByteArray := prog_9_method_15_code
def yX7_tell : MethodName := ⟨RX7, "tell", "(IIII)I"⟩
abbrev cX7_isKnownMark : ByteArray := prog_9_method_16_code
def yX7_isKnownMark : MethodName := ⟨RX7, "isKnownMark", "(II)Z"⟩
abbrev cX7_covers : ByteArray := prog_9_method_17_code
def yX7_covers : MethodName := ⟨RX7, "covers", "(III)Z"⟩
abbrev cX7_isCovered : ByteArray := prog_9_method_18_code
def yX7_isCovered : MethodName := ⟨RX7, "isCovered", "(II)Z"⟩
abbrev cX7_isThere : ByteArray := prog_9_method_19_code
def yX7_isThere : MethodName := ⟨RX7, "isThere", "(II)Z"⟩
abbrev cX7_delete : ByteArray := prog_9_method_20_code
def yX7_delete : MethodName := ⟨RX7, "delete", "(II)I"⟩
abbrev cX7_share : ByteArray := prog_9_method_21_code
def yX7_share : MethodName := ⟨RX7, "share", "(IIII)I"⟩
abbrev cX7_greater : ByteArray := prog_9_method_22_code
def yX7_greater : MethodName := ⟨RX7, "greater", "(II)I"⟩
abbrev cX7_forgets : ByteArray := prog_9_method_23_code
def yX7_forgets : MethodName := ⟨RX7, "forgets", "(II)V"⟩
abbrev cX7_isOld : ByteArray := prog_9_method_24_code
def yX7_isOld : MethodName := ⟨RX7, "isOld", "(III)Z"⟩
abbrev cX7_areShared : ByteArray := prog_9_method_25_code
def yX7_areShared : MethodName := ⟨RX7, "areShared", "(III)Z"⟩
abbrev cX7_merges : ByteArray := prog_9_method_26_code
def yX7_merges : MethodName := ⟨RX7, "merges", "(II)V"⟩
abbrev cX7_joins : ByteArray := prog_9_method_27_code
def yX7_joins : MethodName := ⟨RX7, "joins", "(III)V"⟩
abbrev cX7_learns : ByteArray := prog_9_method_28_code
def yX7_learns : MethodName := ⟨RX7, "learns", "(II)V"⟩
abbrev cX7_notes : ByteArray := prog_9_method_29_code
def yX7_notes : MethodName := ⟨RX7, "notes", "(III)V"⟩
abbrev cX7_merge : ByteArray := prog_9_method_30_code
def yX7_merge : MethodName := ⟨RX7, "merge", "(II)I"⟩
abbrev cX7_isAged : ByteArray := prog_9_method_31_code
def yX7_isAged : MethodName := ⟨RX7, "isAged", "(II)Z"⟩
abbrev cX7_pass : ByteArray := prog_9_method_32_code
def yX7_pass : MethodName := ⟨RX7, "pass", "(I)I"⟩
abbrev cX7_state : ByteArray := prog_9_method_33_code
def yX7_state : MethodName := ⟨RX7, "state", "(II)I"⟩
abbrev cX7_teller : ByteArray := prog_9_method_34_code
def yX7_teller : MethodName := ⟨RX7, "teller", "(IIII)I"⟩
abbrev cX7_valueOf : ByteArray := prog_9_method_35_code
def yX7_valueOf : MethodName := ⟨RX7, "valueOf", "(IIII)I"⟩
abbrev cX7_value : ByteArray := prog_9_method_36_code
def yX7_value : MethodName := ⟨RX7, "value", "(IIII)I"⟩
abbrev cX7_valueAnew : ByteArray := prog_9_method_37_code
def yX7_valueAnew : MethodName := ⟨RX7, "valueAnew", "(IIII)I"⟩
abbrev cX7_values : ByteArray := prog_9_method_38_code
def yX7_values : MethodName := ⟨RX7, "values", "(III)I"⟩
abbrev cX7_seen : ByteArray := prog_9_method_39_code
def yX7_seen : MethodName := ⟨RX7, "seen", "(IIII)I"⟩
abbrev cX7_marks : ByteArray := prog_9_method_40_code
def yX7_marks : MethodName := ⟨RX7, "marks", "(II)I"⟩
abbrev cX7_clashes : ByteArray := prog_9_method_41_code
def yX7_clashes : MethodName := ⟨RX7, "clashes", "(I)I"⟩
abbrev cX7_areSame : ByteArray := prog_9_method_42_code
def yX7_areSame : MethodName := ⟨RX7, "areSame", "(IIII)Z"⟩
abbrev cX7_agreement : ByteArray := prog_9_method_43_code
def yX7_agreement : MethodName := ⟨RX7, "agreement", "(II)F"⟩
def RJx145de : String := "java/io/Serializable"
def TJx145de : u_T := fun k => match k with
  | _ => ("", "", "", false)
def tyJx145de : Nat → FieldType := fun k => match k with
  | _ => .int
abbrev wsJx145de0 : List Cond := u_ws RJx145de TJx145de 0
theorem nmJx145de : ∀ a, a < 0 → ∀ b, b < 0 → a ≠ b → (TJx145de a).2.1 ≠ (TJx145de b).2.1 := by decide +kernel
theorem tyJx145de_ok : ∀ k, k < 0 → parseFieldDescriptor (TJx145de k).2.2.1 = some (tyJx145de k) := by decide +kernel
def RJx8e188 : String := "java/lang/Cloneable"
def TJx8e188 : u_T := fun k => match k with
  | _ => ("", "", "", false)
def tyJx8e188 : Nat → FieldType := fun k => match k with
  | _ => .int
abbrev wsJx8e1880 : List Cond := u_ws RJx8e188 TJx8e188 0
theorem nmJx8e188 : ∀ a, a < 0 → ∀ b, b < 0 → a ≠ b → (TJx8e188 a).2.1 ≠ (TJx8e188 b).2.1 := by decide +kernel
theorem tyJx8e188_ok : ∀ k, k < 0 → parseFieldDescriptor (TJx8e188 k).2.2.1 = some (tyJx8e188 k) := by decide +kernel
def RJ6 : String := "java/lang/Integer"
def TJ6 : u_T := fun k => match k with
  | _ => ("", "", "", false)
def tyJ6 : Nat → FieldType := fun k => match k with
  | _ => .int
abbrev wsJ60 : List Cond := u_ws RJ6 TJ6 0
theorem nmJ6 : ∀ a, a < 0 → ∀ b, b < 0 → a ≠ b → (TJ6 a).2.1 ≠ (TJ6 b).2.1 := by decide +kernel
theorem tyJ6_ok : ∀ k, k < 0 → parseFieldDescriptor (TJ6 k).2.2.1 = some (tyJ6 k) := by decide +kernel
abbrev cJ6_bitCount_0f7a4 : ByteArray := prog_16_method_49_code
def yJ6_bitCount_0f7a4 : MethodName := ⟨RJ6, "bitCount", "(I)I"⟩
def RJxab1ab : String := "java/lang/Iterable"
def TJxab1ab : u_T := fun k => match k with
  | _ => ("", "", "", false)
def tyJxab1ab : Nat → FieldType := fun k => match k with
  | _ => .int
abbrev wsJxab1ab0 : List Cond := u_ws RJxab1ab TJxab1ab 0
theorem nmJxab1ab : ∀ a, a < 0 → ∀ b, b < 0 → a ≠ b → (TJxab1ab a).2.1 ≠ (TJxab1ab b).2.1 := by decide +kernel
theorem tyJxab1ab_ok : ∀ k, k < 0 → parseFieldDescriptor (TJxab1ab k).2.2.1 = some (tyJxab1ab k) := by decide +kernel
def RJ9 : String := "java/lang/Math"
def TJ9 : u_T := fun k => match k with
  | _ => ("", "", "", false)
def tyJ9 : Nat → FieldType := fun k => match k with
  | _ => .int
abbrev wsJ90 : List Cond := u_ws RJ9 TJ9 0
theorem nmJ9 : ∀ a, a < 0 → ∀ b, b < 0 → a ≠ b → (TJ9 a).2.1 ≠ (TJ9 b).2.1 := by decide +kernel
theorem tyJ9_ok : ∀ k, k < 0 → parseFieldDescriptor (TJ9 k).2.2.1 = some (tyJ9 k) := by decide +kernel
abbrev cJ9_max_7cf53 : ByteArray := prog_18_method_65_code
def yJ9_max_7cf53 : MethodName := ⟨RJ9, "max", "(II)I"⟩
abbrev cJ9_min_7cf53 : ByteArray := prog_18_method_69_code
def yJ9_min_7cf53 : MethodName := ⟨RJ9, "min", "(II)I"⟩
def RJ0 : String := "java/lang/String"
def TJ0 : u_T := fun k => match k with
  | _ => ("", "", "", false)
def tyJ0 : Nat → FieldType := fun k => match k with
  | _ => .int
abbrev wsJ00 : List Cond := u_ws RJ0 TJ0 0
theorem nmJ0 : ∀ a, a < 0 → ∀ b, b < 0 → a ≠ b → (TJ0 a).2.1 ≠ (TJ0 b).2.1 := by decide +kernel
theorem tyJ0_ok : ∀ k, k < 0 → parseFieldDescriptor (TJ0 k).2.2.1 = some (tyJ0 k) := by decide +kernel
def RJ10 : String := "java/lang/System"
def TJ10 : u_T := fun k => match k with
  | _ => ("", "", "", false)
def tyJ10 : Nat → FieldType := fun k => match k with
  | _ => .int
abbrev wsJ100 : List Cond := u_ws RJ10 TJ10 0
theorem nmJ10 : ∀ a, a < 0 → ∀ b, b < 0 → a ≠ b → (TJ10 a).2.1 ≠ (TJ10 b).2.1 := by decide +kernel
theorem tyJ10_ok : ∀ k, k < 0 → parseFieldDescriptor (TJ10 k).2.2.1 = some (tyJ10 k) := by decide +kernel
def RJxa1e45 : String := "java/util/AbstractCollection"
def TJxa1e45 : u_T := fun k => match k with
  | _ => ("", "", "", false)
def tyJxa1e45 : Nat → FieldType := fun k => match k with
  | _ => .int
abbrev wsJxa1e450 : List Cond := u_ws RJxa1e45 TJxa1e45 0
theorem nmJxa1e45 : ∀ a, a < 0 → ∀ b, b < 0 → a ≠ b → (TJxa1e45 a).2.1 ≠ (TJxa1e45 b).2.1 := by decide +kernel
theorem tyJxa1e45_ok : ∀ k, k < 0 → parseFieldDescriptor (TJxa1e45 k).2.2.1 = some (tyJxa1e45 k) := by decide +kernel
abbrev cJxa1e45_init_da8c8 : ByteArray := prog_23_method_1_code
def yJxa1e45_init_da8c8 : MethodName := ⟨RJxa1e45, "<init>", "()V"⟩
def RJxc12de : String := "java/util/AbstractList"
def TJxc12de : u_T := fun k => match k with
  | _ => ("", "", "", false)
def tyJxc12de : Nat → FieldType := fun k => match k with
  | _ => .int
abbrev wsJxc12de0 : List Cond := u_ws RJxc12de TJxc12de 0
theorem nmJxc12de : ∀ a, a < 0 → ∀ b, b < 0 → a ≠ b → (TJxc12de a).2.1 ≠ (TJxc12de b).2.1 := by decide +kernel
theorem tyJxc12de_ok : ∀ k, k < 0 → parseFieldDescriptor (TJxc12de k).2.2.1 = some (tyJxc12de k) := by decide +kernel
abbrev cJxc12de_init_da8c8 : ByteArray := prog_24_method_1_code
def yJxc12de_init_da8c8 : MethodName := ⟨RJxc12de, "<init>", "()V"⟩
def RJx4a65c : String := "java/util/ArrayList"
def TJx4a65c : u_T := fun k => match k with
  | 0 => ("java/util/AbstractList", "modCount", "I", false)
  | 1 => ("java/util/ArrayList", "elementData", "[Ljava/lang/Object;", false)
  | _ => ("java/util/ArrayList", "size", "I", false)
def tyJx4a65c : Nat → FieldType := fun k => match k with
  | 0 => .int
  | 1 => .array (.object "java/lang/Object")
  | _ => .int
abbrev wsJx4a65c0 : List Cond := u_ws RJx4a65c TJx4a65c 3
theorem nmJx4a65c : ∀ a, a < 3 → ∀ b, b < 3 → a ≠ b → (TJx4a65c a).2.1 ≠ (TJx4a65c b).2.1 := by decide +kernel
theorem tyJx4a65c_ok : ∀ k, k < 3 → parseFieldDescriptor (TJx4a65c k).2.2.1 = some (tyJx4a65c k) := by decide +kernel
abbrev cJx4a65c_init_da8c8 : ByteArray := prog_25_method_2_code
def yJx4a65c_init_da8c8 : MethodName := ⟨RJx4a65c, "<init>", "()V"⟩
abbrev cJx4a65c_grow_92f84 : ByteArray := prog_25_method_6_code
def yJx4a65c_grow_92f84 : MethodName := ⟨RJx4a65c, "grow", "(I)[Ljava/lang/Object;"⟩
abbrev cJx4a65c_grow_d5877 : ByteArray := prog_25_method_7_code
def yJx4a65c_grow_d5877 : MethodName := ⟨RJx4a65c, "grow", "()[Ljava/lang/Object;"⟩
abbrev cJx4a65c_size_8abf5 : ByteArray := prog_25_method_8_code
def yJx4a65c_size_8abf5 : MethodName := ⟨RJx4a65c, "size", "()I"⟩
abbrev cJx4a65c_elementData_915e3 : ByteArray := prog_25_method_18_code
def yJx4a65c_elementData_915e3 : MethodName := ⟨RJx4a65c, "elementData", "(I)Ljava/lang/Object;"⟩
abbrev cJx4a65c_get_915e3 : ByteArray := prog_25_method_20_code
def yJx4a65c_get_915e3 : MethodName := ⟨RJx4a65c, "get", "(I)Ljava/lang/Object;"⟩
abbrev cJx4a65c_add_72be8 : ByteArray := prog_25_method_24_code
def yJx4a65c_add_72be8 : MethodName := ⟨RJx4a65c, "add", "(Ljava/lang/Object;[Ljava/lang/Object;I)V"⟩
abbrev cJx4a65c_add_9ea2d : ByteArray := prog_25_method_25_code
def yJx4a65c_add_9ea2d : MethodName := ⟨RJx4a65c, "add", "(Ljava/lang/Object;)Z"⟩
def RJ7 : String := "java/util/Arrays"
def TJ7 : u_T := fun k => match k with
  | _ => ("", "", "", false)
def tyJ7 : Nat → FieldType := fun k => match k with
  | _ => .int
abbrev wsJ70 : List Cond := u_ws RJ7 TJ7 0
theorem nmJ7 : ∀ a, a < 0 → ∀ b, b < 0 → a ≠ b → (TJ7 a).2.1 ≠ (TJ7 b).2.1 := by decide +kernel
theorem tyJ7_ok : ∀ k, k < 0 → parseFieldDescriptor (TJ7 k).2.2.1 = some (tyJ7 k) := by decide +kernel
abbrev cJ7_copyOf_1904c : ByteArray := prog_26_method_119_code
def yJ7_copyOf_1904c : MethodName := ⟨RJ7, "copyOf", "([Ljava/lang/Object;I)[Ljava/lang/Object;"⟩
abbrev cJ7_copyOf_6403c : ByteArray := prog_26_method_120_code
def yJ7_copyOf_6403c : MethodName := ⟨RJ7, "copyOf", "([Ljava/lang/Object;ILjava/lang/Class;)[Ljava/lang/Object;"⟩
def RJx5ef63 : String := "java/util/Collection"
def TJx5ef63 : u_T := fun k => match k with
  | _ => ("", "", "", false)
def tyJx5ef63 : Nat → FieldType := fun k => match k with
  | _ => .int
abbrev wsJx5ef630 : List Cond := u_ws RJx5ef63 TJx5ef63 0
theorem nmJx5ef63 : ∀ a, a < 0 → ∀ b, b < 0 → a ≠ b → (TJx5ef63 a).2.1 ≠ (TJx5ef63 b).2.1 := by decide +kernel
theorem tyJx5ef63_ok : ∀ k, k < 0 → parseFieldDescriptor (TJx5ef63 k).2.2.1 = some (tyJx5ef63 k) := by decide +kernel
def RJxbd725 : String := "java/util/List"
def TJxbd725 : u_T := fun k => match k with
  | _ => ("", "", "", false)
def tyJxbd725 : Nat → FieldType := fun k => match k with
  | _ => .int
abbrev wsJxbd7250 : List Cond := u_ws RJxbd725 TJxbd725 0
theorem nmJxbd725 : ∀ a, a < 0 → ∀ b, b < 0 → a ≠ b → (TJxbd725 a).2.1 ≠ (TJxbd725 b).2.1 := by decide +kernel
theorem tyJxbd725_ok : ∀ k, k < 0 → parseFieldDescriptor (TJxbd725 k).2.2.1 = some (tyJxbd725 k) := by decide +kernel
def RJ15 : String := "java/util/Objects"
def TJ15 : u_T := fun k => match k with
  | _ => ("", "", "", false)
def tyJ15 : Nat → FieldType := fun k => match k with
  | _ => .int
abbrev wsJ150 : List Cond := u_ws RJ15 TJ15 0
theorem nmJ15 : ∀ a, a < 0 → ∀ b, b < 0 → a ≠ b → (TJ15 a).2.1 ≠ (TJ15 b).2.1 := by decide +kernel
theorem tyJ15_ok : ∀ k, k < 0 → parseFieldDescriptor (TJ15 k).2.2.1 = some (tyJ15 k) := by decide +kernel
abbrev cJ15_checkIndex_7cf53 : ByteArray := prog_29_method_17_code
def yJ15_checkIndex_7cf53 : MethodName := ⟨RJ15, "checkIndex", "(II)I"⟩
def RJxf0a74 : String := "java/util/RandomAccess"
def TJxf0a74 : u_T := fun k => match k with
  | _ => ("", "", "", false)
def tyJxf0a74 : Nat → FieldType := fun k => match k with
  | _ => .int
abbrev wsJxf0a740 : List Cond := u_ws RJxf0a74 TJxf0a74 0
theorem nmJxf0a74 : ∀ a, a < 0 → ∀ b, b < 0 → a ≠ b → (TJxf0a74 a).2.1 ≠ (TJxf0a74 b).2.1 := by decide +kernel
theorem tyJxf0a74_ok : ∀ k, k < 0 → parseFieldDescriptor (TJxf0a74 k).2.2.1 = some (tyJxf0a74 k) := by decide +kernel
def RJxa66e6 : String := "java/util/SequencedCollection"
def TJxa66e6 : u_T := fun k => match k with
  | _ => ("", "", "", false)
def tyJxa66e6 : Nat → FieldType := fun k => match k with
  | _ => .int
abbrev wsJxa66e60 : List Cond := u_ws RJxa66e6 TJxa66e6 0
theorem nmJxa66e6 : ∀ a, a < 0 → ∀ b, b < 0 → a ≠ b → (TJxa66e6 a).2.1 ≠ (TJxa66e6 b).2.1 := by decide +kernel
theorem tyJxa66e6_ok : ∀ k, k < 0 → parseFieldDescriptor (TJxa66e6 k).2.2.1 = some (tyJxa66e6 k) := by decide +kernel
def RJ8 : String := "jdk/internal/util/ArraysSupport"
def TJ8 : u_T := fun k => match k with
  | _ => ("", "", "", false)
def tyJ8 : Nat → FieldType := fun k => match k with
  | _ => .int
abbrev wsJ80 : List Cond := u_ws RJ8 TJ8 0
theorem nmJ8 : ∀ a, a < 0 → ∀ b, b < 0 → a ≠ b → (TJ8 a).2.1 ≠ (TJ8 b).2.1 := by decide +kernel
theorem tyJ8_ok : ∀ k, k < 0 → parseFieldDescriptor (TJ8 k).2.2.1 = some (tyJ8 k) := by decide +kernel
abbrev cJ8_newLength_cabcc : ByteArray := prog_32_method_27_code
def yJ8_newLength_cabcc : MethodName := ⟨RJ8, "newLength", "(III)I"⟩
abbrev cJ8_hugeLength_7cf53 : ByteArray := prog_32_method_28_code
def yJ8_hugeLength_7cf53 : MethodName := ⟨RJ8, "hugeLength", "(II)I"⟩
def RJ3 : String := "jdk/internal/util/Preconditions"
def TJ3 : u_T := fun k => match k with
  | _ => ("", "", "", false)
def tyJ3 : Nat → FieldType := fun k => match k with
  | _ => .int
abbrev wsJ30 : List Cond := u_ws RJ3 TJ3 0
theorem nmJ3 : ∀ a, a < 0 → ∀ b, b < 0 → a ≠ b → (TJ3 a).2.1 ≠ (TJ3 b).2.1 := by decide +kernel
theorem tyJ3_ok : ∀ k, k < 0 → parseFieldDescriptor (TJ3 k).2.2.1 = some (tyJ3 k) := by decide +kernel
abbrev cJ3_checkIndex_8e157 : ByteArray := prog_33_method_11_code
def yJ3_checkIndex_8e157 : MethodName := ⟨RJ3, "checkIndex", "(IILjava/util/function/BiFunction;)I"⟩
def RL : String := "BraidBookLaw"
abbrev cL_entry : ByteArray := method_3_code
def yL_entry : MethodName := ⟨RL, "entry", "(LBraidBook;I[J)I"⟩
abbrev cL_tell : ByteArray := method_4_code
def yL_tell : MethodName := ⟨RL, "tell", "(LBraidBook;IIII[J)I"⟩
abbrev cL_delete : ByteArray := method_5_code
def yL_delete : MethodName := ⟨RL, "delete", "(LBraidBook;II[J)I"⟩
abbrev cL_share : ByteArray := method_6_code
def yL_share : MethodName := ⟨RL, "share", "(LBraidBook;IIII[J)I"⟩
abbrev cL_merge : ByteArray := method_7_code
def yL_merge : MethodName := ⟨RL, "merge", "(LBraidBook;II[J)I"⟩
abbrev cL_pass : ByteArray := method_8_code
def yL_pass : MethodName := ⟨RL, "pass", "(LBraidBook;I[J)I"⟩
abbrev cL_state : ByteArray := method_9_code
def yL_state : MethodName := ⟨RL, "state", "(LBraidBook;II[J)I"⟩
abbrev cL_value : ByteArray := method_10_code
def yL_value : MethodName := ⟨RL, "value", "(LBraidBook;IIII[J)I"⟩
abbrev cL_valueAnew : ByteArray := method_11_code
def yL_valueAnew : MethodName := ⟨RL, "valueAnew", "(LBraidBook;IIII[J)I"⟩
abbrev cL_values : ByteArray := method_12_code
def yL_values : MethodName := ⟨RL, "values", "(LBraidBook;III[J)I"⟩
abbrev cL_seen : ByteArray := method_13_code
def yL_seen : MethodName := ⟨RL, "seen", "(LBraidBook;IIII[J)I"⟩
abbrev cL_marks : ByteArray := method_14_code
def yL_marks : MethodName := ⟨RL, "marks", "(LBraidBook;II[J)I"⟩
abbrev cL_clashes : ByteArray := method_15_code
def yL_clashes : MethodName := ⟨RL, "clashes", "(LBraidBook;I[J)I"⟩
abbrev cL_agreement : ByteArray := method_16_code
def yL_agreement : MethodName := ⟨RL, "agreement", "(LBraidBook;II[D)I"⟩
abbrev cL_law : ByteArray := code
def yL_law : MethodName := ⟨RL, "law", "([I)Z"⟩
abbrev vwCl : List vw_C := [(RJx4a65c, TJx4a65c, 3), (RX0, TX0, 4), (RX1, TX1, 6), (RX2, TX2, 5), (RX3, TX3, 6), (RX4, TX4, 2), (RX5, TX5, 1), (RX6, TX6, 3), (RX7, TX7, 17)]
end
section
theorem dX0_init_0 : decode cX0_init 0 = .ok (.aload_n 0, 1) := by decide +kernel
theorem dX0_init_1 : decode cX0_init 1 = .ok (.invokespecial 3, 3) := by decide +kernel
theorem dX0_init_4 : decode cX0_init 4 = .ok (.aload_n 0, 1) := by decide +kernel
theorem dX0_init_5 : decode cX0_init 5 = .ok (.bipush 6, 2) := by decide +kernel
theorem dX0_init_7 : decode cX0_init 7 = .ok (.newarray .int, 2) := by decide +kernel
theorem dX0_init_9 : decode cX0_init 9 = .ok (.putfield 9, 3) := by decide +kernel
theorem dX0_init_12 : decode cX0_init 12 = .ok (.aload_n 0, 1) := by decide +kernel
theorem dX0_init_13 : decode cX0_init 13 = .ok (.bipush 10, 2) := by decide +kernel
theorem dX0_init_15 : decode cX0_init 15 = .ok (.anewarray 15, 3) := by decide +kernel
theorem dX0_init_18 : decode cX0_init 18 = .ok (.putfield 17, 3) := by decide +kernel
theorem dX0_init_21 : decode cX0_init 21 = .ok (.iconst 0, 1) := by decide +kernel
theorem dX0_init_22 : decode cX0_init 22 = .ok (.istore_n 1, 1) := by decide +kernel
theorem dX0_init_23 : decode cX0_init 23 = .ok (.iload_n 1, 1) := by decide +kernel
theorem dX0_init_24 : decode cX0_init 24 = .ok (.bipush 10, 2) := by decide +kernel
theorem dX0_init_26 : decode cX0_init 26 = .ok (.if_icmp .ge 22, 3) := by decide +kernel
theorem dX0_init_29 : decode cX0_init 29 = .ok (.aload_n 0, 1) := by decide +kernel
theorem dX0_init_30 : decode cX0_init 30 = .ok (.getfield 17, 3) := by decide +kernel
theorem dX0_init_33 : decode cX0_init 33 = .ok (.iload_n 1, 1) := by decide +kernel
theorem dX0_init_34 : decode cX0_init 34 = .ok (.new 15, 3) := by decide +kernel
theorem dX0_init_37 : decode cX0_init 37 = .ok (.dup, 1) := by decide +kernel
theorem dX0_init_38 : decode cX0_init 38 = .ok (.invokespecial 21, 3) := by decide +kernel
theorem dX0_init_41 : decode cX0_init 41 = .ok (.aastore, 1) := by decide +kernel
theorem dX0_init_42 : decode cX0_init 42 = .ok (.iinc 1 1, 3) := by decide +kernel
theorem dX0_init_45 : decode cX0_init 45 = .ok (.goto (-22), 3) := by decide +kernel
theorem dX0_init_48 : decode cX0_init 48 = .ok (.return_, 1) := by decide +kernel
theorem dX0_clear_0 : decode cX0_clear 0 = .ok (.aload_n 0, 1) := by decide +kernel
theorem dX0_clear_1 : decode cX0_clear 1 = .ok (.iconst 0, 1) := by decide +kernel
theorem dX0_clear_2 : decode cX0_clear 2 = .ok (.putfield 22, 3) := by decide +kernel
theorem dX0_clear_5 : decode cX0_clear 5 = .ok (.aload_n 0, 1) := by decide +kernel
theorem dX0_clear_6 : decode cX0_clear 6 = .ok (.iconst 0, 1) := by decide +kernel
theorem dX0_clear_7 : decode cX0_clear 7 = .ok (.putfield 26, 3) := by decide +kernel
theorem dX0_clear_10 : decode cX0_clear 10 = .ok (.iconst 0, 1) := by decide +kernel
theorem dX0_clear_11 : decode cX0_clear 11 = .ok (.istore_n 1, 1) := by decide +kernel
theorem dX0_clear_12 : decode cX0_clear 12 = .ok (.iload_n 1, 1) := by decide +kernel
theorem dX0_clear_13 : decode cX0_clear 13 = .ok (.bipush 6, 2) := by decide +kernel
theorem dX0_clear_15 : decode cX0_clear 15 = .ok (.if_icmp .ge 16, 3) := by decide +kernel
theorem dX0_clear_18 : decode cX0_clear 18 = .ok (.aload_n 0, 1) := by decide +kernel
theorem dX0_clear_19 : decode cX0_clear 19 = .ok (.getfield 9, 3) := by decide +kernel
theorem dX0_clear_22 : decode cX0_clear 22 = .ok (.iload_n 1, 1) := by decide +kernel
theorem dX0_clear_23 : decode cX0_clear 23 = .ok (.iconst 0, 1) := by decide +kernel
theorem dX0_clear_24 : decode cX0_clear 24 = .ok (.iastore, 1) := by decide +kernel
theorem dX0_clear_25 : decode cX0_clear 25 = .ok (.iinc 1 1, 3) := by decide +kernel
theorem dX0_clear_28 : decode cX0_clear 28 = .ok (.goto (-16), 3) := by decide +kernel
theorem dX0_clear_31 : decode cX0_clear 31 = .ok (.iconst 0, 1) := by decide +kernel
theorem dX0_clear_32 : decode cX0_clear 32 = .ok (.istore_n 1, 1) := by decide +kernel
theorem dX0_clear_33 : decode cX0_clear 33 = .ok (.iload_n 1, 1) := by decide +kernel
theorem dX0_clear_34 : decode cX0_clear 34 = .ok (.bipush 10, 2) := by decide +kernel
theorem dX0_clear_36 : decode cX0_clear 36 = .ok (.if_icmp .ge 18, 3) := by decide +kernel
theorem dX0_clear_39 : decode cX0_clear 39 = .ok (.aload_n 0, 1) := by decide +kernel
theorem dX0_clear_40 : decode cX0_clear 40 = .ok (.getfield 17, 3) := by decide +kernel
theorem dX0_clear_43 : decode cX0_clear 43 = .ok (.iload_n 1, 1) := by decide +kernel
theorem dX0_clear_44 : decode cX0_clear 44 = .ok (.aaload, 1) := by decide +kernel
theorem dX0_clear_45 : decode cX0_clear 45 = .ok (.invokevirtual 29, 3) := by decide +kernel
theorem dX0_clear_48 : decode cX0_clear 48 = .ok (.iinc 1 1, 3) := by decide +kernel
theorem dX0_clear_51 : decode cX0_clear 51 = .ok (.goto (-18), 3) := by decide +kernel
theorem dX0_clear_54 : decode cX0_clear 54 = .ok (.return_, 1) := by decide +kernel
theorem dX0_find_0 : decode cX0_find 0 = .ok (.iload_n 1, 1) := by decide +kernel
theorem dX0_find_1 : decode cX0_find 1 = .ok (.ifCond .lt 17, 3) := by decide +kernel
theorem dX0_find_4 : decode cX0_find 4 = .ok (.iload_n 1, 1) := by decide +kernel
theorem dX0_find_5 : decode cX0_find 5 = .ok (.aload_n 0, 1) := by decide +kernel
theorem dX0_find_6 : decode cX0_find 6 = .ok (.getfield 26, 3) := by decide +kernel
theorem dX0_find_9 : decode cX0_find 9 = .ok (.if_icmp .ge 9, 3) := by decide +kernel
theorem dX0_find_12 : decode cX0_find 12 = .ok (.iload_n 1, 1) := by decide +kernel
theorem dX0_find_13 : decode cX0_find 13 = .ok (.bipush 10, 2) := by decide +kernel
theorem dX0_find_15 : decode cX0_find 15 = .ok (.if_icmp .lt 5, 3) := by decide +kernel
theorem dX0_find_18 : decode cX0_find 18 = .ok (.aconst_null, 1) := by decide +kernel
theorem dX0_find_19 : decode cX0_find 19 = .ok (.areturn, 1) := by decide +kernel
theorem dX0_find_20 : decode cX0_find 20 = .ok (.aload_n 0, 1) := by decide +kernel
theorem dX0_find_21 : decode cX0_find 21 = .ok (.getfield 17, 3) := by decide +kernel
theorem dX0_find_24 : decode cX0_find 24 = .ok (.iload_n 1, 1) := by decide +kernel
theorem dX0_find_25 : decode cX0_find 25 = .ok (.aaload, 1) := by decide +kernel
theorem dX0_find_26 : decode cX0_find 26 = .ok (.areturn, 1) := by decide +kernel
theorem dX0_nextAct_0 : decode cX0_nextAct 0 = .ok (.aload_n 0, 1) := by decide +kernel
theorem dX0_nextAct_1 : decode cX0_nextAct 1 = .ok (.getfield 9, 3) := by decide +kernel
theorem dX0_nextAct_4 : decode cX0_nextAct 4 = .ok (.iload_n 1, 1) := by decide +kernel
theorem dX0_nextAct_5 : decode cX0_nextAct 5 = .ok (.dup2, 1) := by decide +kernel
theorem dX0_nextAct_6 : decode cX0_nextAct 6 = .ok (.iaload, 1) := by decide +kernel
theorem dX0_nextAct_7 : decode cX0_nextAct 7 = .ok (.iconst 1, 1) := by decide +kernel
theorem dX0_nextAct_8 : decode cX0_nextAct 8 = .ok (.iadd, 1) := by decide +kernel
theorem dX0_nextAct_9 : decode cX0_nextAct 9 = .ok (.iastore, 1) := by decide +kernel
theorem dX0_nextAct_10 : decode cX0_nextAct 10 = .ok (.aload_n 0, 1) := by decide +kernel
theorem dX0_nextAct_11 : decode cX0_nextAct 11 = .ok (.getfield 9, 3) := by decide +kernel
theorem dX0_nextAct_14 : decode cX0_nextAct 14 = .ok (.iload_n 1, 1) := by decide +kernel
theorem dX0_nextAct_15 : decode cX0_nextAct 15 = .ok (.iaload, 1) := by decide +kernel
theorem dX0_nextAct_16 : decode cX0_nextAct 16 = .ok (.ireturn, 1) := by decide +kernel
theorem dX0_makeEntry_0 : decode cX0_makeEntry 0 = .ok (.aload_n 0, 1) := by decide +kernel
theorem dX0_makeEntry_1 : decode cX0_makeEntry 1 = .ok (.getfield 26, 3) := by decide +kernel
theorem dX0_makeEntry_4 : decode cX0_makeEntry 4 = .ok (.bipush 10, 2) := by decide +kernel
theorem dX0_makeEntry_6 : decode cX0_makeEntry 6 = .ok (.if_icmp .ge 10, 3) := by decide +kernel
theorem dX0_makeEntry_9 : decode cX0_makeEntry 9 = .ok (.iload_n 1, 1) := by decide +kernel
theorem dX0_makeEntry_10 : decode cX0_makeEntry 10 = .ok (.invokestatic 32, 3) := by decide +kernel
theorem dX0_makeEntry_13 : decode cX0_makeEntry 13 = .ok (.ifCond .ne 8, 3) := by decide +kernel
theorem dX0_makeEntry_16 : decode cX0_makeEntry 16 = .ok (.aload_n 0, 1) := by decide +kernel
theorem dX0_makeEntry_17 : decode cX0_makeEntry 17 = .ok (.getfield 26, 3) := by decide +kernel
theorem dX0_makeEntry_20 : decode cX0_makeEntry 20 = .ok (.ireturn, 1) := by decide +kernel
theorem dX0_makeEntry_21 : decode cX0_makeEntry 21 = .ok (.aload_n 0, 1) := by decide +kernel
theorem dX0_makeEntry_22 : decode cX0_makeEntry 22 = .ok (.getfield 26, 3) := by decide +kernel
theorem dX0_makeEntry_25 : decode cX0_makeEntry 25 = .ok (.istore_n 2, 1) := by decide +kernel
theorem dX0_makeEntry_26 : decode cX0_makeEntry 26 = .ok (.aload_n 0, 1) := by decide +kernel
theorem dX0_makeEntry_27 : decode cX0_makeEntry 27 = .ok (.dup, 1) := by decide +kernel
theorem dX0_makeEntry_28 : decode cX0_makeEntry 28 = .ok (.getfield 26, 3) := by decide +kernel
theorem dX0_makeEntry_31 : decode cX0_makeEntry 31 = .ok (.iconst 1, 1) := by decide +kernel
theorem dX0_makeEntry_32 : decode cX0_makeEntry 32 = .ok (.iadd, 1) := by decide +kernel
theorem dX0_makeEntry_33 : decode cX0_makeEntry 33 = .ok (.putfield 26, 3) := by decide +kernel
theorem dX0_makeEntry_36 : decode cX0_makeEntry 36 = .ok (.aload_n 0, 1) := by decide +kernel
theorem dX0_makeEntry_37 : decode cX0_makeEntry 37 = .ok (.getfield 17, 3) := by decide +kernel
theorem dX0_makeEntry_40 : decode cX0_makeEntry 40 = .ok (.iload_n 2, 1) := by decide +kernel
theorem dX0_makeEntry_41 : decode cX0_makeEntry 41 = .ok (.aaload, 1) := by decide +kernel
theorem dX0_makeEntry_42 : decode cX0_makeEntry 42 = .ok (.iload_n 1, 1) := by decide +kernel
theorem dX0_makeEntry_43 : decode cX0_makeEntry 43 = .ok (.invokestatic 36, 3) := by decide +kernel
theorem dX0_makeEntry_46 : decode cX0_makeEntry 46 = .ok (.putfield 40, 3) := by decide +kernel
theorem dX0_makeEntry_49 : decode cX0_makeEntry 49 = .ok (.aload_n 0, 1) := by decide +kernel
theorem dX0_makeEntry_50 : decode cX0_makeEntry 50 = .ok (.getfield 17, 3) := by decide +kernel
theorem dX0_makeEntry_53 : decode cX0_makeEntry 53 = .ok (.iload_n 2, 1) := by decide +kernel
theorem dX0_makeEntry_54 : decode cX0_makeEntry 54 = .ok (.aaload, 1) := by decide +kernel
theorem dX0_makeEntry_55 : decode cX0_makeEntry 55 = .ok (.getfield 43, 3) := by decide +kernel
theorem dX0_makeEntry_58 : decode cX0_makeEntry 58 = .ok (.iload_n 1, 1) := by decide +kernel
theorem dX0_makeEntry_59 : decode cX0_makeEntry 59 = .ok (.aaload, 1) := by decide +kernel
theorem dX0_makeEntry_60 : decode cX0_makeEntry 60 = .ok (.iconst 1, 1) := by decide +kernel
theorem dX0_makeEntry_61 : decode cX0_makeEntry 61 = .ok (.putfield 47, 3) := by decide +kernel
theorem dX0_makeEntry_64 : decode cX0_makeEntry 64 = .ok (.iload_n 2, 1) := by decide +kernel
theorem dX0_makeEntry_65 : decode cX0_makeEntry 65 = .ok (.ireturn, 1) := by decide +kernel
theorem dX0_tellValue_0 : decode cX0_tellValue 0 = .ok (.aload_n 0, 1) := by decide +kernel
theorem dX0_tellValue_1 : decode cX0_tellValue 1 = .ok (.iload_n 2, 1) := by decide +kernel
theorem dX0_tellValue_2 : decode cX0_tellValue 2 = .ok (.invokevirtual 53, 3) := by decide +kernel
theorem dX0_tellValue_5 : decode cX0_tellValue 5 = .ok (.astore 5, 2) := by decide +kernel
theorem dX0_tellValue_7 : decode cX0_tellValue 7 = .ok (.aload 5, 2) := by decide +kernel
theorem dX0_tellValue_9 : decode cX0_tellValue 9 = .ok (.ifnull 17, 3) := by decide +kernel
theorem dX0_tellValue_12 : decode cX0_tellValue 12 = .ok (.iload_n 1, 1) := by decide +kernel
theorem dX0_tellValue_13 : decode cX0_tellValue 13 = .ok (.invokestatic 32, 3) := by decide +kernel
theorem dX0_tellValue_16 : decode cX0_tellValue 16 = .ok (.ifCond .eq 10, 3) := by decide +kernel
theorem dX0_tellValue_19 : decode cX0_tellValue 19 = .ok (.iload_n 3, 1) := by decide +kernel
theorem dX0_tellValue_20 : decode cX0_tellValue 20 = .ok (.invokestatic 57, 3) := by decide +kernel
theorem dX0_tellValue_23 : decode cX0_tellValue 23 = .ok (.ifCond .ne 5, 3) := by decide +kernel
theorem dX0_tellValue_26 : decode cX0_tellValue 26 = .ok (.iconst 0, 1) := by decide +kernel
theorem dX0_tellValue_27 : decode cX0_tellValue 27 = .ok (.ireturn, 1) := by decide +kernel
theorem dX0_tellValue_28 : decode cX0_tellValue 28 = .ok (.aload 5, 2) := by decide +kernel
theorem dX0_tellValue_30 : decode cX0_tellValue 30 = .ok (.getfield 43, 3) := by decide +kernel
theorem dX0_tellValue_33 : decode cX0_tellValue 33 = .ok (.iload_n 1, 1) := by decide +kernel
theorem dX0_tellValue_34 : decode cX0_tellValue 34 = .ok (.aaload, 1) := by decide +kernel
theorem dX0_tellValue_35 : decode cX0_tellValue 35 = .ok (.astore 6, 2) := by decide +kernel
theorem dX0_tellValue_37 : decode cX0_tellValue 37 = .ok (.aload 6, 2) := by decide +kernel
theorem dX0_tellValue_39 : decode cX0_tellValue 39 = .ok (.iload_n 3, 1) := by decide +kernel
theorem dX0_tellValue_40 : decode cX0_tellValue 40 = .ok (.invokevirtual 60, 3) := by decide +kernel
theorem dX0_tellValue_43 : decode cX0_tellValue 43 = .ok (.istore 7, 2) := by decide +kernel
theorem dX0_tellValue_45 : decode cX0_tellValue 45 = .ok (.aload 6, 2) := by decide +kernel
theorem dX0_tellValue_47 : decode cX0_tellValue 47 = .ok (.iload_n 3, 1) := by decide +kernel
theorem dX0_tellValue_48 : decode cX0_tellValue 48 = .ok (.invokevirtual 63, 3) := by decide +kernel
theorem dX0_tellValue_51 : decode cX0_tellValue 51 = .ok (.aload_n 0, 1) := by decide +kernel
theorem dX0_tellValue_52 : decode cX0_tellValue 52 = .ok (.iload_n 1, 1) := by decide +kernel
theorem dX0_tellValue_53 : decode cX0_tellValue 53 = .ok (.invokevirtual 67, 3) := by decide +kernel
theorem dX0_tellValue_56 : decode cX0_tellValue 56 = .ok (.istore 8, 2) := by decide +kernel
theorem dX0_tellValue_58 : decode cX0_tellValue 58 = .ok (.iload_n 3, 1) := by decide +kernel
theorem dX0_tellValue_59 : decode cX0_tellValue 59 = .ok (.iload_n 1, 1) := by decide +kernel
theorem dX0_tellValue_60 : decode cX0_tellValue 60 = .ok (.invokestatic 70, 3) := by decide +kernel
theorem dX0_tellValue_63 : decode cX0_tellValue 63 = .ok (.istore 9, 2) := by decide +kernel
theorem dX0_tellValue_65 : decode cX0_tellValue 65 = .ok (.aload 6, 2) := by decide +kernel
theorem dX0_tellValue_67 : decode cX0_tellValue 67 = .ok (.getfield 74, 3) := by decide +kernel
theorem dX0_tellValue_70 : decode cX0_tellValue 70 = .ok (.getfield 78, 3) := by decide +kernel
theorem dX0_tellValue_73 : decode cX0_tellValue 73 = .ok (.iload 9, 2) := by decide +kernel
theorem dX0_tellValue_75 : decode cX0_tellValue 75 = .ok (.iload 8, 2) := by decide +kernel
theorem dX0_tellValue_77 : decode cX0_tellValue 77 = .ok (.iastore, 1) := by decide +kernel
theorem dX0_tellValue_78 : decode cX0_tellValue 78 = .ok (.iload 4, 2) := by decide +kernel
theorem dX0_tellValue_80 : decode cX0_tellValue 80 = .ok (.iconst (-1), 1) := by decide +kernel
theorem dX0_tellValue_81 : decode cX0_tellValue 81 = .ok (.if_icmp .eq 23, 3) := by decide +kernel
theorem dX0_tellValue_84 : decode cX0_tellValue 84 = .ok (.aload 6, 2) := by decide +kernel
theorem dX0_tellValue_86 : decode cX0_tellValue 86 = .ok (.getfield 83, 3) := by decide +kernel
theorem dX0_tellValue_89 : decode cX0_tellValue 89 = .ok (.iload 9, 2) := by decide +kernel
theorem dX0_tellValue_91 : decode cX0_tellValue 91 = .ok (.iload 8, 2) := by decide +kernel
theorem dX0_tellValue_93 : decode cX0_tellValue 93 = .ok (.iastore, 1) := by decide +kernel
theorem dX0_tellValue_94 : decode cX0_tellValue 94 = .ok (.aload 6, 2) := by decide +kernel
theorem dX0_tellValue_96 : decode cX0_tellValue 96 = .ok (.getfield 86, 3) := by decide +kernel
theorem dX0_tellValue_99 : decode cX0_tellValue 99 = .ok (.iload 9, 2) := by decide +kernel
theorem dX0_tellValue_101 : decode cX0_tellValue 101 = .ok (.iload 4, 2) := by decide +kernel
theorem dX0_tellValue_103 : decode cX0_tellValue 103 = .ok (.iastore, 1) := by decide +kernel
theorem dX0_tellValue_104 : decode cX0_tellValue 104 = .ok (.iload 7, 2) := by decide +kernel
theorem dX0_tellValue_106 : decode cX0_tellValue 106 = .ok (.ireturn, 1) := by decide +kernel
theorem dX0_setMark_0 : decode cX0_setMark 0 = .ok (.aload_n 0, 1) := by decide +kernel
theorem dX0_setMark_1 : decode cX0_setMark 1 = .ok (.iload_n 2, 1) := by decide +kernel
theorem dX0_setMark_2 : decode cX0_setMark 2 = .ok (.invokevirtual 53, 3) := by decide +kernel
theorem dX0_setMark_5 : decode cX0_setMark 5 = .ok (.astore_n 3, 1) := by decide +kernel
theorem dX0_setMark_6 : decode cX0_setMark 6 = .ok (.aload_n 3, 1) := by decide +kernel
theorem dX0_setMark_7 : decode cX0_setMark 7 = .ok (.ifnull 10, 3) := by decide +kernel
theorem dX0_setMark_10 : decode cX0_setMark 10 = .ok (.iload_n 1, 1) := by decide +kernel
theorem dX0_setMark_11 : decode cX0_setMark 11 = .ok (.invokestatic 32, 3) := by decide +kernel
theorem dX0_setMark_14 : decode cX0_setMark 14 = .ok (.ifCond .ne 5, 3) := by decide +kernel
theorem dX0_setMark_17 : decode cX0_setMark 17 = .ok (.iconst 0, 1) := by decide +kernel
theorem dX0_setMark_18 : decode cX0_setMark 18 = .ok (.ireturn, 1) := by decide +kernel
theorem dX0_setMark_19 : decode cX0_setMark 19 = .ok (.aload_n 0, 1) := by decide +kernel
theorem dX0_setMark_20 : decode cX0_setMark 20 = .ok (.iload_n 1, 1) := by decide +kernel
theorem dX0_setMark_21 : decode cX0_setMark 21 = .ok (.invokevirtual 67, 3) := by decide +kernel
theorem dX0_setMark_24 : decode cX0_setMark 24 = .ok (.pop, 1) := by decide +kernel
theorem dX0_setMark_25 : decode cX0_setMark 25 = .ok (.aload_n 3, 1) := by decide +kernel
theorem dX0_setMark_26 : decode cX0_setMark 26 = .ok (.iload_n 1, 1) := by decide +kernel
theorem dX0_setMark_27 : decode cX0_setMark 27 = .ok (.aload_n 0, 1) := by decide +kernel
theorem dX0_setMark_28 : decode cX0_setMark 28 = .ok (.getfield 22, 3) := by decide +kernel
theorem dX0_setMark_31 : decode cX0_setMark 31 = .ok (.invokevirtual 89, 3) := by decide +kernel
theorem dX0_setMark_34 : decode cX0_setMark 34 = .ok (.aload_n 3, 1) := by decide +kernel
theorem dX0_setMark_35 : decode cX0_setMark 35 = .ok (.getfield 43, 3) := by decide +kernel
theorem dX0_setMark_38 : decode cX0_setMark 38 = .ok (.iload_n 1, 1) := by decide +kernel
theorem dX0_setMark_39 : decode cX0_setMark 39 = .ok (.aaload, 1) := by decide +kernel
theorem dX0_setMark_40 : decode cX0_setMark 40 = .ok (.invokevirtual 93, 3) := by decide +kernel
theorem dX0_setMark_43 : decode cX0_setMark 43 = .ok (.ireturn, 1) := by decide +kernel
theorem dX0_shareFields_0 : decode cX0_shareFields 0 = .ok (.aload_n 0, 1) := by decide +kernel
theorem dX0_shareFields_1 : decode cX0_shareFields 1 = .ok (.iload_n 1, 1) := by decide +kernel
theorem dX0_shareFields_2 : decode cX0_shareFields 2 = .ok (.invokevirtual 53, 3) := by decide +kernel
theorem dX0_shareFields_5 : decode cX0_shareFields 5 = .ok (.astore 4, 2) := by decide +kernel
theorem dX0_shareFields_7 : decode cX0_shareFields 7 = .ok (.aload 4, 2) := by decide +kernel
theorem dX0_shareFields_9 : decode cX0_shareFields 9 = .ok (.ifnull 10, 3) := by decide +kernel
theorem dX0_shareFields_12 : decode cX0_shareFields 12 = .ok (.iload_n 2, 1) := by decide +kernel
theorem dX0_shareFields_13 : decode cX0_shareFields 13 = .ok (.invokestatic 97, 3) := by decide +kernel
theorem dX0_shareFields_16 : decode cX0_shareFields 16 = .ok (.ifCond .ne 5, 3) := by decide +kernel
theorem dX0_shareFields_19 : decode cX0_shareFields 19 = .ok (.iconst 0, 1) := by decide +kernel
theorem dX0_shareFields_20 : decode cX0_shareFields 20 = .ok (.ireturn, 1) := by decide +kernel
theorem dX0_shareFields_21 : decode cX0_shareFields 21 = .ok (.aload 4, 2) := by decide +kernel
theorem dX0_shareFields_23 : decode cX0_shareFields 23 = .ok (.getfield 100, 3) := by decide +kernel
theorem dX0_shareFields_26 : decode cX0_shareFields 26 = .ok (.iload_n 2, 1) := by decide +kernel
theorem dX0_shareFields_27 : decode cX0_shareFields 27 = .ok (.iaload, 1) := by decide +kernel
theorem dX0_shareFields_28 : decode cX0_shareFields 28 = .ok (.istore 5, 2) := by decide +kernel
theorem dX0_shareFields_30 : decode cX0_shareFields 30 = .ok (.aload 4, 2) := by decide +kernel
theorem dX0_shareFields_32 : decode cX0_shareFields 32 = .ok (.getfield 100, 3) := by decide +kernel
theorem dX0_shareFields_35 : decode cX0_shareFields 35 = .ok (.iload_n 2, 1) := by decide +kernel
theorem dX0_shareFields_36 : decode cX0_shareFields 36 = .ok (.iload_n 3, 1) := by decide +kernel
theorem dX0_shareFields_37 : decode cX0_shareFields 37 = .ok (.iastore, 1) := by decide +kernel
theorem dX0_shareFields_38 : decode cX0_shareFields 38 = .ok (.iconst 0, 1) := by decide +kernel
theorem dX0_shareFields_39 : decode cX0_shareFields 39 = .ok (.istore 6, 2) := by decide +kernel
theorem dX0_shareFields_41 : decode cX0_shareFields 41 = .ok (.iload 6, 2) := by decide +kernel
theorem dX0_shareFields_43 : decode cX0_shareFields 43 = .ok (.bipush 6, 2) := by decide +kernel
theorem dX0_shareFields_45 : decode cX0_shareFields 45 = .ok (.if_icmp .ge 30, 3) := by decide +kernel
theorem dX0_shareFields_48 : decode cX0_shareFields 48 = .ok (.iload 6, 2) := by decide +kernel
theorem dX0_shareFields_50 : decode cX0_shareFields 50 = .ok (.invokestatic 36, 3) := by decide +kernel
theorem dX0_shareFields_53 : decode cX0_shareFields 53 = .ok (.iload_n 2, 1) := by decide +kernel
theorem dX0_shareFields_54 : decode cX0_shareFields 54 = .ok (.if_icmp .ne 15, 3) := by decide +kernel
theorem dX0_shareFields_57 : decode cX0_shareFields 57 = .ok (.aload 4, 2) := by decide +kernel
theorem dX0_shareFields_59 : decode cX0_shareFields 59 = .ok (.getfield 43, 3) := by decide +kernel
theorem dX0_shareFields_62 : decode cX0_shareFields 62 = .ok (.iload 6, 2) := by decide +kernel
theorem dX0_shareFields_64 : decode cX0_shareFields 64 = .ok (.aaload, 1) := by decide +kernel
theorem dX0_shareFields_65 : decode cX0_shareFields 65 = .ok (.iload_n 3, 1) := by decide +kernel
theorem dX0_shareFields_66 : decode cX0_shareFields 66 = .ok (.invokevirtual 103, 3) := by decide +kernel
theorem dX0_shareFields_69 : decode cX0_shareFields 69 = .ok (.iinc 6 1, 3) := by decide +kernel
theorem dX0_shareFields_72 : decode cX0_shareFields 72 = .ok (.goto (-31), 3) := by decide +kernel
theorem dX0_shareFields_75 : decode cX0_shareFields 75 = .ok (.iload 5, 2) := by decide +kernel
theorem dX0_shareFields_77 : decode cX0_shareFields 77 = .ok (.ireturn, 1) := by decide +kernel
theorem dX0_mergeDevices_0 : decode cX0_mergeDevices 0 = .ok (.iconst 0, 1) := by decide +kernel
theorem dX0_mergeDevices_1 : decode cX0_mergeDevices 1 = .ok (.istore_n 3, 1) := by decide +kernel
theorem dX0_mergeDevices_2 : decode cX0_mergeDevices 2 = .ok (.iload_n 1, 1) := by decide +kernel
theorem dX0_mergeDevices_3 : decode cX0_mergeDevices 3 = .ok (.invokestatic 32, 3) := by decide +kernel
theorem dX0_mergeDevices_6 : decode cX0_mergeDevices 6 = .ok (.ifCond .eq 10, 3) := by decide +kernel
theorem dX0_mergeDevices_9 : decode cX0_mergeDevices 9 = .ok (.iload_n 2, 1) := by decide +kernel
theorem dX0_mergeDevices_10 : decode cX0_mergeDevices 10 = .ok (.invokestatic 32, 3) := by decide +kernel
theorem dX0_mergeDevices_13 : decode cX0_mergeDevices 13 = .ok (.ifCond .ne 5, 3) := by decide +kernel
theorem dX0_mergeDevices_16 : decode cX0_mergeDevices 16 = .ok (.iload_n 3, 1) := by decide +kernel
theorem dX0_mergeDevices_17 : decode cX0_mergeDevices 17 = .ok (.ireturn, 1) := by decide +kernel
theorem dX0_mergeDevices_18 : decode cX0_mergeDevices 18 = .ok (.iconst 0, 1) := by decide +kernel
theorem dX0_mergeDevices_19 : decode cX0_mergeDevices 19 = .ok (.istore 4, 2) := by decide +kernel
theorem dX0_mergeDevices_21 : decode cX0_mergeDevices 21 = .ok (.iload 4, 2) := by decide +kernel
theorem dX0_mergeDevices_23 : decode cX0_mergeDevices 23 = .ok (.bipush 10, 2) := by decide +kernel
theorem dX0_mergeDevices_25 : decode cX0_mergeDevices 25 = .ok (.if_icmp .ge 37, 3) := by decide +kernel
theorem dX0_mergeDevices_28 : decode cX0_mergeDevices 28 = .ok (.iload 4, 2) := by decide +kernel
theorem dX0_mergeDevices_30 : decode cX0_mergeDevices 30 = .ok (.aload_n 0, 1) := by decide +kernel
theorem dX0_mergeDevices_31 : decode cX0_mergeDevices 31 = .ok (.getfield 26, 3) := by decide +kernel
theorem dX0_mergeDevices_34 : decode cX0_mergeDevices 34 = .ok (.if_icmp .ge 28, 3) := by decide +kernel
theorem dX0_mergeDevices_37 : decode cX0_mergeDevices 37 = .ok (.iload_n 3, 1) := by decide +kernel
theorem dX0_mergeDevices_38 : decode cX0_mergeDevices 38 = .ok (.aload_n 0, 1) := by decide +kernel
theorem dX0_mergeDevices_39 : decode cX0_mergeDevices 39 = .ok (.getfield 17, 3) := by decide +kernel
theorem dX0_mergeDevices_42 : decode cX0_mergeDevices 42 = .ok (.iload 4, 2) := by decide +kernel
theorem dX0_mergeDevices_44 : decode cX0_mergeDevices 44 = .ok (.aaload, 1) := by decide +kernel
theorem dX0_mergeDevices_45 : decode cX0_mergeDevices 45 = .ok (.iload_n 1, 1) := by decide +kernel
theorem dX0_mergeDevices_46 : decode cX0_mergeDevices 46 = .ok (.iload_n 2, 1) := by decide +kernel
theorem dX0_mergeDevices_47 : decode cX0_mergeDevices 47 = .ok (.aload_n 0, 1) := by decide +kernel
theorem dX0_mergeDevices_48 : decode cX0_mergeDevices 48 = .ok (.getfield 22, 3) := by decide +kernel
theorem dX0_mergeDevices_51 : decode cX0_mergeDevices 51 = .ok (.invokevirtual 106, 3) := by decide +kernel
theorem dX0_mergeDevices_54 : decode cX0_mergeDevices 54 = .ok (.iadd, 1) := by decide +kernel
theorem dX0_mergeDevices_55 : decode cX0_mergeDevices 55 = .ok (.istore_n 3, 1) := by decide +kernel
theorem dX0_mergeDevices_56 : decode cX0_mergeDevices 56 = .ok (.iinc 4 1, 3) := by decide +kernel
theorem dX0_mergeDevices_59 : decode cX0_mergeDevices 59 = .ok (.goto (-38), 3) := by decide +kernel
theorem dX0_mergeDevices_62 : decode cX0_mergeDevices 62 = .ok (.iload_n 3, 1) := by decide +kernel
theorem dX0_mergeDevices_63 : decode cX0_mergeDevices 63 = .ok (.ireturn, 1) := by decide +kernel
theorem dX0_passMonths_0 : decode cX0_passMonths 0 = .ok (.aload_n 0, 1) := by decide +kernel
theorem dX0_passMonths_1 : decode cX0_passMonths 1 = .ok (.dup, 1) := by decide +kernel
theorem dX0_passMonths_2 : decode cX0_passMonths 2 = .ok (.getfield 22, 3) := by decide +kernel
theorem dX0_passMonths_5 : decode cX0_passMonths 5 = .ok (.iload_n 1, 1) := by decide +kernel
theorem dX0_passMonths_6 : decode cX0_passMonths 6 = .ok (.iadd, 1) := by decide +kernel
theorem dX0_passMonths_7 : decode cX0_passMonths 7 = .ok (.putfield 22, 3) := by decide +kernel
theorem dX0_passMonths_10 : decode cX0_passMonths 10 = .ok (.iconst 0, 1) := by decide +kernel
theorem dX0_passMonths_11 : decode cX0_passMonths 11 = .ok (.istore_n 2, 1) := by decide +kernel
theorem dX0_passMonths_12 : decode cX0_passMonths 12 = .ok (.iconst 0, 1) := by decide +kernel
theorem dX0_passMonths_13 : decode cX0_passMonths 13 = .ok (.istore_n 3, 1) := by decide +kernel
theorem dX0_passMonths_14 : decode cX0_passMonths 14 = .ok (.iload_n 3, 1) := by decide +kernel
theorem dX0_passMonths_15 : decode cX0_passMonths 15 = .ok (.bipush 10, 2) := by decide +kernel
theorem dX0_passMonths_17 : decode cX0_passMonths 17 = .ok (.if_icmp .ge 33, 3) := by decide +kernel
theorem dX0_passMonths_20 : decode cX0_passMonths 20 = .ok (.iload_n 3, 1) := by decide +kernel
theorem dX0_passMonths_21 : decode cX0_passMonths 21 = .ok (.aload_n 0, 1) := by decide +kernel
theorem dX0_passMonths_22 : decode cX0_passMonths 22 = .ok (.getfield 26, 3) := by decide +kernel
theorem dX0_passMonths_25 : decode cX0_passMonths 25 = .ok (.if_icmp .ge 25, 3) := by decide +kernel
theorem dX0_passMonths_28 : decode cX0_passMonths 28 = .ok (.iload_n 2, 1) := by decide +kernel
theorem dX0_passMonths_29 : decode cX0_passMonths 29 = .ok (.aload_n 0, 1) := by decide +kernel
theorem dX0_passMonths_30 : decode cX0_passMonths 30 = .ok (.getfield 17, 3) := by decide +kernel
theorem dX0_passMonths_33 : decode cX0_passMonths 33 = .ok (.iload_n 3, 1) := by decide +kernel
theorem dX0_passMonths_34 : decode cX0_passMonths 34 = .ok (.aaload, 1) := by decide +kernel
theorem dX0_passMonths_35 : decode cX0_passMonths 35 = .ok (.aload_n 0, 1) := by decide +kernel
theorem dX0_passMonths_36 : decode cX0_passMonths 36 = .ok (.getfield 22, 3) := by decide +kernel
theorem dX0_passMonths_39 : decode cX0_passMonths 39 = .ok (.invokevirtual 110, 3) := by decide +kernel
theorem dX0_passMonths_42 : decode cX0_passMonths 42 = .ok (.iadd, 1) := by decide +kernel
theorem dX0_passMonths_43 : decode cX0_passMonths 43 = .ok (.istore_n 2, 1) := by decide +kernel
theorem dX0_passMonths_44 : decode cX0_passMonths 44 = .ok (.iinc 3 1, 3) := by decide +kernel
theorem dX0_passMonths_47 : decode cX0_passMonths 47 = .ok (.goto (-33), 3) := by decide +kernel
theorem dX0_passMonths_50 : decode cX0_passMonths 50 = .ok (.iload_n 2, 1) := by decide +kernel
theorem dX0_passMonths_51 : decode cX0_passMonths 51 = .ok (.ireturn, 1) := by decide +kernel
theorem dX0_countClashes_0 : decode cX0_countClashes 0 = .ok (.iconst 0, 1) := by decide +kernel
theorem dX0_countClashes_1 : decode cX0_countClashes 1 = .ok (.istore_n 2, 1) := by decide +kernel
theorem dX0_countClashes_2 : decode cX0_countClashes 2 = .ok (.iconst 0, 1) := by decide +kernel
theorem dX0_countClashes_3 : decode cX0_countClashes 3 = .ok (.istore_n 3, 1) := by decide +kernel
theorem dX0_countClashes_4 : decode cX0_countClashes 4 = .ok (.iload_n 3, 1) := by decide +kernel
theorem dX0_countClashes_5 : decode cX0_countClashes 5 = .ok (.bipush 10, 2) := by decide +kernel
theorem dX0_countClashes_7 : decode cX0_countClashes 7 = .ok (.if_icmp .ge 48, 3) := by decide +kernel
theorem dX0_countClashes_10 : decode cX0_countClashes 10 = .ok (.iload_n 3, 1) := by decide +kernel
theorem dX0_countClashes_11 : decode cX0_countClashes 11 = .ok (.aload_n 0, 1) := by decide +kernel
theorem dX0_countClashes_12 : decode cX0_countClashes 12 = .ok (.getfield 26, 3) := by decide +kernel
theorem dX0_countClashes_15 : decode cX0_countClashes 15 = .ok (.if_icmp .ge 40, 3) := by decide +kernel
theorem dX0_countClashes_18 : decode cX0_countClashes 18 = .ok (.aload_n 0, 1) := by decide +kernel
theorem dX0_countClashes_19 : decode cX0_countClashes 19 = .ok (.getfield 17, 3) := by decide +kernel
theorem dX0_countClashes_22 : decode cX0_countClashes 22 = .ok (.iload_n 3, 1) := by decide +kernel
theorem dX0_countClashes_23 : decode cX0_countClashes 23 = .ok (.aaload, 1) := by decide +kernel
theorem dX0_countClashes_24 : decode cX0_countClashes 24 = .ok (.iload_n 1, 1) := by decide +kernel
theorem dX0_countClashes_25 : decode cX0_countClashes 25 = .ok (.invokevirtual 113, 3) := by decide +kernel
theorem dX0_countClashes_28 : decode cX0_countClashes 28 = .ok (.iconst 1, 1) := by decide +kernel
theorem dX0_countClashes_29 : decode cX0_countClashes 29 = .ok (.if_icmp .ne 20, 3) := by decide +kernel
theorem dX0_countClashes_32 : decode cX0_countClashes 32 = .ok (.iload_n 2, 1) := by decide +kernel
theorem dX0_countClashes_33 : decode cX0_countClashes 33 = .ok (.aload_n 0, 1) := by decide +kernel
theorem dX0_countClashes_34 : decode cX0_countClashes 34 = .ok (.getfield 17, 3) := by decide +kernel
theorem dX0_countClashes_37 : decode cX0_countClashes 37 = .ok (.iload_n 3, 1) := by decide +kernel
theorem dX0_countClashes_38 : decode cX0_countClashes 38 = .ok (.aaload, 1) := by decide +kernel
theorem dX0_countClashes_39 : decode cX0_countClashes 39 = .ok (.getfield 43, 3) := by decide +kernel
theorem dX0_countClashes_42 : decode cX0_countClashes 42 = .ok (.iload_n 1, 1) := by decide +kernel
theorem dX0_countClashes_43 : decode cX0_countClashes 43 = .ok (.aaload, 1) := by decide +kernel
theorem dX0_countClashes_44 : decode cX0_countClashes 44 = .ok (.invokevirtual 116, 3) := by decide +kernel
theorem dX0_countClashes_47 : decode cX0_countClashes 47 = .ok (.iadd, 1) := by decide +kernel
theorem dX0_countClashes_48 : decode cX0_countClashes 48 = .ok (.istore_n 2, 1) := by decide +kernel
theorem dX0_countClashes_49 : decode cX0_countClashes 49 = .ok (.iinc 3 1, 3) := by decide +kernel
theorem dX0_countClashes_52 : decode cX0_countClashes 52 = .ok (.goto (-48), 3) := by decide +kernel
theorem dX0_countClashes_55 : decode cX0_countClashes 55 = .ok (.iload_n 2, 1) := by decide +kernel
theorem dX0_countClashes_56 : decode cX0_countClashes 56 = .ok (.ireturn, 1) := by decide +kernel
theorem dX0_countCompared_0 : decode cX0_countCompared 0 = .ok (.iconst 0, 1) := by decide +kernel
theorem dX0_countCompared_1 : decode cX0_countCompared 1 = .ok (.istore_n 3, 1) := by decide +kernel
theorem dX0_countCompared_2 : decode cX0_countCompared 2 = .ok (.iconst 0, 1) := by decide +kernel
theorem dX0_countCompared_3 : decode cX0_countCompared 3 = .ok (.istore 4, 2) := by decide +kernel
theorem dX0_countCompared_5 : decode cX0_countCompared 5 = .ok (.iload 4, 2) := by decide +kernel
theorem dX0_countCompared_7 : decode cX0_countCompared 7 = .ok (.bipush 10, 2) := by decide +kernel
theorem dX0_countCompared_9 : decode cX0_countCompared 9 = .ok (.if_icmp .ge 36, 3) := by decide +kernel
theorem dX0_countCompared_12 : decode cX0_countCompared 12 = .ok (.iload 4, 2) := by decide +kernel
theorem dX0_countCompared_14 : decode cX0_countCompared 14 = .ok (.aload_n 0, 1) := by decide +kernel
theorem dX0_countCompared_15 : decode cX0_countCompared 15 = .ok (.getfield 26, 3) := by decide +kernel
theorem dX0_countCompared_18 : decode cX0_countCompared 18 = .ok (.if_icmp .ge 27, 3) := by decide +kernel
theorem dX0_countCompared_21 : decode cX0_countCompared 21 = .ok (.iload_n 3, 1) := by decide +kernel
theorem dX0_countCompared_22 : decode cX0_countCompared 22 = .ok (.aload_n 0, 1) := by decide +kernel
theorem dX0_countCompared_23 : decode cX0_countCompared 23 = .ok (.getfield 17, 3) := by decide +kernel
theorem dX0_countCompared_26 : decode cX0_countCompared 26 = .ok (.iload 4, 2) := by decide +kernel
theorem dX0_countCompared_28 : decode cX0_countCompared 28 = .ok (.aaload, 1) := by decide +kernel
theorem dX0_countCompared_29 : decode cX0_countCompared 29 = .ok (.iload_n 1, 1) := by decide +kernel
theorem dX0_countCompared_30 : decode cX0_countCompared 30 = .ok (.iload_n 2, 1) := by decide +kernel
theorem dX0_countCompared_31 : decode cX0_countCompared 31 = .ok (.invokevirtual 119, 3) := by decide +kernel
theorem dX0_countCompared_34 : decode cX0_countCompared 34 = .ok (.invokestatic 122, 3) := by decide +kernel
theorem dX0_countCompared_37 : decode cX0_countCompared 37 = .ok (.iadd, 1) := by decide +kernel
theorem dX0_countCompared_38 : decode cX0_countCompared 38 = .ok (.istore_n 3, 1) := by decide +kernel
theorem dX0_countCompared_39 : decode cX0_countCompared 39 = .ok (.iinc 4 1, 3) := by decide +kernel
theorem dX0_countCompared_42 : decode cX0_countCompared 42 = .ok (.goto (-37), 3) := by decide +kernel
theorem dX0_countCompared_45 : decode cX0_countCompared 45 = .ok (.iload_n 3, 1) := by decide +kernel
theorem dX0_countCompared_46 : decode cX0_countCompared 46 = .ok (.ireturn, 1) := by decide +kernel
theorem dX0_countSame_0 : decode cX0_countSame 0 = .ok (.iconst 0, 1) := by decide +kernel
theorem dX0_countSame_1 : decode cX0_countSame 1 = .ok (.istore_n 3, 1) := by decide +kernel
theorem dX0_countSame_2 : decode cX0_countSame 2 = .ok (.iconst 0, 1) := by decide +kernel
theorem dX0_countSame_3 : decode cX0_countSame 3 = .ok (.istore 4, 2) := by decide +kernel
theorem dX0_countSame_5 : decode cX0_countSame 5 = .ok (.iload 4, 2) := by decide +kernel
theorem dX0_countSame_7 : decode cX0_countSame 7 = .ok (.bipush 10, 2) := by decide +kernel
theorem dX0_countSame_9 : decode cX0_countSame 9 = .ok (.if_icmp .ge 33, 3) := by decide +kernel
theorem dX0_countSame_12 : decode cX0_countSame 12 = .ok (.iload 4, 2) := by decide +kernel
theorem dX0_countSame_14 : decode cX0_countSame 14 = .ok (.aload_n 0, 1) := by decide +kernel
theorem dX0_countSame_15 : decode cX0_countSame 15 = .ok (.getfield 26, 3) := by decide +kernel
theorem dX0_countSame_18 : decode cX0_countSame 18 = .ok (.if_icmp .ge 24, 3) := by decide +kernel
theorem dX0_countSame_21 : decode cX0_countSame 21 = .ok (.iload_n 3, 1) := by decide +kernel
theorem dX0_countSame_22 : decode cX0_countSame 22 = .ok (.aload_n 0, 1) := by decide +kernel
theorem dX0_countSame_23 : decode cX0_countSame 23 = .ok (.getfield 17, 3) := by decide +kernel
theorem dX0_countSame_26 : decode cX0_countSame 26 = .ok (.iload 4, 2) := by decide +kernel
theorem dX0_countSame_28 : decode cX0_countSame 28 = .ok (.aaload, 1) := by decide +kernel
theorem dX0_countSame_29 : decode cX0_countSame 29 = .ok (.iload_n 1, 1) := by decide +kernel
theorem dX0_countSame_30 : decode cX0_countSame 30 = .ok (.iload_n 2, 1) := by decide +kernel
theorem dX0_countSame_31 : decode cX0_countSame 31 = .ok (.invokevirtual 127, 3) := by decide +kernel
theorem dX0_countSame_34 : decode cX0_countSame 34 = .ok (.iadd, 1) := by decide +kernel
theorem dX0_countSame_35 : decode cX0_countSame 35 = .ok (.istore_n 3, 1) := by decide +kernel
theorem dX0_countSame_36 : decode cX0_countSame 36 = .ok (.iinc 4 1, 3) := by decide +kernel
theorem dX0_countSame_39 : decode cX0_countSame 39 = .ok (.goto (-34), 3) := by decide +kernel
theorem dX0_countSame_42 : decode cX0_countSame 42 = .ok (.iload_n 3, 1) := by decide +kernel
theorem dX0_countSame_43 : decode cX0_countSame 43 = .ok (.ireturn, 1) := by decide +kernel
theorem dX1_init_0 : decode cX1_init 0 = .ok (.aload_n 0, 1) := by decide +kernel
theorem dX1_init_1 : decode cX1_init 1 = .ok (.invokespecial 3, 3) := by decide +kernel
theorem dX1_init_4 : decode cX1_init 4 = .ok (.aload_n 0, 1) := by decide +kernel
theorem dX1_init_5 : decode cX1_init 5 = .ok (.bipush 24, 2) := by decide +kernel
theorem dX1_init_7 : decode cX1_init 7 = .ok (.newarray .int, 2) := by decide +kernel
theorem dX1_init_9 : decode cX1_init 9 = .ok (.putfield 9, 3) := by decide +kernel
theorem dX1_init_12 : decode cX1_init 12 = .ok (.aload_n 0, 1) := by decide +kernel
theorem dX1_init_13 : decode cX1_init 13 = .ok (.bipush 24, 2) := by decide +kernel
theorem dX1_init_15 : decode cX1_init 15 = .ok (.newarray .int, 2) := by decide +kernel
theorem dX1_init_17 : decode cX1_init 17 = .ok (.putfield 15, 3) := by decide +kernel
theorem dX1_init_20 : decode cX1_init 20 = .ok (.aload_n 0, 1) := by decide +kernel
theorem dX1_init_21 : decode cX1_init 21 = .ok (.new 18, 3) := by decide +kernel
theorem dX1_init_24 : decode cX1_init 24 = .ok (.dup, 1) := by decide +kernel
theorem dX1_init_25 : decode cX1_init 25 = .ok (.invokespecial 20, 3) := by decide +kernel
theorem dX1_init_28 : decode cX1_init 28 = .ok (.putfield 21, 3) := by decide +kernel
theorem dX1_init_31 : decode cX1_init 31 = .ok (.aload_n 0, 1) := by decide +kernel
theorem dX1_init_32 : decode cX1_init 32 = .ok (.new 18, 3) := by decide +kernel
theorem dX1_init_35 : decode cX1_init 35 = .ok (.dup, 1) := by decide +kernel
theorem dX1_init_36 : decode cX1_init 36 = .ok (.invokespecial 20, 3) := by decide +kernel
theorem dX1_init_39 : decode cX1_init 39 = .ok (.putfield 25, 3) := by decide +kernel
theorem dX1_init_42 : decode cX1_init 42 = .ok (.return_, 1) := by decide +kernel
theorem dX1_clear_0 : decode cX1_clear 0 = .ok (.aload_n 0, 1) := by decide +kernel
theorem dX1_clear_1 : decode cX1_clear 1 = .ok (.iconst 0, 1) := by decide +kernel
theorem dX1_clear_2 : decode cX1_clear 2 = .ok (.putfield 28, 3) := by decide +kernel
theorem dX1_clear_5 : decode cX1_clear 5 = .ok (.aload_n 0, 1) := by decide +kernel
theorem dX1_clear_6 : decode cX1_clear 6 = .ok (.iconst 0, 1) := by decide +kernel
theorem dX1_clear_7 : decode cX1_clear 7 = .ok (.putfield 32, 3) := by decide +kernel
theorem dX1_clear_10 : decode cX1_clear 10 = .ok (.aload_n 0, 1) := by decide +kernel
theorem dX1_clear_11 : decode cX1_clear 11 = .ok (.iconst 0, 1) := by decide +kernel
theorem dX1_clear_12 : decode cX1_clear 12 = .ok (.invokevirtual 35, 3) := by decide +kernel
theorem dX1_clear_15 : decode cX1_clear 15 = .ok (.aload_n 0, 1) := by decide +kernel
theorem dX1_clear_16 : decode cX1_clear 16 = .ok (.getfield 25, 3) := by decide +kernel
theorem dX1_clear_19 : decode cX1_clear 19 = .ok (.invokevirtual 39, 3) := by decide +kernel
theorem dX1_clear_22 : decode cX1_clear 22 = .ok (.return_, 1) := by decide +kernel
theorem dX1_countValues_0 : decode cX1_countValues 0 = .ok (.iconst 0, 1) := by decide +kernel
theorem dX1_countValues_1 : decode cX1_countValues 1 = .ok (.istore_n 2, 1) := by decide +kernel
theorem dX1_countValues_2 : decode cX1_countValues 2 = .ok (.iconst 0, 1) := by decide +kernel
theorem dX1_countValues_3 : decode cX1_countValues 3 = .ok (.istore_n 3, 1) := by decide +kernel
theorem dX1_countValues_4 : decode cX1_countValues 4 = .ok (.iload_n 3, 1) := by decide +kernel
theorem dX1_countValues_5 : decode cX1_countValues 5 = .ok (.bipush 6, 2) := by decide +kernel
theorem dX1_countValues_7 : decode cX1_countValues 7 = .ok (.if_icmp .ge 25, 3) := by decide +kernel
theorem dX1_countValues_10 : decode cX1_countValues 10 = .ok (.aload_n 0, 1) := by decide +kernel
theorem dX1_countValues_11 : decode cX1_countValues 11 = .ok (.getfield 9, 3) := by decide +kernel
theorem dX1_countValues_14 : decode cX1_countValues 14 = .ok (.iload_n 1, 1) := by decide +kernel
theorem dX1_countValues_15 : decode cX1_countValues 15 = .ok (.iload_n 3, 1) := by decide +kernel
theorem dX1_countValues_16 : decode cX1_countValues 16 = .ok (.invokestatic 42, 3) := by decide +kernel
theorem dX1_countValues_19 : decode cX1_countValues 19 = .ok (.iaload, 1) := by decide +kernel
theorem dX1_countValues_20 : decode cX1_countValues 20 = .ok (.ifCond .eq 6, 3) := by decide +kernel
theorem dX1_countValues_23 : decode cX1_countValues 23 = .ok (.iinc 2 1, 3) := by decide +kernel
theorem dX1_countValues_26 : decode cX1_countValues 26 = .ok (.iinc 3 1, 3) := by decide +kernel
theorem dX1_countValues_29 : decode cX1_countValues 29 = .ok (.goto (-25), 3) := by decide +kernel
theorem dX1_countValues_32 : decode cX1_countValues 32 = .ok (.iload_n 2, 1) := by decide +kernel
theorem dX1_countValues_33 : decode cX1_countValues 33 = .ok (.ireturn, 1) := by decide +kernel
theorem dX1_countAllValues_0 : decode cX1_countAllValues 0 = .ok (.iconst 0, 1) := by decide +kernel
theorem dX1_countAllValues_1 : decode cX1_countAllValues 1 = .ok (.istore_n 1, 1) := by decide +kernel
theorem dX1_countAllValues_2 : decode cX1_countAllValues 2 = .ok (.iconst 0, 1) := by decide +kernel
theorem dX1_countAllValues_3 : decode cX1_countAllValues 3 = .ok (.istore_n 2, 1) := by decide +kernel
theorem dX1_countAllValues_4 : decode cX1_countAllValues 4 = .ok (.iload_n 2, 1) := by decide +kernel
theorem dX1_countAllValues_5 : decode cX1_countAllValues 5 = .ok (.bipush 24, 2) := by decide +kernel
theorem dX1_countAllValues_7 : decode cX1_countAllValues 7 = .ok (.if_icmp .ge 21, 3) := by decide +kernel
theorem dX1_countAllValues_10 : decode cX1_countAllValues 10 = .ok (.aload_n 0, 1) := by decide +kernel
theorem dX1_countAllValues_11 : decode cX1_countAllValues 11 = .ok (.getfield 9, 3) := by decide +kernel
theorem dX1_countAllValues_14 : decode cX1_countAllValues 14 = .ok (.iload_n 2, 1) := by decide +kernel
theorem dX1_countAllValues_15 : decode cX1_countAllValues 15 = .ok (.iaload, 1) := by decide +kernel
theorem dX1_countAllValues_16 : decode cX1_countAllValues 16 = .ok (.ifCond .eq 6, 3) := by decide +kernel
theorem dX1_countAllValues_19 : decode cX1_countAllValues 19 = .ok (.iinc 1 1, 3) := by decide +kernel
theorem dX1_countAllValues_22 : decode cX1_countAllValues 22 = .ok (.iinc 2 1, 3) := by decide +kernel
theorem dX1_countAllValues_25 : decode cX1_countAllValues 25 = .ok (.goto (-21), 3) := by decide +kernel
theorem dX1_countAllValues_28 : decode cX1_countAllValues 28 = .ok (.iload_n 1, 1) := by decide +kernel
theorem dX1_countAllValues_29 : decode cX1_countAllValues 29 = .ok (.ireturn, 1) := by decide +kernel
theorem dX1_countClashes_0 : decode cX1_countClashes 0 = .ok (.iconst 0, 1) := by decide +kernel
theorem dX1_countClashes_1 : decode cX1_countClashes 1 = .ok (.istore_n 1, 1) := by decide +kernel
theorem dX1_countClashes_2 : decode cX1_countClashes 2 = .ok (.iconst 0, 1) := by decide +kernel
theorem dX1_countClashes_3 : decode cX1_countClashes 3 = .ok (.istore_n 2, 1) := by decide +kernel
theorem dX1_countClashes_4 : decode cX1_countClashes 4 = .ok (.iload_n 2, 1) := by decide +kernel
theorem dX1_countClashes_5 : decode cX1_countClashes 5 = .ok (.iconst 4, 1) := by decide +kernel
theorem dX1_countClashes_6 : decode cX1_countClashes 6 = .ok (.if_icmp .ge 21, 3) := by decide +kernel
theorem dX1_countClashes_9 : decode cX1_countClashes 9 = .ok (.aload_n 0, 1) := by decide +kernel
theorem dX1_countClashes_10 : decode cX1_countClashes 10 = .ok (.iload_n 2, 1) := by decide +kernel
theorem dX1_countClashes_11 : decode cX1_countClashes 11 = .ok (.invokevirtual 46, 3) := by decide +kernel
theorem dX1_countClashes_14 : decode cX1_countClashes 14 = .ok (.iconst 1, 1) := by decide +kernel
theorem dX1_countClashes_15 : decode cX1_countClashes 15 = .ok (.if_icmp .le 6, 3) := by decide +kernel
theorem dX1_countClashes_18 : decode cX1_countClashes 18 = .ok (.iinc 1 1, 3) := by decide +kernel
theorem dX1_countClashes_21 : decode cX1_countClashes 21 = .ok (.iinc 2 1, 3) := by decide +kernel
theorem dX1_countClashes_24 : decode cX1_countClashes 24 = .ok (.goto (-20), 3) := by decide +kernel
theorem dX1_countClashes_27 : decode cX1_countClashes 27 = .ok (.iload_n 1, 1) := by decide +kernel
theorem dX1_countClashes_28 : decode cX1_countClashes 28 = .ok (.ireturn, 1) := by decide +kernel
theorem dX1_valueAt_0 : decode cX1_valueAt 0 = .ok (.iconst 0, 1) := by decide +kernel
theorem dX1_valueAt_1 : decode cX1_valueAt 1 = .ok (.istore_n 3, 1) := by decide +kernel
theorem dX1_valueAt_2 : decode cX1_valueAt 2 = .ok (.iconst 0, 1) := by decide +kernel
theorem dX1_valueAt_3 : decode cX1_valueAt 3 = .ok (.istore 4, 2) := by decide +kernel
theorem dX1_valueAt_5 : decode cX1_valueAt 5 = .ok (.iload 4, 2) := by decide +kernel
theorem dX1_valueAt_7 : decode cX1_valueAt 7 = .ok (.bipush 6, 2) := by decide +kernel
theorem dX1_valueAt_9 : decode cX1_valueAt 9 = .ok (.if_icmp .ge 43, 3) := by decide +kernel
theorem dX1_valueAt_12 : decode cX1_valueAt 12 = .ok (.iload_n 1, 1) := by decide +kernel
theorem dX1_valueAt_13 : decode cX1_valueAt 13 = .ok (.iload 4, 2) := by decide +kernel
theorem dX1_valueAt_15 : decode cX1_valueAt 15 = .ok (.invokestatic 42, 3) := by decide +kernel
theorem dX1_valueAt_18 : decode cX1_valueAt 18 = .ok (.istore 5, 2) := by decide +kernel
theorem dX1_valueAt_20 : decode cX1_valueAt 20 = .ok (.aload_n 0, 1) := by decide +kernel
theorem dX1_valueAt_21 : decode cX1_valueAt 21 = .ok (.getfield 9, 3) := by decide +kernel
theorem dX1_valueAt_24 : decode cX1_valueAt 24 = .ok (.iload 5, 2) := by decide +kernel
theorem dX1_valueAt_26 : decode cX1_valueAt 26 = .ok (.iaload, 1) := by decide +kernel
theorem dX1_valueAt_27 : decode cX1_valueAt 27 = .ok (.ifCond .eq 19, 3) := by decide +kernel
theorem dX1_valueAt_30 : decode cX1_valueAt 30 = .ok (.iload_n 3, 1) := by decide +kernel
theorem dX1_valueAt_31 : decode cX1_valueAt 31 = .ok (.iload_n 2, 1) := by decide +kernel
theorem dX1_valueAt_32 : decode cX1_valueAt 32 = .ok (.if_icmp .ne 11, 3) := by decide +kernel
theorem dX1_valueAt_35 : decode cX1_valueAt 35 = .ok (.aload_n 0, 1) := by decide +kernel
theorem dX1_valueAt_36 : decode cX1_valueAt 36 = .ok (.getfield 15, 3) := by decide +kernel
theorem dX1_valueAt_39 : decode cX1_valueAt 39 = .ok (.iload 5, 2) := by decide +kernel
theorem dX1_valueAt_41 : decode cX1_valueAt 41 = .ok (.iaload, 1) := by decide +kernel
theorem dX1_valueAt_42 : decode cX1_valueAt 42 = .ok (.ireturn, 1) := by decide +kernel
theorem dX1_valueAt_43 : decode cX1_valueAt 43 = .ok (.iinc 3 1, 3) := by decide +kernel
theorem dX1_valueAt_46 : decode cX1_valueAt 46 = .ok (.iinc 4 1, 3) := by decide +kernel
theorem dX1_valueAt_49 : decode cX1_valueAt 49 = .ok (.goto (-44), 3) := by decide +kernel
theorem dX1_valueAt_52 : decode cX1_valueAt 52 = .ok (.iconst (-1), 1) := by decide +kernel
theorem dX1_valueAt_53 : decode cX1_valueAt 53 = .ok (.ireturn, 1) := by decide +kernel
theorem dX1_dropValues_0 : decode cX1_dropValues 0 = .ok (.iconst 0, 1) := by decide +kernel
theorem dX1_dropValues_1 : decode cX1_dropValues 1 = .ok (.istore_n 2, 1) := by decide +kernel
theorem dX1_dropValues_2 : decode cX1_dropValues 2 = .ok (.iload_n 2, 1) := by decide +kernel
theorem dX1_dropValues_3 : decode cX1_dropValues 3 = .ok (.bipush 6, 2) := by decide +kernel
theorem dX1_dropValues_5 : decode cX1_dropValues 5 = .ok (.if_icmp .ge 31, 3) := by decide +kernel
theorem dX1_dropValues_8 : decode cX1_dropValues 8 = .ok (.aload_n 0, 1) := by decide +kernel
theorem dX1_dropValues_9 : decode cX1_dropValues 9 = .ok (.getfield 9, 3) := by decide +kernel
theorem dX1_dropValues_12 : decode cX1_dropValues 12 = .ok (.iload_n 1, 1) := by decide +kernel
theorem dX1_dropValues_13 : decode cX1_dropValues 13 = .ok (.iload_n 2, 1) := by decide +kernel
theorem dX1_dropValues_14 : decode cX1_dropValues 14 = .ok (.invokestatic 42, 3) := by decide +kernel
theorem dX1_dropValues_17 : decode cX1_dropValues 17 = .ok (.iconst 0, 1) := by decide +kernel
theorem dX1_dropValues_18 : decode cX1_dropValues 18 = .ok (.iastore, 1) := by decide +kernel
theorem dX1_dropValues_19 : decode cX1_dropValues 19 = .ok (.aload_n 0, 1) := by decide +kernel
theorem dX1_dropValues_20 : decode cX1_dropValues 20 = .ok (.getfield 15, 3) := by decide +kernel
theorem dX1_dropValues_23 : decode cX1_dropValues 23 = .ok (.iload_n 1, 1) := by decide +kernel
theorem dX1_dropValues_24 : decode cX1_dropValues 24 = .ok (.iload_n 2, 1) := by decide +kernel
theorem dX1_dropValues_25 : decode cX1_dropValues 25 = .ok (.invokestatic 42, 3) := by decide +kernel
theorem dX1_dropValues_28 : decode cX1_dropValues 28 = .ok (.iconst 0, 1) := by decide +kernel
theorem dX1_dropValues_29 : decode cX1_dropValues 29 = .ok (.iastore, 1) := by decide +kernel
theorem dX1_dropValues_30 : decode cX1_dropValues 30 = .ok (.iinc 2 1, 3) := by decide +kernel
theorem dX1_dropValues_33 : decode cX1_dropValues 33 = .ok (.goto (-31), 3) := by decide +kernel
theorem dX1_dropValues_36 : decode cX1_dropValues 36 = .ok (.return_, 1) := by decide +kernel
theorem dX1_keepFields_0 : decode cX1_keepFields 0 = .ok (.iconst 0, 1) := by decide +kernel
theorem dX1_keepFields_1 : decode cX1_keepFields 1 = .ok (.istore_n 2, 1) := by decide +kernel
theorem dX1_keepFields_2 : decode cX1_keepFields 2 = .ok (.iload_n 2, 1) := by decide +kernel
theorem dX1_keepFields_3 : decode cX1_keepFields 3 = .ok (.bipush 24, 2) := by decide +kernel
theorem dX1_keepFields_5 : decode cX1_keepFields 5 = .ok (.if_icmp .ge 44, 3) := by decide +kernel
theorem dX1_keepFields_8 : decode cX1_keepFields 8 = .ok (.iload_n 1, 1) := by decide +kernel
theorem dX1_keepFields_9 : decode cX1_keepFields 9 = .ok (.iload_n 2, 1) := by decide +kernel
theorem dX1_keepFields_10 : decode cX1_keepFields 10 = .ok (.bipush 6, 2) := by decide +kernel
theorem dX1_keepFields_12 : decode cX1_keepFields 12 = .ok (.idiv, 1) := by decide +kernel
theorem dX1_keepFields_13 : decode cX1_keepFields 13 = .ok (.invokestatic 50, 3) := by decide +kernel
theorem dX1_keepFields_16 : decode cX1_keepFields 16 = .ok (.ifCond .ne 27, 3) := by decide +kernel
theorem dX1_keepFields_19 : decode cX1_keepFields 19 = .ok (.aload_n 0, 1) := by decide +kernel
theorem dX1_keepFields_20 : decode cX1_keepFields 20 = .ok (.getfield 9, 3) := by decide +kernel
theorem dX1_keepFields_23 : decode cX1_keepFields 23 = .ok (.iload_n 2, 1) := by decide +kernel
theorem dX1_keepFields_24 : decode cX1_keepFields 24 = .ok (.iconst 0, 1) := by decide +kernel
theorem dX1_keepFields_25 : decode cX1_keepFields 25 = .ok (.iastore, 1) := by decide +kernel
theorem dX1_keepFields_26 : decode cX1_keepFields 26 = .ok (.aload_n 0, 1) := by decide +kernel
theorem dX1_keepFields_27 : decode cX1_keepFields 27 = .ok (.getfield 15, 3) := by decide +kernel
theorem dX1_keepFields_30 : decode cX1_keepFields 30 = .ok (.iload_n 2, 1) := by decide +kernel
theorem dX1_keepFields_31 : decode cX1_keepFields 31 = .ok (.iconst 0, 1) := by decide +kernel
theorem dX1_keepFields_32 : decode cX1_keepFields 32 = .ok (.iastore, 1) := by decide +kernel
theorem dX1_keepFields_33 : decode cX1_keepFields 33 = .ok (.aload_n 0, 1) := by decide +kernel
theorem dX1_keepFields_34 : decode cX1_keepFields 34 = .ok (.getfield 21, 3) := by decide +kernel
theorem dX1_keepFields_37 : decode cX1_keepFields 37 = .ok (.getfield 54, 3) := by decide +kernel
theorem dX1_keepFields_40 : decode cX1_keepFields 40 = .ok (.iload_n 2, 1) := by decide +kernel
theorem dX1_keepFields_41 : decode cX1_keepFields 41 = .ok (.iconst 0, 1) := by decide +kernel
theorem dX1_keepFields_42 : decode cX1_keepFields 42 = .ok (.iastore, 1) := by decide +kernel
theorem dX1_keepFields_43 : decode cX1_keepFields 43 = .ok (.iinc 2 1, 3) := by decide +kernel
theorem dX1_keepFields_46 : decode cX1_keepFields 46 = .ok (.goto (-44), 3) := by decide +kernel
theorem dX1_keepFields_49 : decode cX1_keepFields 49 = .ok (.return_, 1) := by decide +kernel
theorem dX1_hasSameValues_0 : decode cX1_hasSameValues 0 = .ok (.iconst 0, 1) := by decide +kernel
theorem dX1_hasSameValues_1 : decode cX1_hasSameValues 1 = .ok (.istore_n 3, 1) := by decide +kernel
theorem dX1_hasSameValues_2 : decode cX1_hasSameValues 2 = .ok (.iload_n 3, 1) := by decide +kernel
theorem dX1_hasSameValues_3 : decode cX1_hasSameValues 3 = .ok (.bipush 6, 2) := by decide +kernel
theorem dX1_hasSameValues_5 : decode cX1_hasSameValues 5 = .ok (.if_icmp .ge 34, 3) := by decide +kernel
theorem dX1_hasSameValues_8 : decode cX1_hasSameValues 8 = .ok (.aload_n 0, 1) := by decide +kernel
theorem dX1_hasSameValues_9 : decode cX1_hasSameValues 9 = .ok (.getfield 9, 3) := by decide +kernel
theorem dX1_hasSameValues_12 : decode cX1_hasSameValues 12 = .ok (.iload_n 2, 1) := by decide +kernel
theorem dX1_hasSameValues_13 : decode cX1_hasSameValues 13 = .ok (.iload_n 3, 1) := by decide +kernel
theorem dX1_hasSameValues_14 : decode cX1_hasSameValues 14 = .ok (.invokestatic 42, 3) := by decide +kernel
theorem dX1_hasSameValues_17 : decode cX1_hasSameValues 17 = .ok (.iaload, 1) := by decide +kernel
theorem dX1_hasSameValues_18 : decode cX1_hasSameValues 18 = .ok (.aload_n 1, 1) := by decide +kernel
theorem dX1_hasSameValues_19 : decode cX1_hasSameValues 19 = .ok (.getfield 9, 3) := by decide +kernel
theorem dX1_hasSameValues_22 : decode cX1_hasSameValues 22 = .ok (.iload_n 2, 1) := by decide +kernel
theorem dX1_hasSameValues_23 : decode cX1_hasSameValues 23 = .ok (.iload_n 3, 1) := by decide +kernel
theorem dX1_hasSameValues_24 : decode cX1_hasSameValues 24 = .ok (.invokestatic 42, 3) := by decide +kernel
theorem dX1_hasSameValues_27 : decode cX1_hasSameValues 27 = .ok (.iaload, 1) := by decide +kernel
theorem dX1_hasSameValues_28 : decode cX1_hasSameValues 28 = .ok (.if_icmp .eq 5, 3) := by decide +kernel
theorem dX1_hasSameValues_31 : decode cX1_hasSameValues 31 = .ok (.iconst 0, 1) := by decide +kernel
theorem dX1_hasSameValues_32 : decode cX1_hasSameValues 32 = .ok (.ireturn, 1) := by decide +kernel
theorem dX1_hasSameValues_33 : decode cX1_hasSameValues 33 = .ok (.iinc 3 1, 3) := by decide +kernel
theorem dX1_hasSameValues_36 : decode cX1_hasSameValues 36 = .ok (.goto (-34), 3) := by decide +kernel
theorem dX1_hasSameValues_39 : decode cX1_hasSameValues 39 = .ok (.iconst 1, 1) := by decide +kernel
theorem dX1_hasSameValues_40 : decode cX1_hasSameValues 40 = .ok (.ireturn, 1) := by decide +kernel
theorem dX1_braid_0 : decode cX1_braid 0 = .ok (.iconst 0, 1) := by decide +kernel
theorem dX1_braid_1 : decode cX1_braid 1 = .ok (.istore_n 3, 1) := by decide +kernel
theorem dX1_braid_2 : decode cX1_braid 2 = .ok (.iconst 0, 1) := by decide +kernel
theorem dX1_braid_3 : decode cX1_braid 3 = .ok (.istore 4, 2) := by decide +kernel
theorem dX1_braid_5 : decode cX1_braid 5 = .ok (.iload 4, 2) := by decide +kernel
theorem dX1_braid_7 : decode cX1_braid 7 = .ok (.bipush 6, 2) := by decide +kernel
theorem dX1_braid_9 : decode cX1_braid 9 = .ok (.if_icmp .ge 76, 3) := by decide +kernel
theorem dX1_braid_12 : decode cX1_braid 12 = .ok (.iload_n 2, 1) := by decide +kernel
theorem dX1_braid_13 : decode cX1_braid 13 = .ok (.iload 4, 2) := by decide +kernel
theorem dX1_braid_15 : decode cX1_braid 15 = .ok (.invokestatic 42, 3) := by decide +kernel
theorem dX1_braid_18 : decode cX1_braid 18 = .ok (.istore 5, 2) := by decide +kernel
theorem dX1_braid_20 : decode cX1_braid 20 = .ok (.iload_n 3, 1) := by decide +kernel
theorem dX1_braid_21 : decode cX1_braid 21 = .ok (.aload_n 0, 1) := by decide +kernel
theorem dX1_braid_22 : decode cX1_braid 22 = .ok (.aload_n 1, 1) := by decide +kernel
theorem dX1_braid_23 : decode cX1_braid 23 = .ok (.iload 5, 2) := by decide +kernel
theorem dX1_braid_25 : decode cX1_braid 25 = .ok (.invokevirtual 57, 3) := by decide +kernel
theorem dX1_braid_28 : decode cX1_braid 28 = .ok (.iadd, 1) := by decide +kernel
theorem dX1_braid_29 : decode cX1_braid 29 = .ok (.istore_n 3, 1) := by decide +kernel
theorem dX1_braid_30 : decode cX1_braid 30 = .ok (.aload_n 0, 1) := by decide +kernel
theorem dX1_braid_31 : decode cX1_braid 31 = .ok (.getfield 21, 3) := by decide +kernel
theorem dX1_braid_34 : decode cX1_braid 34 = .ok (.getfield 54, 3) := by decide +kernel
theorem dX1_braid_37 : decode cX1_braid 37 = .ok (.iload 5, 2) := by decide +kernel
theorem dX1_braid_39 : decode cX1_braid 39 = .ok (.iaload, 1) := by decide +kernel
theorem dX1_braid_40 : decode cX1_braid 40 = .ok (.aload_n 1, 1) := by decide +kernel
theorem dX1_braid_41 : decode cX1_braid 41 = .ok (.getfield 21, 3) := by decide +kernel
theorem dX1_braid_44 : decode cX1_braid 44 = .ok (.getfield 54, 3) := by decide +kernel
theorem dX1_braid_47 : decode cX1_braid 47 = .ok (.iload 5, 2) := by decide +kernel
theorem dX1_braid_49 : decode cX1_braid 49 = .ok (.iaload, 1) := by decide +kernel
theorem dX1_braid_50 : decode cX1_braid 50 = .ok (.invokestatic 61, 3) := by decide +kernel
theorem dX1_braid_53 : decode cX1_braid 53 = .ok (.istore 6, 2) := by decide +kernel
theorem dX1_braid_55 : decode cX1_braid 55 = .ok (.aload_n 0, 1) := by decide +kernel
theorem dX1_braid_56 : decode cX1_braid 56 = .ok (.getfield 21, 3) := by decide +kernel
theorem dX1_braid_59 : decode cX1_braid 59 = .ok (.getfield 54, 3) := by decide +kernel
theorem dX1_braid_62 : decode cX1_braid 62 = .ok (.iload 5, 2) := by decide +kernel
theorem dX1_braid_64 : decode cX1_braid 64 = .ok (.iload 6, 2) := by decide +kernel
theorem dX1_braid_66 : decode cX1_braid 66 = .ok (.iastore, 1) := by decide +kernel
theorem dX1_braid_67 : decode cX1_braid 67 = .ok (.aload_n 1, 1) := by decide +kernel
theorem dX1_braid_68 : decode cX1_braid 68 = .ok (.getfield 21, 3) := by decide +kernel
theorem dX1_braid_71 : decode cX1_braid 71 = .ok (.getfield 54, 3) := by decide +kernel
theorem dX1_braid_74 : decode cX1_braid 74 = .ok (.iload 5, 2) := by decide +kernel
theorem dX1_braid_76 : decode cX1_braid 76 = .ok (.iload 6, 2) := by decide +kernel
theorem dX1_braid_78 : decode cX1_braid 78 = .ok (.iastore, 1) := by decide +kernel
theorem dX1_braid_79 : decode cX1_braid 79 = .ok (.iinc 4 1, 3) := by decide +kernel
theorem dX1_braid_82 : decode cX1_braid 82 = .ok (.goto (-77), 3) := by decide +kernel
theorem dX1_braid_85 : decode cX1_braid 85 = .ok (.iload_n 3, 1) := by decide +kernel
theorem dX1_braid_86 : decode cX1_braid 86 = .ok (.ireturn, 1) := by decide +kernel
theorem dX1_braidCell_0 : decode cX1_braidCell 0 = .ok (.aload_n 0, 1) := by decide +kernel
theorem dX1_braidCell_1 : decode cX1_braidCell 1 = .ok (.getfield 9, 3) := by decide +kernel
theorem dX1_braidCell_4 : decode cX1_braidCell 4 = .ok (.iload_n 2, 1) := by decide +kernel
theorem dX1_braidCell_5 : decode cX1_braidCell 5 = .ok (.iaload, 1) := by decide +kernel
theorem dX1_braidCell_6 : decode cX1_braidCell 6 = .ok (.aload_n 1, 1) := by decide +kernel
theorem dX1_braidCell_7 : decode cX1_braidCell 7 = .ok (.getfield 9, 3) := by decide +kernel
theorem dX1_braidCell_10 : decode cX1_braidCell 10 = .ok (.iload_n 2, 1) := by decide +kernel
theorem dX1_braidCell_11 : decode cX1_braidCell 11 = .ok (.iaload, 1) := by decide +kernel
theorem dX1_braidCell_12 : decode cX1_braidCell 12 = .ok (.if_icmp .ne 5, 3) := by decide +kernel
theorem dX1_braidCell_15 : decode cX1_braidCell 15 = .ok (.iconst 0, 1) := by decide +kernel
theorem dX1_braidCell_16 : decode cX1_braidCell 16 = .ok (.ireturn, 1) := by decide +kernel
theorem dX1_braidCell_17 : decode cX1_braidCell 17 = .ok (.iconst 0, 1) := by decide +kernel
theorem dX1_braidCell_18 : decode cX1_braidCell 18 = .ok (.istore_n 3, 1) := by decide +kernel
theorem dX1_braidCell_19 : decode cX1_braidCell 19 = .ok (.iconst 0, 1) := by decide +kernel
theorem dX1_braidCell_20 : decode cX1_braidCell 20 = .ok (.istore 4, 2) := by decide +kernel
theorem dX1_braidCell_22 : decode cX1_braidCell 22 = .ok (.aload_n 0, 1) := by decide +kernel
theorem dX1_braidCell_23 : decode cX1_braidCell 23 = .ok (.getfield 9, 3) := by decide +kernel
theorem dX1_braidCell_26 : decode cX1_braidCell 26 = .ok (.iload_n 2, 1) := by decide +kernel
theorem dX1_braidCell_27 : decode cX1_braidCell 27 = .ok (.iaload, 1) := by decide +kernel
theorem dX1_braidCell_28 : decode cX1_braidCell 28 = .ok (.aload_n 1, 1) := by decide +kernel
theorem dX1_braidCell_29 : decode cX1_braidCell 29 = .ok (.getfield 21, 3) := by decide +kernel
theorem dX1_braidCell_32 : decode cX1_braidCell 32 = .ok (.getfield 54, 3) := by decide +kernel
theorem dX1_braidCell_35 : decode cX1_braidCell 35 = .ok (.iload_n 2, 1) := by decide +kernel
theorem dX1_braidCell_36 : decode cX1_braidCell 36 = .ok (.iaload, 1) := by decide +kernel
theorem dX1_braidCell_37 : decode cX1_braidCell 37 = .ok (.if_icmp .le 21, 3) := by decide +kernel
theorem dX1_braidCell_40 : decode cX1_braidCell 40 = .ok (.aload_n 0, 1) := by decide +kernel
theorem dX1_braidCell_41 : decode cX1_braidCell 41 = .ok (.getfield 9, 3) := by decide +kernel
theorem dX1_braidCell_44 : decode cX1_braidCell 44 = .ok (.iload_n 2, 1) := by decide +kernel
theorem dX1_braidCell_45 : decode cX1_braidCell 45 = .ok (.iaload, 1) := by decide +kernel
theorem dX1_braidCell_46 : decode cX1_braidCell 46 = .ok (.istore_n 3, 1) := by decide +kernel
theorem dX1_braidCell_47 : decode cX1_braidCell 47 = .ok (.aload_n 0, 1) := by decide +kernel
theorem dX1_braidCell_48 : decode cX1_braidCell 48 = .ok (.getfield 15, 3) := by decide +kernel
theorem dX1_braidCell_51 : decode cX1_braidCell 51 = .ok (.iload_n 2, 1) := by decide +kernel
theorem dX1_braidCell_52 : decode cX1_braidCell 52 = .ok (.iaload, 1) := by decide +kernel
theorem dX1_braidCell_53 : decode cX1_braidCell 53 = .ok (.istore 4, 2) := by decide +kernel
theorem dX1_braidCell_55 : decode cX1_braidCell 55 = .ok (.goto 36, 3) := by decide +kernel
theorem dX1_braidCell_58 : decode cX1_braidCell 58 = .ok (.aload_n 1, 1) := by decide +kernel
theorem dX1_braidCell_59 : decode cX1_braidCell 59 = .ok (.getfield 9, 3) := by decide +kernel
theorem dX1_braidCell_62 : decode cX1_braidCell 62 = .ok (.iload_n 2, 1) := by decide +kernel
theorem dX1_braidCell_63 : decode cX1_braidCell 63 = .ok (.iaload, 1) := by decide +kernel
theorem dX1_braidCell_64 : decode cX1_braidCell 64 = .ok (.aload_n 0, 1) := by decide +kernel
theorem dX1_braidCell_65 : decode cX1_braidCell 65 = .ok (.getfield 21, 3) := by decide +kernel
theorem dX1_braidCell_68 : decode cX1_braidCell 68 = .ok (.getfield 54, 3) := by decide +kernel
theorem dX1_braidCell_71 : decode cX1_braidCell 71 = .ok (.iload_n 2, 1) := by decide +kernel
theorem dX1_braidCell_72 : decode cX1_braidCell 72 = .ok (.iaload, 1) := by decide +kernel
theorem dX1_braidCell_73 : decode cX1_braidCell 73 = .ok (.if_icmp .le 18, 3) := by decide +kernel
theorem dX1_braidCell_76 : decode cX1_braidCell 76 = .ok (.aload_n 1, 1) := by decide +kernel
theorem dX1_braidCell_77 : decode cX1_braidCell 77 = .ok (.getfield 9, 3) := by decide +kernel
theorem dX1_braidCell_80 : decode cX1_braidCell 80 = .ok (.iload_n 2, 1) := by decide +kernel
theorem dX1_braidCell_81 : decode cX1_braidCell 81 = .ok (.iaload, 1) := by decide +kernel
theorem dX1_braidCell_82 : decode cX1_braidCell 82 = .ok (.istore_n 3, 1) := by decide +kernel
theorem dX1_braidCell_83 : decode cX1_braidCell 83 = .ok (.aload_n 1, 1) := by decide +kernel
theorem dX1_braidCell_84 : decode cX1_braidCell 84 = .ok (.getfield 15, 3) := by decide +kernel
theorem dX1_braidCell_87 : decode cX1_braidCell 87 = .ok (.iload_n 2, 1) := by decide +kernel
theorem dX1_braidCell_88 : decode cX1_braidCell 88 = .ok (.iaload, 1) := by decide +kernel
theorem dX1_braidCell_89 : decode cX1_braidCell 89 = .ok (.istore 4, 2) := by decide +kernel
theorem dX1_braidCell_91 : decode cX1_braidCell 91 = .ok (.aload_n 0, 1) := by decide +kernel
theorem dX1_braidCell_92 : decode cX1_braidCell 92 = .ok (.getfield 9, 3) := by decide +kernel
theorem dX1_braidCell_95 : decode cX1_braidCell 95 = .ok (.iload_n 2, 1) := by decide +kernel
theorem dX1_braidCell_96 : decode cX1_braidCell 96 = .ok (.iload_n 3, 1) := by decide +kernel
theorem dX1_braidCell_97 : decode cX1_braidCell 97 = .ok (.iastore, 1) := by decide +kernel
theorem dX1_braidCell_98 : decode cX1_braidCell 98 = .ok (.aload_n 0, 1) := by decide +kernel
theorem dX1_braidCell_99 : decode cX1_braidCell 99 = .ok (.getfield 15, 3) := by decide +kernel
theorem dX1_braidCell_102 : decode cX1_braidCell 102 = .ok (.iload_n 2, 1) := by decide +kernel
theorem dX1_braidCell_103 : decode cX1_braidCell 103 = .ok (.iload 4, 2) := by decide +kernel
theorem dX1_braidCell_105 : decode cX1_braidCell 105 = .ok (.iastore, 1) := by decide +kernel
theorem dX1_braidCell_106 : decode cX1_braidCell 106 = .ok (.aload_n 1, 1) := by decide +kernel
theorem dX1_braidCell_107 : decode cX1_braidCell 107 = .ok (.getfield 9, 3) := by decide +kernel
theorem dX1_braidCell_110 : decode cX1_braidCell 110 = .ok (.iload_n 2, 1) := by decide +kernel
theorem dX1_braidCell_111 : decode cX1_braidCell 111 = .ok (.iload_n 3, 1) := by decide +kernel
theorem dX1_braidCell_112 : decode cX1_braidCell 112 = .ok (.iastore, 1) := by decide +kernel
theorem dX1_braidCell_113 : decode cX1_braidCell 113 = .ok (.aload_n 1, 1) := by decide +kernel
theorem dX1_braidCell_114 : decode cX1_braidCell 114 = .ok (.getfield 15, 3) := by decide +kernel
theorem dX1_braidCell_117 : decode cX1_braidCell 117 = .ok (.iload_n 2, 1) := by decide +kernel
theorem dX1_braidCell_118 : decode cX1_braidCell 118 = .ok (.iload 4, 2) := by decide +kernel
theorem dX1_braidCell_120 : decode cX1_braidCell 120 = .ok (.iastore, 1) := by decide +kernel
theorem dX1_braidCell_121 : decode cX1_braidCell 121 = .ok (.iload_n 3, 1) := by decide +kernel
theorem dX1_braidCell_122 : decode cX1_braidCell 122 = .ok (.ifCond .ne 7, 3) := by decide +kernel
theorem dX1_braidCell_125 : decode cX1_braidCell 125 = .ok (.iconst 0, 1) := by decide +kernel
theorem dX1_braidCell_126 : decode cX1_braidCell 126 = .ok (.goto 4, 3) := by decide +kernel
theorem dX1_braidCell_129 : decode cX1_braidCell 129 = .ok (.iconst 1, 1) := by decide +kernel
theorem dX1_braidCell_130 : decode cX1_braidCell 130 = .ok (.ireturn, 1) := by decide +kernel
theorem dX1_exchangeNotes_0 : decode cX1_exchangeNotes 0 = .ok (.aload_n 0, 1) := by decide +kernel
theorem dX1_exchangeNotes_1 : decode cX1_exchangeNotes 1 = .ok (.getfield 32, 3) := by decide +kernel
theorem dX1_exchangeNotes_4 : decode cX1_exchangeNotes 4 = .ok (.ifCond .ne 11, 3) := by decide +kernel
theorem dX1_exchangeNotes_7 : decode cX1_exchangeNotes 7 = .ok (.aload_n 1, 1) := by decide +kernel
theorem dX1_exchangeNotes_8 : decode cX1_exchangeNotes 8 = .ok (.getfield 32, 3) := by decide +kernel
theorem dX1_exchangeNotes_11 : decode cX1_exchangeNotes 11 = .ok (.ifCond .ne 4, 3) := by decide +kernel
theorem dX1_exchangeNotes_14 : decode cX1_exchangeNotes 14 = .ok (.return_, 1) := by decide +kernel
theorem dX1_exchangeNotes_15 : decode cX1_exchangeNotes 15 = .ok (.aload_n 0, 1) := by decide +kernel
theorem dX1_exchangeNotes_16 : decode cX1_exchangeNotes 16 = .ok (.iconst 1, 1) := by decide +kernel
theorem dX1_exchangeNotes_17 : decode cX1_exchangeNotes 17 = .ok (.putfield 32, 3) := by decide +kernel
theorem dX1_exchangeNotes_20 : decode cX1_exchangeNotes 20 = .ok (.aload_n 1, 1) := by decide +kernel
theorem dX1_exchangeNotes_21 : decode cX1_exchangeNotes 21 = .ok (.iconst 1, 1) := by decide +kernel
theorem dX1_exchangeNotes_22 : decode cX1_exchangeNotes 22 = .ok (.putfield 32, 3) := by decide +kernel
theorem dX1_exchangeNotes_25 : decode cX1_exchangeNotes 25 = .ok (.aload_n 0, 1) := by decide +kernel
theorem dX1_exchangeNotes_26 : decode cX1_exchangeNotes 26 = .ok (.getfield 25, 3) := by decide +kernel
theorem dX1_exchangeNotes_29 : decode cX1_exchangeNotes 29 = .ok (.aload_n 1, 1) := by decide +kernel
theorem dX1_exchangeNotes_30 : decode cX1_exchangeNotes 30 = .ok (.getfield 25, 3) := by decide +kernel
theorem dX1_exchangeNotes_33 : decode cX1_exchangeNotes 33 = .ok (.invokevirtual 66, 3) := by decide +kernel
theorem dX1_exchangeNotes_36 : decode cX1_exchangeNotes 36 = .ok (.aload_n 1, 1) := by decide +kernel
theorem dX1_exchangeNotes_37 : decode cX1_exchangeNotes 37 = .ok (.getfield 25, 3) := by decide +kernel
theorem dX1_exchangeNotes_40 : decode cX1_exchangeNotes 40 = .ok (.aload_n 0, 1) := by decide +kernel
theorem dX1_exchangeNotes_41 : decode cX1_exchangeNotes 41 = .ok (.getfield 25, 3) := by decide +kernel
theorem dX1_exchangeNotes_44 : decode cX1_exchangeNotes 44 = .ok (.invokevirtual 66, 3) := by decide +kernel
theorem dX1_exchangeNotes_47 : decode cX1_exchangeNotes 47 = .ok (.return_, 1) := by decide +kernel
theorem dX2_init_0 : decode cX2_init 0 = .ok (.aload_n 0, 1) := by decide +kernel
theorem dX2_init_1 : decode cX2_init 1 = .ok (.invokespecial 3, 3) := by decide +kernel
theorem dX2_init_4 : decode cX2_init 4 = .ok (.aload_n 0, 1) := by decide +kernel
theorem dX2_init_5 : decode cX2_init 5 = .ok (.iconst 3, 1) := by decide +kernel
theorem dX2_init_6 : decode cX2_init 6 = .ok (.newarray .int, 2) := by decide +kernel
theorem dX2_init_8 : decode cX2_init 8 = .ok (.putfield 9, 3) := by decide +kernel
theorem dX2_init_11 : decode cX2_init 11 = .ok (.aload_n 0, 1) := by decide +kernel
theorem dX2_init_12 : decode cX2_init 12 = .ok (.bipush 6, 2) := by decide +kernel
theorem dX2_init_14 : decode cX2_init 14 = .ok (.anewarray 15, 3) := by decide +kernel
theorem dX2_init_17 : decode cX2_init 17 = .ok (.putfield 17, 3) := by decide +kernel
theorem dX2_init_20 : decode cX2_init 20 = .ok (.aload_n 0, 1) := by decide +kernel
theorem dX2_init_21 : decode cX2_init 21 = .ok (.new 21, 3) := by decide +kernel
theorem dX2_init_24 : decode cX2_init 24 = .ok (.dup, 1) := by decide +kernel
theorem dX2_init_25 : decode cX2_init 25 = .ok (.invokespecial 23, 3) := by decide +kernel
theorem dX2_init_28 : decode cX2_init 28 = .ok (.putfield 24, 3) := by decide +kernel
theorem dX2_init_31 : decode cX2_init 31 = .ok (.iconst 0, 1) := by decide +kernel
theorem dX2_init_32 : decode cX2_init 32 = .ok (.istore_n 1, 1) := by decide +kernel
theorem dX2_init_33 : decode cX2_init 33 = .ok (.iload_n 1, 1) := by decide +kernel
theorem dX2_init_34 : decode cX2_init 34 = .ok (.bipush 6, 2) := by decide +kernel
theorem dX2_init_36 : decode cX2_init 36 = .ok (.if_icmp .ge 22, 3) := by decide +kernel
theorem dX2_init_39 : decode cX2_init 39 = .ok (.aload_n 0, 1) := by decide +kernel
theorem dX2_init_40 : decode cX2_init 40 = .ok (.getfield 17, 3) := by decide +kernel
theorem dX2_init_43 : decode cX2_init 43 = .ok (.iload_n 1, 1) := by decide +kernel
theorem dX2_init_44 : decode cX2_init 44 = .ok (.new 15, 3) := by decide +kernel
theorem dX2_init_47 : decode cX2_init 47 = .ok (.dup, 1) := by decide +kernel
theorem dX2_init_48 : decode cX2_init 48 = .ok (.invokespecial 28, 3) := by decide +kernel
theorem dX2_init_51 : decode cX2_init 51 = .ok (.aastore, 1) := by decide +kernel
theorem dX2_init_52 : decode cX2_init 52 = .ok (.iinc 1 1, 3) := by decide +kernel
theorem dX2_init_55 : decode cX2_init 55 = .ok (.goto (-22), 3) := by decide +kernel
theorem dX2_init_58 : decode cX2_init 58 = .ok (.return_, 1) := by decide +kernel
theorem dX2_clear_0 : decode cX2_clear 0 = .ok (.aload_n 0, 1) := by decide +kernel
theorem dX2_clear_1 : decode cX2_clear 1 = .ok (.iconst 0, 1) := by decide +kernel
theorem dX2_clear_2 : decode cX2_clear 2 = .ok (.putfield 29, 3) := by decide +kernel
theorem dX2_clear_5 : decode cX2_clear 5 = .ok (.aload_n 0, 1) := by decide +kernel
theorem dX2_clear_6 : decode cX2_clear 6 = .ok (.iconst 0, 1) := by decide +kernel
theorem dX2_clear_7 : decode cX2_clear 7 = .ok (.putfield 33, 3) := by decide +kernel
theorem dX2_clear_10 : decode cX2_clear 10 = .ok (.iconst 0, 1) := by decide +kernel
theorem dX2_clear_11 : decode cX2_clear 11 = .ok (.istore_n 1, 1) := by decide +kernel
theorem dX2_clear_12 : decode cX2_clear 12 = .ok (.iload_n 1, 1) := by decide +kernel
theorem dX2_clear_13 : decode cX2_clear 13 = .ok (.iconst 3, 1) := by decide +kernel
theorem dX2_clear_14 : decode cX2_clear 14 = .ok (.if_icmp .ge 16, 3) := by decide +kernel
theorem dX2_clear_17 : decode cX2_clear 17 = .ok (.aload_n 0, 1) := by decide +kernel
theorem dX2_clear_18 : decode cX2_clear 18 = .ok (.getfield 9, 3) := by decide +kernel
theorem dX2_clear_21 : decode cX2_clear 21 = .ok (.iload_n 1, 1) := by decide +kernel
theorem dX2_clear_22 : decode cX2_clear 22 = .ok (.iconst 0, 1) := by decide +kernel
theorem dX2_clear_23 : decode cX2_clear 23 = .ok (.iastore, 1) := by decide +kernel
theorem dX2_clear_24 : decode cX2_clear 24 = .ok (.iinc 1 1, 3) := by decide +kernel
theorem dX2_clear_27 : decode cX2_clear 27 = .ok (.goto (-15), 3) := by decide +kernel
theorem dX2_clear_30 : decode cX2_clear 30 = .ok (.iconst 0, 1) := by decide +kernel
theorem dX2_clear_31 : decode cX2_clear 31 = .ok (.istore_n 1, 1) := by decide +kernel
theorem dX2_clear_32 : decode cX2_clear 32 = .ok (.iload_n 1, 1) := by decide +kernel
theorem dX2_clear_33 : decode cX2_clear 33 = .ok (.bipush 6, 2) := by decide +kernel
theorem dX2_clear_35 : decode cX2_clear 35 = .ok (.if_icmp .ge 18, 3) := by decide +kernel
theorem dX2_clear_38 : decode cX2_clear 38 = .ok (.aload_n 0, 1) := by decide +kernel
theorem dX2_clear_39 : decode cX2_clear 39 = .ok (.getfield 17, 3) := by decide +kernel
theorem dX2_clear_42 : decode cX2_clear 42 = .ok (.iload_n 1, 1) := by decide +kernel
theorem dX2_clear_43 : decode cX2_clear 43 = .ok (.aaload, 1) := by decide +kernel
theorem dX2_clear_44 : decode cX2_clear 44 = .ok (.invokevirtual 36, 3) := by decide +kernel
theorem dX2_clear_47 : decode cX2_clear 47 = .ok (.iinc 1 1, 3) := by decide +kernel
theorem dX2_clear_50 : decode cX2_clear 50 = .ok (.goto (-18), 3) := by decide +kernel
theorem dX2_clear_53 : decode cX2_clear 53 = .ok (.return_, 1) := by decide +kernel
theorem dX2_fieldsFor_0 : decode cX2_fieldsFor 0 = .ok (.iload_n 1, 1) := by decide +kernel
theorem dX2_fieldsFor_1 : decode cX2_fieldsFor 1 = .ok (.invokestatic 39, 3) := by decide +kernel
theorem dX2_fieldsFor_4 : decode cX2_fieldsFor 4 = .ok (.istore_n 2, 1) := by decide +kernel
theorem dX2_fieldsFor_5 : decode cX2_fieldsFor 5 = .ok (.iload_n 2, 1) := by decide +kernel
theorem dX2_fieldsFor_6 : decode cX2_fieldsFor 6 = .ok (.aload_n 0, 1) := by decide +kernel
theorem dX2_fieldsFor_7 : decode cX2_fieldsFor 7 = .ok (.getfield 29, 3) := by decide +kernel
theorem dX2_fieldsFor_10 : decode cX2_fieldsFor 10 = .ok (.if_icmp .ne 8, 3) := by decide +kernel
theorem dX2_fieldsFor_13 : decode cX2_fieldsFor 13 = .ok (.bipush 15, 2) := by decide +kernel
theorem dX2_fieldsFor_15 : decode cX2_fieldsFor 15 = .ok (.goto 9, 3) := by decide +kernel
theorem dX2_fieldsFor_18 : decode cX2_fieldsFor 18 = .ok (.aload_n 0, 1) := by decide +kernel
theorem dX2_fieldsFor_19 : decode cX2_fieldsFor 19 = .ok (.getfield 9, 3) := by decide +kernel
theorem dX2_fieldsFor_22 : decode cX2_fieldsFor 22 = .ok (.iload_n 2, 1) := by decide +kernel
theorem dX2_fieldsFor_23 : decode cX2_fieldsFor 23 = .ok (.iaload, 1) := by decide +kernel
theorem dX2_fieldsFor_24 : decode cX2_fieldsFor 24 = .ok (.ireturn, 1) := by decide +kernel
theorem dX2_stateOn_0 : decode cX2_stateOn 0 = .ok (.aload_n 0, 1) := by decide +kernel
theorem dX2_stateOn_1 : decode cX2_stateOn 1 = .ok (.getfield 17, 3) := by decide +kernel
theorem dX2_stateOn_4 : decode cX2_stateOn 4 = .ok (.iload_n 1, 1) := by decide +kernel
theorem dX2_stateOn_5 : decode cX2_stateOn 5 = .ok (.aaload, 1) := by decide +kernel
theorem dX2_stateOn_6 : decode cX2_stateOn 6 = .ok (.astore_n 2, 1) := by decide +kernel
theorem dX2_stateOn_7 : decode cX2_stateOn 7 = .ok (.aload_n 2, 1) := by decide +kernel
theorem dX2_stateOn_8 : decode cX2_stateOn 8 = .ok (.getfield 43, 3) := by decide +kernel
theorem dX2_stateOn_11 : decode cX2_stateOn 11 = .ok (.ifCond .ne 5, 3) := by decide +kernel
theorem dX2_stateOn_14 : decode cX2_stateOn 14 = .ok (.iconst 0, 1) := by decide +kernel
theorem dX2_stateOn_15 : decode cX2_stateOn 15 = .ok (.ireturn, 1) := by decide +kernel
theorem dX2_stateOn_16 : decode cX2_stateOn 16 = .ok (.aload_n 0, 1) := by decide +kernel
theorem dX2_stateOn_17 : decode cX2_stateOn 17 = .ok (.iload_n 1, 1) := by decide +kernel
theorem dX2_stateOn_18 : decode cX2_stateOn 18 = .ok (.invokevirtual 47, 3) := by decide +kernel
theorem dX2_stateOn_21 : decode cX2_stateOn 21 = .ok (.ifCond .eq 5, 3) := by decide +kernel
theorem dX2_stateOn_24 : decode cX2_stateOn 24 = .ok (.iconst 2, 1) := by decide +kernel
theorem dX2_stateOn_25 : decode cX2_stateOn 25 = .ok (.ireturn, 1) := by decide +kernel
theorem dX2_stateOn_26 : decode cX2_stateOn 26 = .ok (.aload_n 2, 1) := by decide +kernel
theorem dX2_stateOn_27 : decode cX2_stateOn 27 = .ok (.invokevirtual 51, 3) := by decide +kernel
theorem dX2_stateOn_30 : decode cX2_stateOn 30 = .ok (.ifCond .ne 7, 3) := by decide +kernel
theorem dX2_stateOn_33 : decode cX2_stateOn 33 = .ok (.iconst 3, 1) := by decide +kernel
theorem dX2_stateOn_34 : decode cX2_stateOn 34 = .ok (.goto 4, 3) := by decide +kernel
theorem dX2_stateOn_37 : decode cX2_stateOn 37 = .ok (.iconst 1, 1) := by decide +kernel
theorem dX2_stateOn_38 : decode cX2_stateOn 38 = .ok (.ireturn, 1) := by decide +kernel
theorem dX2_isCovered_0 : decode cX2_isCovered 0 = .ok (.iconst 0, 1) := by decide +kernel
theorem dX2_isCovered_1 : decode cX2_isCovered 1 = .ok (.istore_n 2, 1) := by decide +kernel
theorem dX2_isCovered_2 : decode cX2_isCovered 2 = .ok (.iload_n 2, 1) := by decide +kernel
theorem dX2_isCovered_3 : decode cX2_isCovered 3 = .ok (.aload_n 0, 1) := by decide +kernel
theorem dX2_isCovered_4 : decode cX2_isCovered 4 = .ok (.getfield 33, 3) := by decide +kernel
theorem dX2_isCovered_7 : decode cX2_isCovered 7 = .ok (.if_icmp .ge 58, 3) := by decide +kernel
theorem dX2_isCovered_10 : decode cX2_isCovered 10 = .ok (.iload_n 2, 1) := by decide +kernel
theorem dX2_isCovered_11 : decode cX2_isCovered 11 = .ok (.aload_n 0, 1) := by decide +kernel
theorem dX2_isCovered_12 : decode cX2_isCovered 12 = .ok (.getfield 24, 3) := by decide +kernel
theorem dX2_isCovered_15 : decode cX2_isCovered 15 = .ok (.invokevirtual 55, 3) := by decide +kernel
theorem dX2_isCovered_18 : decode cX2_isCovered 18 = .ok (.if_icmp .ge 47, 3) := by decide +kernel
theorem dX2_isCovered_21 : decode cX2_isCovered 21 = .ok (.aload_n 0, 1) := by decide +kernel
theorem dX2_isCovered_22 : decode cX2_isCovered 22 = .ok (.getfield 24, 3) := by decide +kernel
theorem dX2_isCovered_25 : decode cX2_isCovered 25 = .ok (.iload_n 2, 1) := by decide +kernel
theorem dX2_isCovered_26 : decode cX2_isCovered 26 = .ok (.invokevirtual 58, 3) := by decide +kernel
theorem dX2_isCovered_29 : decode cX2_isCovered 29 = .ok (.checkcast 62, 3) := by decide +kernel
theorem dX2_isCovered_32 : decode cX2_isCovered 32 = .ok (.astore_n 3, 1) := by decide +kernel
theorem dX2_isCovered_33 : decode cX2_isCovered 33 = .ok (.aload_n 3, 1) := by decide +kernel
theorem dX2_isCovered_34 : decode cX2_isCovered 34 = .ok (.iload_n 1, 1) := by decide +kernel
theorem dX2_isCovered_35 : decode cX2_isCovered 35 = .ok (.invokevirtual 64, 3) := by decide +kernel
theorem dX2_isCovered_38 : decode cX2_isCovered 38 = .ok (.ifCond .eq 21, 3) := by decide +kernel
theorem dX2_isCovered_41 : decode cX2_isCovered 41 = .ok (.aload_n 3, 1) := by decide +kernel
theorem dX2_isCovered_42 : decode cX2_isCovered 42 = .ok (.getfield 67, 3) := by decide +kernel
theorem dX2_isCovered_45 : decode cX2_isCovered 45 = .ok (.aload_n 0, 1) := by decide +kernel
theorem dX2_isCovered_46 : decode cX2_isCovered 46 = .ok (.getfield 17, 3) := by decide +kernel
theorem dX2_isCovered_49 : decode cX2_isCovered 49 = .ok (.iload_n 1, 1) := by decide +kernel
theorem dX2_isCovered_50 : decode cX2_isCovered 50 = .ok (.aaload, 1) := by decide +kernel
theorem dX2_isCovered_51 : decode cX2_isCovered 51 = .ok (.invokevirtual 71, 3) := by decide +kernel
theorem dX2_isCovered_54 : decode cX2_isCovered 54 = .ok (.ifCond .eq 5, 3) := by decide +kernel
theorem dX2_isCovered_57 : decode cX2_isCovered 57 = .ok (.iconst 1, 1) := by decide +kernel
theorem dX2_isCovered_58 : decode cX2_isCovered 58 = .ok (.ireturn, 1) := by decide +kernel
theorem dX2_isCovered_59 : decode cX2_isCovered 59 = .ok (.iinc 2 1, 3) := by decide +kernel
theorem dX2_isCovered_62 : decode cX2_isCovered 62 = .ok (.goto (-60), 3) := by decide +kernel
theorem dX2_isCovered_65 : decode cX2_isCovered 65 = .ok (.iconst 0, 1) := by decide +kernel
theorem dX2_isCovered_66 : decode cX2_isCovered 66 = .ok (.ireturn, 1) := by decide +kernel
theorem dX2_countMarks_0 : decode cX2_countMarks 0 = .ok (.iconst 0, 1) := by decide +kernel
theorem dX2_countMarks_1 : decode cX2_countMarks 1 = .ok (.istore_n 2, 1) := by decide +kernel
theorem dX2_countMarks_2 : decode cX2_countMarks 2 = .ok (.iconst 0, 1) := by decide +kernel
theorem dX2_countMarks_3 : decode cX2_countMarks 3 = .ok (.istore_n 3, 1) := by decide +kernel
theorem dX2_countMarks_4 : decode cX2_countMarks 4 = .ok (.iload_n 3, 1) := by decide +kernel
theorem dX2_countMarks_5 : decode cX2_countMarks 5 = .ok (.aload_n 0, 1) := by decide +kernel
theorem dX2_countMarks_6 : decode cX2_countMarks 6 = .ok (.getfield 33, 3) := by decide +kernel
theorem dX2_countMarks_9 : decode cX2_countMarks 9 = .ok (.if_icmp .ge 41, 3) := by decide +kernel
theorem dX2_countMarks_12 : decode cX2_countMarks 12 = .ok (.iload_n 3, 1) := by decide +kernel
theorem dX2_countMarks_13 : decode cX2_countMarks 13 = .ok (.aload_n 0, 1) := by decide +kernel
theorem dX2_countMarks_14 : decode cX2_countMarks 14 = .ok (.getfield 24, 3) := by decide +kernel
theorem dX2_countMarks_17 : decode cX2_countMarks 17 = .ok (.invokevirtual 55, 3) := by decide +kernel
theorem dX2_countMarks_20 : decode cX2_countMarks 20 = .ok (.if_icmp .ge 30, 3) := by decide +kernel
theorem dX2_countMarks_23 : decode cX2_countMarks 23 = .ok (.aload_n 0, 1) := by decide +kernel
theorem dX2_countMarks_24 : decode cX2_countMarks 24 = .ok (.getfield 24, 3) := by decide +kernel
theorem dX2_countMarks_27 : decode cX2_countMarks 27 = .ok (.iload_n 3, 1) := by decide +kernel
theorem dX2_countMarks_28 : decode cX2_countMarks 28 = .ok (.invokevirtual 58, 3) := by decide +kernel
theorem dX2_countMarks_31 : decode cX2_countMarks 31 = .ok (.checkcast 62, 3) := by decide +kernel
theorem dX2_countMarks_34 : decode cX2_countMarks 34 = .ok (.iload_n 1, 1) := by decide +kernel
theorem dX2_countMarks_35 : decode cX2_countMarks 35 = .ok (.invokevirtual 64, 3) := by decide +kernel
theorem dX2_countMarks_38 : decode cX2_countMarks 38 = .ok (.ifCond .eq 6, 3) := by decide +kernel
theorem dX2_countMarks_41 : decode cX2_countMarks 41 = .ok (.iinc 2 1, 3) := by decide +kernel
theorem dX2_countMarks_44 : decode cX2_countMarks 44 = .ok (.iinc 3 1, 3) := by decide +kernel
theorem dX2_countMarks_47 : decode cX2_countMarks 47 = .ok (.goto (-43), 3) := by decide +kernel
theorem dX2_countMarks_50 : decode cX2_countMarks 50 = .ok (.iload_n 2, 1) := by decide +kernel
theorem dX2_countMarks_51 : decode cX2_countMarks 51 = .ok (.ireturn, 1) := by decide +kernel
theorem dX2_newestMark_0 : decode cX2_newestMark 0 = .ok (.iconst (-1), 1) := by decide +kernel
theorem dX2_newestMark_1 : decode cX2_newestMark 1 = .ok (.istore_n 2, 1) := by decide +kernel
theorem dX2_newestMark_2 : decode cX2_newestMark 2 = .ok (.iconst 0, 1) := by decide +kernel
theorem dX2_newestMark_3 : decode cX2_newestMark 3 = .ok (.istore_n 3, 1) := by decide +kernel
theorem dX2_newestMark_4 : decode cX2_newestMark 4 = .ok (.iload_n 3, 1) := by decide +kernel
theorem dX2_newestMark_5 : decode cX2_newestMark 5 = .ok (.aload_n 0, 1) := by decide +kernel
theorem dX2_newestMark_6 : decode cX2_newestMark 6 = .ok (.getfield 33, 3) := by decide +kernel
theorem dX2_newestMark_9 : decode cX2_newestMark 9 = .ok (.if_icmp .ge 41, 3) := by decide +kernel
theorem dX2_newestMark_12 : decode cX2_newestMark 12 = .ok (.iload_n 3, 1) := by decide +kernel
theorem dX2_newestMark_13 : decode cX2_newestMark 13 = .ok (.aload_n 0, 1) := by decide +kernel
theorem dX2_newestMark_14 : decode cX2_newestMark 14 = .ok (.getfield 24, 3) := by decide +kernel
theorem dX2_newestMark_17 : decode cX2_newestMark 17 = .ok (.invokevirtual 55, 3) := by decide +kernel
theorem dX2_newestMark_20 : decode cX2_newestMark 20 = .ok (.if_icmp .ge 30, 3) := by decide +kernel
theorem dX2_newestMark_23 : decode cX2_newestMark 23 = .ok (.iload_n 2, 1) := by decide +kernel
theorem dX2_newestMark_24 : decode cX2_newestMark 24 = .ok (.aload_n 0, 1) := by decide +kernel
theorem dX2_newestMark_25 : decode cX2_newestMark 25 = .ok (.getfield 24, 3) := by decide +kernel
theorem dX2_newestMark_28 : decode cX2_newestMark 28 = .ok (.iload_n 3, 1) := by decide +kernel
theorem dX2_newestMark_29 : decode cX2_newestMark 29 = .ok (.invokevirtual 58, 3) := by decide +kernel
theorem dX2_newestMark_32 : decode cX2_newestMark 32 = .ok (.checkcast 62, 3) := by decide +kernel
theorem dX2_newestMark_35 : decode cX2_newestMark 35 = .ok (.getfield 77, 3) := by decide +kernel
theorem dX2_newestMark_38 : decode cX2_newestMark 38 = .ok (.iload_n 1, 1) := by decide +kernel
theorem dX2_newestMark_39 : decode cX2_newestMark 39 = .ok (.iaload, 1) := by decide +kernel
theorem dX2_newestMark_40 : decode cX2_newestMark 40 = .ok (.invokestatic 80, 3) := by decide +kernel
theorem dX2_newestMark_43 : decode cX2_newestMark 43 = .ok (.istore_n 2, 1) := by decide +kernel
theorem dX2_newestMark_44 : decode cX2_newestMark 44 = .ok (.iinc 3 1, 3) := by decide +kernel
theorem dX2_newestMark_47 : decode cX2_newestMark 47 = .ok (.goto (-43), 3) := by decide +kernel
theorem dX2_newestMark_50 : decode cX2_newestMark 50 = .ok (.iload_n 2, 1) := by decide +kernel
theorem dX2_newestMark_51 : decode cX2_newestMark 51 = .ok (.ireturn, 1) := by decide +kernel
theorem dX2_addMark_0 : decode cX2_addMark 0 = .ok (.aload_n 0, 1) := by decide +kernel
theorem dX2_addMark_1 : decode cX2_addMark 1 = .ok (.getfield 33, 3) := by decide +kernel
theorem dX2_addMark_4 : decode cX2_addMark 4 = .ok (.aload_n 0, 1) := by decide +kernel
theorem dX2_addMark_5 : decode cX2_addMark 5 = .ok (.getfield 24, 3) := by decide +kernel
theorem dX2_addMark_8 : decode cX2_addMark 8 = .ok (.invokevirtual 55, 3) := by decide +kernel
theorem dX2_addMark_11 : decode cX2_addMark 11 = .ok (.if_icmp .lt 18, 3) := by decide +kernel
theorem dX2_addMark_14 : decode cX2_addMark 14 = .ok (.aload_n 0, 1) := by decide +kernel
theorem dX2_addMark_15 : decode cX2_addMark 15 = .ok (.getfield 24, 3) := by decide +kernel
theorem dX2_addMark_18 : decode cX2_addMark 18 = .ok (.new 62, 3) := by decide +kernel
theorem dX2_addMark_21 : decode cX2_addMark 21 = .ok (.dup, 1) := by decide +kernel
theorem dX2_addMark_22 : decode cX2_addMark 22 = .ok (.invokespecial 86, 3) := by decide +kernel
theorem dX2_addMark_25 : decode cX2_addMark 25 = .ok (.invokevirtual 87, 3) := by decide +kernel
theorem dX2_addMark_28 : decode cX2_addMark 28 = .ok (.pop, 1) := by decide +kernel
theorem dX2_addMark_29 : decode cX2_addMark 29 = .ok (.aload_n 0, 1) := by decide +kernel
theorem dX2_addMark_30 : decode cX2_addMark 30 = .ok (.getfield 33, 3) := by decide +kernel
theorem dX2_addMark_33 : decode cX2_addMark 33 = .ok (.aload_n 0, 1) := by decide +kernel
theorem dX2_addMark_34 : decode cX2_addMark 34 = .ok (.getfield 24, 3) := by decide +kernel
theorem dX2_addMark_37 : decode cX2_addMark 37 = .ok (.invokevirtual 55, 3) := by decide +kernel
theorem dX2_addMark_40 : decode cX2_addMark 40 = .ok (.if_icmp .ge 41, 3) := by decide +kernel
theorem dX2_addMark_43 : decode cX2_addMark 43 = .ok (.aload_n 0, 1) := by decide +kernel
theorem dX2_addMark_44 : decode cX2_addMark 44 = .ok (.getfield 24, 3) := by decide +kernel
theorem dX2_addMark_47 : decode cX2_addMark 47 = .ok (.aload_n 0, 1) := by decide +kernel
theorem dX2_addMark_48 : decode cX2_addMark 48 = .ok (.getfield 33, 3) := by decide +kernel
theorem dX2_addMark_51 : decode cX2_addMark 51 = .ok (.invokevirtual 58, 3) := by decide +kernel
theorem dX2_addMark_54 : decode cX2_addMark 54 = .ok (.checkcast 62, 3) := by decide +kernel
theorem dX2_addMark_57 : decode cX2_addMark 57 = .ok (.aload_n 0, 1) := by decide +kernel
theorem dX2_addMark_58 : decode cX2_addMark 58 = .ok (.getfield 17, 3) := by decide +kernel
theorem dX2_addMark_61 : decode cX2_addMark 61 = .ok (.iload_n 1, 1) := by decide +kernel
theorem dX2_addMark_62 : decode cX2_addMark 62 = .ok (.aaload, 1) := by decide +kernel
theorem dX2_addMark_63 : decode cX2_addMark 63 = .ok (.getfield 91, 3) := by decide +kernel
theorem dX2_addMark_66 : decode cX2_addMark 66 = .ok (.iload_n 1, 1) := by decide +kernel
theorem dX2_addMark_67 : decode cX2_addMark 67 = .ok (.iload_n 2, 1) := by decide +kernel
theorem dX2_addMark_68 : decode cX2_addMark 68 = .ok (.invokevirtual 92, 3) := by decide +kernel
theorem dX2_addMark_71 : decode cX2_addMark 71 = .ok (.aload_n 0, 1) := by decide +kernel
theorem dX2_addMark_72 : decode cX2_addMark 72 = .ok (.dup, 1) := by decide +kernel
theorem dX2_addMark_73 : decode cX2_addMark 73 = .ok (.getfield 33, 3) := by decide +kernel
theorem dX2_addMark_76 : decode cX2_addMark 76 = .ok (.iconst 1, 1) := by decide +kernel
theorem dX2_addMark_77 : decode cX2_addMark 77 = .ok (.iadd, 1) := by decide +kernel
theorem dX2_addMark_78 : decode cX2_addMark 78 = .ok (.putfield 33, 3) := by decide +kernel
theorem dX2_addMark_81 : decode cX2_addMark 81 = .ok (.return_, 1) := by decide +kernel
theorem dX2_forget_0 : decode cX2_forget 0 = .ok (.aload_n 0, 1) := by decide +kernel
theorem dX2_forget_1 : decode cX2_forget 1 = .ok (.getfield 17, 3) := by decide +kernel
theorem dX2_forget_4 : decode cX2_forget 4 = .ok (.iload_n 1, 1) := by decide +kernel
theorem dX2_forget_5 : decode cX2_forget 5 = .ok (.aaload, 1) := by decide +kernel
theorem dX2_forget_6 : decode cX2_forget 6 = .ok (.astore_n 2, 1) := by decide +kernel
theorem dX2_forget_7 : decode cX2_forget 7 = .ok (.aload_n 2, 1) := by decide +kernel
theorem dX2_forget_8 : decode cX2_forget 8 = .ok (.iconst 1, 1) := by decide +kernel
theorem dX2_forget_9 : decode cX2_forget 9 = .ok (.putfield 96, 3) := by decide +kernel
theorem dX2_forget_12 : decode cX2_forget 12 = .ok (.aload_n 2, 1) := by decide +kernel
theorem dX2_forget_13 : decode cX2_forget 13 = .ok (.getfield 99, 3) := by decide +kernel
theorem dX2_forget_16 : decode cX2_forget 16 = .ok (.aload_n 2, 1) := by decide +kernel
theorem dX2_forget_17 : decode cX2_forget 17 = .ok (.getfield 91, 3) := by decide +kernel
theorem dX2_forget_20 : decode cX2_forget 20 = .ok (.invokevirtual 102, 3) := by decide +kernel
theorem dX2_forget_23 : decode cX2_forget 23 = .ok (.iconst 0, 1) := by decide +kernel
theorem dX2_forget_24 : decode cX2_forget 24 = .ok (.istore_n 3, 1) := by decide +kernel
theorem dX2_forget_25 : decode cX2_forget 25 = .ok (.iload_n 3, 1) := by decide +kernel
theorem dX2_forget_26 : decode cX2_forget 26 = .ok (.aload_n 0, 1) := by decide +kernel
theorem dX2_forget_27 : decode cX2_forget 27 = .ok (.getfield 33, 3) := by decide +kernel
theorem dX2_forget_30 : decode cX2_forget 30 = .ok (.if_icmp .ge 62, 3) := by decide +kernel
theorem dX2_forget_33 : decode cX2_forget 33 = .ok (.iload_n 3, 1) := by decide +kernel
theorem dX2_forget_34 : decode cX2_forget 34 = .ok (.aload_n 0, 1) := by decide +kernel
theorem dX2_forget_35 : decode cX2_forget 35 = .ok (.getfield 24, 3) := by decide +kernel
theorem dX2_forget_38 : decode cX2_forget 38 = .ok (.invokevirtual 55, 3) := by decide +kernel
theorem dX2_forget_41 : decode cX2_forget 41 = .ok (.if_icmp .ge 51, 3) := by decide +kernel
theorem dX2_forget_44 : decode cX2_forget 44 = .ok (.aload_n 0, 1) := by decide +kernel
theorem dX2_forget_45 : decode cX2_forget 45 = .ok (.getfield 24, 3) := by decide +kernel
theorem dX2_forget_48 : decode cX2_forget 48 = .ok (.iload_n 3, 1) := by decide +kernel
theorem dX2_forget_49 : decode cX2_forget 49 = .ok (.invokevirtual 58, 3) := by decide +kernel
theorem dX2_forget_52 : decode cX2_forget 52 = .ok (.checkcast 62, 3) := by decide +kernel
theorem dX2_forget_55 : decode cX2_forget 55 = .ok (.astore 4, 2) := by decide +kernel
theorem dX2_forget_57 : decode cX2_forget 57 = .ok (.aload 4, 2) := by decide +kernel
theorem dX2_forget_59 : decode cX2_forget 59 = .ok (.iload_n 1, 1) := by decide +kernel
theorem dX2_forget_60 : decode cX2_forget 60 = .ok (.invokevirtual 64, 3) := by decide +kernel
theorem dX2_forget_63 : decode cX2_forget 63 = .ok (.ifCond .eq 23, 3) := by decide +kernel
theorem dX2_forget_66 : decode cX2_forget 66 = .ok (.aload_n 2, 1) := by decide +kernel
theorem dX2_forget_67 : decode cX2_forget 67 = .ok (.getfield 99, 3) := by decide +kernel
theorem dX2_forget_70 : decode cX2_forget 70 = .ok (.aload 4, 2) := by decide +kernel
theorem dX2_forget_72 : decode cX2_forget 72 = .ok (.getfield 67, 3) := by decide +kernel
theorem dX2_forget_75 : decode cX2_forget 75 = .ok (.invokevirtual 102, 3) := by decide +kernel
theorem dX2_forget_78 : decode cX2_forget 78 = .ok (.aload 4, 2) := by decide +kernel
theorem dX2_forget_80 : decode cX2_forget 80 = .ok (.getfield 77, 3) := by decide +kernel
theorem dX2_forget_83 : decode cX2_forget 83 = .ok (.iload_n 1, 1) := by decide +kernel
theorem dX2_forget_84 : decode cX2_forget 84 = .ok (.iconst (-1), 1) := by decide +kernel
theorem dX2_forget_85 : decode cX2_forget 85 = .ok (.iastore, 1) := by decide +kernel
theorem dX2_forget_86 : decode cX2_forget 86 = .ok (.iinc 3 1, 3) := by decide +kernel
theorem dX2_forget_89 : decode cX2_forget 89 = .ok (.goto (-64), 3) := by decide +kernel
theorem dX2_forget_92 : decode cX2_forget 92 = .ok (.aload_n 2, 1) := by decide +kernel
theorem dX2_forget_93 : decode cX2_forget 93 = .ok (.iconst 0, 1) := by decide +kernel
theorem dX2_forget_94 : decode cX2_forget 94 = .ok (.putfield 43, 3) := by decide +kernel
theorem dX2_forget_97 : decode cX2_forget 97 = .ok (.aload_n 2, 1) := by decide +kernel
theorem dX2_forget_98 : decode cX2_forget 98 = .ok (.iconst 0, 1) := by decide +kernel
theorem dX2_forget_99 : decode cX2_forget 99 = .ok (.invokevirtual 106, 3) := by decide +kernel
theorem dX2_forget_102 : decode cX2_forget 102 = .ok (.return_, 1) := by decide +kernel
theorem dX2_forgetWhereOld_0 : decode cX2_forgetWhereOld 0 = .ok (.iconst 0, 1) := by decide +kernel
theorem dX2_forgetWhereOld_1 : decode cX2_forgetWhereOld 1 = .ok (.istore_n 2, 1) := by decide +kernel
theorem dX2_forgetWhereOld_2 : decode cX2_forgetWhereOld 2 = .ok (.iconst 0, 1) := by decide +kernel
theorem dX2_forgetWhereOld_3 : decode cX2_forgetWhereOld 3 = .ok (.istore_n 3, 1) := by decide +kernel
theorem dX2_forgetWhereOld_4 : decode cX2_forgetWhereOld 4 = .ok (.iload_n 3, 1) := by decide +kernel
theorem dX2_forgetWhereOld_5 : decode cX2_forgetWhereOld 5 = .ok (.bipush 6, 2) := by decide +kernel
theorem dX2_forgetWhereOld_7 : decode cX2_forgetWhereOld 7 = .ok (.if_icmp .ge 38, 3) := by decide +kernel
theorem dX2_forgetWhereOld_10 : decode cX2_forgetWhereOld 10 = .ok (.aload_n 0, 1) := by decide +kernel
theorem dX2_forgetWhereOld_11 : decode cX2_forgetWhereOld 11 = .ok (.iload_n 3, 1) := by decide +kernel
theorem dX2_forgetWhereOld_12 : decode cX2_forgetWhereOld 12 = .ok (.invokevirtual 110, 3) := by decide +kernel
theorem dX2_forgetWhereOld_15 : decode cX2_forgetWhereOld 15 = .ok (.iconst 2, 1) := by decide +kernel
theorem dX2_forgetWhereOld_16 : decode cX2_forgetWhereOld 16 = .ok (.if_icmp .ne 23, 3) := by decide +kernel
theorem dX2_forgetWhereOld_19 : decode cX2_forgetWhereOld 19 = .ok (.iload_n 1, 1) := by decide +kernel
theorem dX2_forgetWhereOld_20 : decode cX2_forgetWhereOld 20 = .ok (.aload_n 0, 1) := by decide +kernel
theorem dX2_forgetWhereOld_21 : decode cX2_forgetWhereOld 21 = .ok (.iload_n 3, 1) := by decide +kernel
theorem dX2_forgetWhereOld_22 : decode cX2_forgetWhereOld 22 = .ok (.invokevirtual 113, 3) := by decide +kernel
theorem dX2_forgetWhereOld_25 : decode cX2_forgetWhereOld 25 = .ok (.isub, 1) := by decide +kernel
theorem dX2_forgetWhereOld_26 : decode cX2_forgetWhereOld 26 = .ok (.bipush 12, 2) := by decide +kernel
theorem dX2_forgetWhereOld_28 : decode cX2_forgetWhereOld 28 = .ok (.if_icmp .le 11, 3) := by decide +kernel
theorem dX2_forgetWhereOld_31 : decode cX2_forgetWhereOld 31 = .ok (.aload_n 0, 1) := by decide +kernel
theorem dX2_forgetWhereOld_32 : decode cX2_forgetWhereOld 32 = .ok (.iload_n 3, 1) := by decide +kernel
theorem dX2_forgetWhereOld_33 : decode cX2_forgetWhereOld 33 = .ok (.invokevirtual 116, 3) := by decide +kernel
theorem dX2_forgetWhereOld_36 : decode cX2_forgetWhereOld 36 = .ok (.iinc 2 1, 3) := by decide +kernel
theorem dX2_forgetWhereOld_39 : decode cX2_forgetWhereOld 39 = .ok (.iinc 3 1, 3) := by decide +kernel
theorem dX2_forgetWhereOld_42 : decode cX2_forgetWhereOld 42 = .ok (.goto (-38), 3) := by decide +kernel
theorem dX2_forgetWhereOld_45 : decode cX2_forgetWhereOld 45 = .ok (.iload_n 2, 1) := by decide +kernel
theorem dX2_forgetWhereOld_46 : decode cX2_forgetWhereOld 46 = .ok (.ireturn, 1) := by decide +kernel
theorem dX2_mergeOn_0 : decode cX2_mergeOn 0 = .ok (.aload_n 0, 1) := by decide +kernel
theorem dX2_mergeOn_1 : decode cX2_mergeOn 1 = .ok (.iload_n 1, 1) := by decide +kernel
theorem dX2_mergeOn_2 : decode cX2_mergeOn 2 = .ok (.invokevirtual 119, 3) := by decide +kernel
theorem dX2_mergeOn_5 : decode cX2_mergeOn 5 = .ok (.aload_n 0, 1) := by decide +kernel
theorem dX2_mergeOn_6 : decode cX2_mergeOn 6 = .ok (.iload_n 2, 1) := by decide +kernel
theorem dX2_mergeOn_7 : decode cX2_mergeOn 7 = .ok (.invokevirtual 119, 3) := by decide +kernel
theorem dX2_mergeOn_10 : decode cX2_mergeOn 10 = .ok (.iand, 1) := by decide +kernel
theorem dX2_mergeOn_11 : decode cX2_mergeOn 11 = .ok (.istore 4, 2) := by decide +kernel
theorem dX2_mergeOn_13 : decode cX2_mergeOn 13 = .ok (.iload 4, 2) := by decide +kernel
theorem dX2_mergeOn_15 : decode cX2_mergeOn 15 = .ok (.ifCond .ne 5, 3) := by decide +kernel
theorem dX2_mergeOn_18 : decode cX2_mergeOn 18 = .ok (.iconst 0, 1) := by decide +kernel
theorem dX2_mergeOn_19 : decode cX2_mergeOn 19 = .ok (.ireturn, 1) := by decide +kernel
theorem dX2_mergeOn_20 : decode cX2_mergeOn 20 = .ok (.iconst 0, 1) := by decide +kernel
theorem dX2_mergeOn_21 : decode cX2_mergeOn 21 = .ok (.istore 5, 2) := by decide +kernel
theorem dX2_mergeOn_23 : decode cX2_mergeOn 23 = .ok (.aload_n 0, 1) := by decide +kernel
theorem dX2_mergeOn_24 : decode cX2_mergeOn 24 = .ok (.iload_n 1, 1) := by decide +kernel
theorem dX2_mergeOn_25 : decode cX2_mergeOn 25 = .ok (.iload_n 2, 1) := by decide +kernel
theorem dX2_mergeOn_26 : decode cX2_mergeOn 26 = .ok (.invokevirtual 122, 3) := by decide +kernel
theorem dX2_mergeOn_29 : decode cX2_mergeOn 29 = .ok (.ifCond .eq 15, 3) := by decide +kernel
theorem dX2_mergeOn_32 : decode cX2_mergeOn 32 = .ok (.aload_n 0, 1) := by decide +kernel
theorem dX2_mergeOn_33 : decode cX2_mergeOn 33 = .ok (.iload_n 1, 1) := by decide +kernel
theorem dX2_mergeOn_34 : decode cX2_mergeOn 34 = .ok (.invokevirtual 116, 3) := by decide +kernel
theorem dX2_mergeOn_37 : decode cX2_mergeOn 37 = .ok (.bipush 100, 2) := by decide +kernel
theorem dX2_mergeOn_39 : decode cX2_mergeOn 39 = .ok (.istore 5, 2) := by decide +kernel
theorem dX2_mergeOn_41 : decode cX2_mergeOn 41 = .ok (.goto 59, 3) := by decide +kernel
theorem dX2_mergeOn_44 : decode cX2_mergeOn 44 = .ok (.aload_n 0, 1) := by decide +kernel
theorem dX2_mergeOn_45 : decode cX2_mergeOn 45 = .ok (.iload_n 2, 1) := by decide +kernel
theorem dX2_mergeOn_46 : decode cX2_mergeOn 46 = .ok (.iload_n 1, 1) := by decide +kernel
theorem dX2_mergeOn_47 : decode cX2_mergeOn 47 = .ok (.invokevirtual 122, 3) := by decide +kernel
theorem dX2_mergeOn_50 : decode cX2_mergeOn 50 = .ok (.ifCond .eq 15, 3) := by decide +kernel
theorem dX2_mergeOn_53 : decode cX2_mergeOn 53 = .ok (.aload_n 0, 1) := by decide +kernel
theorem dX2_mergeOn_54 : decode cX2_mergeOn 54 = .ok (.iload_n 2, 1) := by decide +kernel
theorem dX2_mergeOn_55 : decode cX2_mergeOn 55 = .ok (.invokevirtual 116, 3) := by decide +kernel
theorem dX2_mergeOn_58 : decode cX2_mergeOn 58 = .ok (.bipush 100, 2) := by decide +kernel
theorem dX2_mergeOn_60 : decode cX2_mergeOn 60 = .ok (.istore 5, 2) := by decide +kernel
theorem dX2_mergeOn_62 : decode cX2_mergeOn 62 = .ok (.goto 38, 3) := by decide +kernel
theorem dX2_mergeOn_65 : decode cX2_mergeOn 65 = .ok (.aload_n 0, 1) := by decide +kernel
theorem dX2_mergeOn_66 : decode cX2_mergeOn 66 = .ok (.getfield 17, 3) := by decide +kernel
theorem dX2_mergeOn_69 : decode cX2_mergeOn 69 = .ok (.iload_n 1, 1) := by decide +kernel
theorem dX2_mergeOn_70 : decode cX2_mergeOn 70 = .ok (.aaload, 1) := by decide +kernel
theorem dX2_mergeOn_71 : decode cX2_mergeOn 71 = .ok (.getfield 43, 3) := by decide +kernel
theorem dX2_mergeOn_74 : decode cX2_mergeOn 74 = .ok (.ifCond .ne 15, 3) := by decide +kernel
theorem dX2_mergeOn_77 : decode cX2_mergeOn 77 = .ok (.aload_n 0, 1) := by decide +kernel
theorem dX2_mergeOn_78 : decode cX2_mergeOn 78 = .ok (.getfield 17, 3) := by decide +kernel
theorem dX2_mergeOn_81 : decode cX2_mergeOn 81 = .ok (.iload_n 2, 1) := by decide +kernel
theorem dX2_mergeOn_82 : decode cX2_mergeOn 82 = .ok (.aaload, 1) := by decide +kernel
theorem dX2_mergeOn_83 : decode cX2_mergeOn 83 = .ok (.getfield 43, 3) := by decide +kernel
theorem dX2_mergeOn_86 : decode cX2_mergeOn 86 = .ok (.ifCond .eq 14, 3) := by decide +kernel
theorem dX2_mergeOn_89 : decode cX2_mergeOn 89 = .ok (.aload_n 0, 1) := by decide +kernel
theorem dX2_mergeOn_90 : decode cX2_mergeOn 90 = .ok (.iload_n 1, 1) := by decide +kernel
theorem dX2_mergeOn_91 : decode cX2_mergeOn 91 = .ok (.iload_n 2, 1) := by decide +kernel
theorem dX2_mergeOn_92 : decode cX2_mergeOn 92 = .ok (.iload 4, 2) := by decide +kernel
theorem dX2_mergeOn_94 : decode cX2_mergeOn 94 = .ok (.iload_n 3, 1) := by decide +kernel
theorem dX2_mergeOn_95 : decode cX2_mergeOn 95 = .ok (.invokevirtual 126, 3) := by decide +kernel
theorem dX2_mergeOn_98 : decode cX2_mergeOn 98 = .ok (.istore 5, 2) := by decide +kernel
theorem dX2_mergeOn_100 : decode cX2_mergeOn 100 = .ok (.aload_n 0, 1) := by decide +kernel
theorem dX2_mergeOn_101 : decode cX2_mergeOn 101 = .ok (.getfield 17, 3) := by decide +kernel
theorem dX2_mergeOn_104 : decode cX2_mergeOn 104 = .ok (.iload_n 1, 1) := by decide +kernel
theorem dX2_mergeOn_105 : decode cX2_mergeOn 105 = .ok (.aaload, 1) := by decide +kernel
theorem dX2_mergeOn_106 : decode cX2_mergeOn 106 = .ok (.getfield 43, 3) := by decide +kernel
theorem dX2_mergeOn_109 : decode cX2_mergeOn 109 = .ok (.ifCond .ne 30, 3) := by decide +kernel
theorem dX2_mergeOn_112 : decode cX2_mergeOn 112 = .ok (.aload_n 0, 1) := by decide +kernel
theorem dX2_mergeOn_113 : decode cX2_mergeOn 113 = .ok (.getfield 17, 3) := by decide +kernel
theorem dX2_mergeOn_116 : decode cX2_mergeOn 116 = .ok (.iload_n 2, 1) := by decide +kernel
theorem dX2_mergeOn_117 : decode cX2_mergeOn 117 = .ok (.aaload, 1) := by decide +kernel
theorem dX2_mergeOn_118 : decode cX2_mergeOn 118 = .ok (.getfield 43, 3) := by decide +kernel
theorem dX2_mergeOn_121 : decode cX2_mergeOn 121 = .ok (.ifCond .ne 18, 3) := by decide +kernel
theorem dX2_mergeOn_124 : decode cX2_mergeOn 124 = .ok (.aload_n 0, 1) := by decide +kernel
theorem dX2_mergeOn_125 : decode cX2_mergeOn 125 = .ok (.getfield 17, 3) := by decide +kernel
theorem dX2_mergeOn_128 : decode cX2_mergeOn 128 = .ok (.iload_n 1, 1) := by decide +kernel
theorem dX2_mergeOn_129 : decode cX2_mergeOn 129 = .ok (.aaload, 1) := by decide +kernel
theorem dX2_mergeOn_130 : decode cX2_mergeOn 130 = .ok (.aload_n 0, 1) := by decide +kernel
theorem dX2_mergeOn_131 : decode cX2_mergeOn 131 = .ok (.getfield 17, 3) := by decide +kernel
theorem dX2_mergeOn_134 : decode cX2_mergeOn 134 = .ok (.iload_n 2, 1) := by decide +kernel
theorem dX2_mergeOn_135 : decode cX2_mergeOn 135 = .ok (.aaload, 1) := by decide +kernel
theorem dX2_mergeOn_136 : decode cX2_mergeOn 136 = .ok (.invokevirtual 130, 3) := by decide +kernel
theorem dX2_mergeOn_139 : decode cX2_mergeOn 139 = .ok (.iload 5, 2) := by decide +kernel
theorem dX2_mergeOn_141 : decode cX2_mergeOn 141 = .ok (.ireturn, 1) := by decide +kernel
theorem dX2_isOutdated_0 : decode cX2_isOutdated 0 = .ok (.aload_n 0, 1) := by decide +kernel
theorem dX2_isOutdated_1 : decode cX2_isOutdated 1 = .ok (.getfield 17, 3) := by decide +kernel
theorem dX2_isOutdated_4 : decode cX2_isOutdated 4 = .ok (.iload_n 1, 1) := by decide +kernel
theorem dX2_isOutdated_5 : decode cX2_isOutdated 5 = .ok (.aaload, 1) := by decide +kernel
theorem dX2_isOutdated_6 : decode cX2_isOutdated 6 = .ok (.astore_n 3, 1) := by decide +kernel
theorem dX2_isOutdated_7 : decode cX2_isOutdated 7 = .ok (.aload_n 0, 1) := by decide +kernel
theorem dX2_isOutdated_8 : decode cX2_isOutdated 8 = .ok (.getfield 17, 3) := by decide +kernel
theorem dX2_isOutdated_11 : decode cX2_isOutdated 11 = .ok (.iload_n 2, 1) := by decide +kernel
theorem dX2_isOutdated_12 : decode cX2_isOutdated 12 = .ok (.aaload, 1) := by decide +kernel
theorem dX2_isOutdated_13 : decode cX2_isOutdated 13 = .ok (.astore 4, 2) := by decide +kernel
theorem dX2_isOutdated_15 : decode cX2_isOutdated 15 = .ok (.aload_n 3, 1) := by decide +kernel
theorem dX2_isOutdated_16 : decode cX2_isOutdated 16 = .ok (.getfield 43, 3) := by decide +kernel
theorem dX2_isOutdated_19 : decode cX2_isOutdated 19 = .ok (.ifCond .eq 35, 3) := by decide +kernel
theorem dX2_isOutdated_22 : decode cX2_isOutdated 22 = .ok (.aload 4, 2) := by decide +kernel
theorem dX2_isOutdated_24 : decode cX2_isOutdated 24 = .ok (.getfield 43, 3) := by decide +kernel
theorem dX2_isOutdated_27 : decode cX2_isOutdated 27 = .ok (.ifCond .ne 27, 3) := by decide +kernel
theorem dX2_isOutdated_30 : decode cX2_isOutdated 30 = .ok (.aload 4, 2) := by decide +kernel
theorem dX2_isOutdated_32 : decode cX2_isOutdated 32 = .ok (.getfield 96, 3) := by decide +kernel
theorem dX2_isOutdated_35 : decode cX2_isOutdated 35 = .ok (.ifCond .eq 19, 3) := by decide +kernel
theorem dX2_isOutdated_38 : decode cX2_isOutdated 38 = .ok (.aload 4, 2) := by decide +kernel
theorem dX2_isOutdated_40 : decode cX2_isOutdated 40 = .ok (.getfield 99, 3) := by decide +kernel
theorem dX2_isOutdated_43 : decode cX2_isOutdated 43 = .ok (.aload_n 3, 1) := by decide +kernel
theorem dX2_isOutdated_44 : decode cX2_isOutdated 44 = .ok (.invokevirtual 71, 3) := by decide +kernel
theorem dX2_isOutdated_47 : decode cX2_isOutdated 47 = .ok (.ifCond .eq 7, 3) := by decide +kernel
theorem dX2_isOutdated_50 : decode cX2_isOutdated 50 = .ok (.iconst 1, 1) := by decide +kernel
theorem dX2_isOutdated_51 : decode cX2_isOutdated 51 = .ok (.goto 4, 3) := by decide +kernel
theorem dX2_isOutdated_54 : decode cX2_isOutdated 54 = .ok (.iconst 0, 1) := by decide +kernel
theorem dX2_isOutdated_55 : decode cX2_isOutdated 55 = .ok (.ireturn, 1) := by decide +kernel
theorem dX2_braid_0 : decode cX2_braid 0 = .ok (.aload_n 0, 1) := by decide +kernel
theorem dX2_braid_1 : decode cX2_braid 1 = .ok (.getfield 17, 3) := by decide +kernel
theorem dX2_braid_4 : decode cX2_braid 4 = .ok (.iload_n 1, 1) := by decide +kernel
theorem dX2_braid_5 : decode cX2_braid 5 = .ok (.aaload, 1) := by decide +kernel
theorem dX2_braid_6 : decode cX2_braid 6 = .ok (.iconst 1, 1) := by decide +kernel
theorem dX2_braid_7 : decode cX2_braid 7 = .ok (.putfield 43, 3) := by decide +kernel
theorem dX2_braid_10 : decode cX2_braid 10 = .ok (.aload_n 0, 1) := by decide +kernel
theorem dX2_braid_11 : decode cX2_braid 11 = .ok (.getfield 17, 3) := by decide +kernel
theorem dX2_braid_14 : decode cX2_braid 14 = .ok (.iload_n 2, 1) := by decide +kernel
theorem dX2_braid_15 : decode cX2_braid 15 = .ok (.aaload, 1) := by decide +kernel
theorem dX2_braid_16 : decode cX2_braid 16 = .ok (.iconst 1, 1) := by decide +kernel
theorem dX2_braid_17 : decode cX2_braid 17 = .ok (.putfield 43, 3) := by decide +kernel
theorem dX2_braid_20 : decode cX2_braid 20 = .ok (.iconst 0, 1) := by decide +kernel
theorem dX2_braid_21 : decode cX2_braid 21 = .ok (.istore 5, 2) := by decide +kernel
theorem dX2_braid_23 : decode cX2_braid 23 = .ok (.iconst 0, 1) := by decide +kernel
theorem dX2_braid_24 : decode cX2_braid 24 = .ok (.istore 6, 2) := by decide +kernel
theorem dX2_braid_26 : decode cX2_braid 26 = .ok (.iload 6, 2) := by decide +kernel
theorem dX2_braid_28 : decode cX2_braid 28 = .ok (.iconst 4, 1) := by decide +kernel
theorem dX2_braid_29 : decode cX2_braid 29 = .ok (.if_icmp .ge 40, 3) := by decide +kernel
theorem dX2_braid_32 : decode cX2_braid 32 = .ok (.iload_n 3, 1) := by decide +kernel
theorem dX2_braid_33 : decode cX2_braid 33 = .ok (.iload 6, 2) := by decide +kernel
theorem dX2_braid_35 : decode cX2_braid 35 = .ok (.invokestatic 134, 3) := by decide +kernel
theorem dX2_braid_38 : decode cX2_braid 38 = .ok (.ifCond .eq 25, 3) := by decide +kernel
theorem dX2_braid_41 : decode cX2_braid 41 = .ok (.iload 5, 2) := by decide +kernel
theorem dX2_braid_43 : decode cX2_braid 43 = .ok (.aload_n 0, 1) := by decide +kernel
theorem dX2_braid_44 : decode cX2_braid 44 = .ok (.getfield 17, 3) := by decide +kernel
theorem dX2_braid_47 : decode cX2_braid 47 = .ok (.iload_n 1, 1) := by decide +kernel
theorem dX2_braid_48 : decode cX2_braid 48 = .ok (.aaload, 1) := by decide +kernel
theorem dX2_braid_49 : decode cX2_braid 49 = .ok (.aload_n 0, 1) := by decide +kernel
theorem dX2_braid_50 : decode cX2_braid 50 = .ok (.getfield 17, 3) := by decide +kernel
theorem dX2_braid_53 : decode cX2_braid 53 = .ok (.iload_n 2, 1) := by decide +kernel
theorem dX2_braid_54 : decode cX2_braid 54 = .ok (.aaload, 1) := by decide +kernel
theorem dX2_braid_55 : decode cX2_braid 55 = .ok (.iload 6, 2) := by decide +kernel
theorem dX2_braid_57 : decode cX2_braid 57 = .ok (.invokevirtual 137, 3) := by decide +kernel
theorem dX2_braid_60 : decode cX2_braid 60 = .ok (.iadd, 1) := by decide +kernel
theorem dX2_braid_61 : decode cX2_braid 61 = .ok (.istore 5, 2) := by decide +kernel
theorem dX2_braid_63 : decode cX2_braid 63 = .ok (.iinc 6 1, 3) := by decide +kernel
theorem dX2_braid_66 : decode cX2_braid 66 = .ok (.goto (-40), 3) := by decide +kernel
theorem dX2_braid_69 : decode cX2_braid 69 = .ok (.iconst 0, 1) := by decide +kernel
theorem dX2_braid_70 : decode cX2_braid 70 = .ok (.istore 6, 2) := by decide +kernel
theorem dX2_braid_72 : decode cX2_braid 72 = .ok (.iload 6, 2) := by decide +kernel
theorem dX2_braid_74 : decode cX2_braid 74 = .ok (.aload_n 0, 1) := by decide +kernel
theorem dX2_braid_75 : decode cX2_braid 75 = .ok (.getfield 33, 3) := by decide +kernel
theorem dX2_braid_78 : decode cX2_braid 78 = .ok (.if_icmp .ge 40, 3) := by decide +kernel
theorem dX2_braid_81 : decode cX2_braid 81 = .ok (.iload 6, 2) := by decide +kernel
theorem dX2_braid_83 : decode cX2_braid 83 = .ok (.aload_n 0, 1) := by decide +kernel
theorem dX2_braid_84 : decode cX2_braid 84 = .ok (.getfield 24, 3) := by decide +kernel
theorem dX2_braid_87 : decode cX2_braid 87 = .ok (.invokevirtual 55, 3) := by decide +kernel
theorem dX2_braid_90 : decode cX2_braid 90 = .ok (.if_icmp .ge 28, 3) := by decide +kernel
theorem dX2_braid_93 : decode cX2_braid 93 = .ok (.aload_n 0, 1) := by decide +kernel
theorem dX2_braid_94 : decode cX2_braid 94 = .ok (.getfield 24, 3) := by decide +kernel
theorem dX2_braid_97 : decode cX2_braid 97 = .ok (.iload 6, 2) := by decide +kernel
theorem dX2_braid_99 : decode cX2_braid 99 = .ok (.invokevirtual 58, 3) := by decide +kernel
theorem dX2_braid_102 : decode cX2_braid 102 = .ok (.checkcast 62, 3) := by decide +kernel
theorem dX2_braid_105 : decode cX2_braid 105 = .ok (.iload_n 1, 1) := by decide +kernel
theorem dX2_braid_106 : decode cX2_braid 106 = .ok (.iload_n 2, 1) := by decide +kernel
theorem dX2_braid_107 : decode cX2_braid 107 = .ok (.iload 4, 2) := by decide +kernel
theorem dX2_braid_109 : decode cX2_braid 109 = .ok (.invokevirtual 140, 3) := by decide +kernel
theorem dX2_braid_112 : decode cX2_braid 112 = .ok (.iinc 6 1, 3) := by decide +kernel
theorem dX2_braid_115 : decode cX2_braid 115 = .ok (.goto (-43), 3) := by decide +kernel
theorem dX2_braid_118 : decode cX2_braid 118 = .ok (.iload 5, 2) := by decide +kernel
theorem dX2_braid_120 : decode cX2_braid 120 = .ok (.ireturn, 1) := by decide +kernel
theorem dX2_comparedFields_0 : decode cX2_comparedFields 0 = .ok (.aload_n 0, 1) := by decide +kernel
theorem dX2_comparedFields_1 : decode cX2_comparedFields 1 = .ok (.iload_n 1, 1) := by decide +kernel
theorem dX2_comparedFields_2 : decode cX2_comparedFields 2 = .ok (.invokevirtual 110, 3) := by decide +kernel
theorem dX2_comparedFields_5 : decode cX2_comparedFields 5 = .ok (.iconst 1, 1) := by decide +kernel
theorem dX2_comparedFields_6 : decode cX2_comparedFields 6 = .ok (.if_icmp .eq 14, 3) := by decide +kernel
theorem dX2_comparedFields_9 : decode cX2_comparedFields 9 = .ok (.aload_n 0, 1) := by decide +kernel
theorem dX2_comparedFields_10 : decode cX2_comparedFields 10 = .ok (.iload_n 2, 1) := by decide +kernel
theorem dX2_comparedFields_11 : decode cX2_comparedFields 11 = .ok (.invokevirtual 110, 3) := by decide +kernel
theorem dX2_comparedFields_14 : decode cX2_comparedFields 14 = .ok (.iconst 1, 1) := by decide +kernel
theorem dX2_comparedFields_15 : decode cX2_comparedFields 15 = .ok (.if_icmp .eq 5, 3) := by decide +kernel
theorem dX2_comparedFields_18 : decode cX2_comparedFields 18 = .ok (.iconst 0, 1) := by decide +kernel
theorem dX2_comparedFields_19 : decode cX2_comparedFields 19 = .ok (.ireturn, 1) := by decide +kernel
theorem dX2_comparedFields_20 : decode cX2_comparedFields 20 = .ok (.aload_n 0, 1) := by decide +kernel
theorem dX2_comparedFields_21 : decode cX2_comparedFields 21 = .ok (.iload_n 1, 1) := by decide +kernel
theorem dX2_comparedFields_22 : decode cX2_comparedFields 22 = .ok (.invokevirtual 119, 3) := by decide +kernel
theorem dX2_comparedFields_25 : decode cX2_comparedFields 25 = .ok (.aload_n 0, 1) := by decide +kernel
theorem dX2_comparedFields_26 : decode cX2_comparedFields 26 = .ok (.iload_n 2, 1) := by decide +kernel
theorem dX2_comparedFields_27 : decode cX2_comparedFields 27 = .ok (.invokevirtual 119, 3) := by decide +kernel
theorem dX2_comparedFields_30 : decode cX2_comparedFields 30 = .ok (.iand, 1) := by decide +kernel
theorem dX2_comparedFields_31 : decode cX2_comparedFields 31 = .ok (.ireturn, 1) := by decide +kernel
theorem dX2_countSame_0 : decode cX2_countSame 0 = .ok (.aload_n 0, 1) := by decide +kernel
theorem dX2_countSame_1 : decode cX2_countSame 1 = .ok (.iload_n 1, 1) := by decide +kernel
theorem dX2_countSame_2 : decode cX2_countSame 2 = .ok (.iload_n 2, 1) := by decide +kernel
theorem dX2_countSame_3 : decode cX2_countSame 3 = .ok (.invokevirtual 144, 3) := by decide +kernel
theorem dX2_countSame_6 : decode cX2_countSame 6 = .ok (.istore_n 3, 1) := by decide +kernel
theorem dX2_countSame_7 : decode cX2_countSame 7 = .ok (.iconst 0, 1) := by decide +kernel
theorem dX2_countSame_8 : decode cX2_countSame 8 = .ok (.istore 4, 2) := by decide +kernel
theorem dX2_countSame_10 : decode cX2_countSame 10 = .ok (.iconst 0, 1) := by decide +kernel
theorem dX2_countSame_11 : decode cX2_countSame 11 = .ok (.istore 5, 2) := by decide +kernel
theorem dX2_countSame_13 : decode cX2_countSame 13 = .ok (.iload 5, 2) := by decide +kernel
theorem dX2_countSame_15 : decode cX2_countSame 15 = .ok (.iconst 4, 1) := by decide +kernel
theorem dX2_countSame_16 : decode cX2_countSame 16 = .ok (.if_icmp .ge 41, 3) := by decide +kernel
theorem dX2_countSame_19 : decode cX2_countSame 19 = .ok (.iload_n 3, 1) := by decide +kernel
theorem dX2_countSame_20 : decode cX2_countSame 20 = .ok (.iload 5, 2) := by decide +kernel
theorem dX2_countSame_22 : decode cX2_countSame 22 = .ok (.invokestatic 134, 3) := by decide +kernel
theorem dX2_countSame_25 : decode cX2_countSame 25 = .ok (.ifCond .eq 26, 3) := by decide +kernel
theorem dX2_countSame_28 : decode cX2_countSame 28 = .ok (.aload_n 0, 1) := by decide +kernel
theorem dX2_countSame_29 : decode cX2_countSame 29 = .ok (.getfield 17, 3) := by decide +kernel
theorem dX2_countSame_32 : decode cX2_countSame 32 = .ok (.iload_n 1, 1) := by decide +kernel
theorem dX2_countSame_33 : decode cX2_countSame 33 = .ok (.aaload, 1) := by decide +kernel
theorem dX2_countSame_34 : decode cX2_countSame 34 = .ok (.aload_n 0, 1) := by decide +kernel
theorem dX2_countSame_35 : decode cX2_countSame 35 = .ok (.getfield 17, 3) := by decide +kernel
theorem dX2_countSame_38 : decode cX2_countSame 38 = .ok (.iload_n 2, 1) := by decide +kernel
theorem dX2_countSame_39 : decode cX2_countSame 39 = .ok (.aaload, 1) := by decide +kernel
theorem dX2_countSame_40 : decode cX2_countSame 40 = .ok (.iload 5, 2) := by decide +kernel
theorem dX2_countSame_42 : decode cX2_countSame 42 = .ok (.invokevirtual 147, 3) := by decide +kernel
theorem dX2_countSame_45 : decode cX2_countSame 45 = .ok (.ifCond .eq 6, 3) := by decide +kernel
theorem dX2_countSame_48 : decode cX2_countSame 48 = .ok (.iinc 4 1, 3) := by decide +kernel
theorem dX2_countSame_51 : decode cX2_countSame 51 = .ok (.iinc 5 1, 3) := by decide +kernel
theorem dX2_countSame_54 : decode cX2_countSame 54 = .ok (.goto (-41), 3) := by decide +kernel
theorem dX2_countSame_57 : decode cX2_countSame 57 = .ok (.iload 4, 2) := by decide +kernel
theorem dX2_countSame_59 : decode cX2_countSame 59 = .ok (.ireturn, 1) := by decide +kernel
theorem dX3_init_0 : decode cX3_init 0 = .ok (.aload_n 0, 1) := by decide +kernel
theorem dX3_init_1 : decode cX3_init 1 = .ok (.invokespecial 1, 3) := by decide +kernel
theorem dX3_init_4 : decode cX3_init 4 = .ok (.aload_n 0, 1) := by decide +kernel
theorem dX3_init_5 : decode cX3_init 5 = .ok (.sipush 512, 3) := by decide +kernel
theorem dX3_init_8 : decode cX3_init 8 = .ok (.newarray .int, 2) := by decide +kernel
theorem dX3_init_10 : decode cX3_init 10 = .ok (.putfield 9, 3) := by decide +kernel
theorem dX3_init_13 : decode cX3_init 13 = .ok (.aload_n 0, 1) := by decide +kernel
theorem dX3_init_14 : decode cX3_init 14 = .ok (.sipush 512, 3) := by decide +kernel
theorem dX3_init_17 : decode cX3_init 17 = .ok (.newarray .int, 2) := by decide +kernel
theorem dX3_init_19 : decode cX3_init 19 = .ok (.putfield 13, 3) := by decide +kernel
theorem dX3_init_22 : decode cX3_init 22 = .ok (.aload_n 0, 1) := by decide +kernel
theorem dX3_init_23 : decode cX3_init 23 = .ok (.sipush 512, 3) := by decide +kernel
theorem dX3_init_26 : decode cX3_init 26 = .ok (.newarray .int, 2) := by decide +kernel
theorem dX3_init_28 : decode cX3_init 28 = .ok (.putfield 16, 3) := by decide +kernel
theorem dX3_init_31 : decode cX3_init 31 = .ok (.aload_n 0, 1) := by decide +kernel
theorem dX3_init_32 : decode cX3_init 32 = .ok (.sipush 512, 3) := by decide +kernel
theorem dX3_init_35 : decode cX3_init 35 = .ok (.newarray .int, 2) := by decide +kernel
theorem dX3_init_37 : decode cX3_init 37 = .ok (.putfield 19, 3) := by decide +kernel
theorem dX3_init_40 : decode cX3_init 40 = .ok (.aload_n 0, 1) := by decide +kernel
theorem dX3_init_41 : decode cX3_init 41 = .ok (.sipush 512, 3) := by decide +kernel
theorem dX3_init_44 : decode cX3_init 44 = .ok (.newarray .int, 2) := by decide +kernel
theorem dX3_init_46 : decode cX3_init 46 = .ok (.putfield 22, 3) := by decide +kernel
theorem dX3_init_49 : decode cX3_init 49 = .ok (.return_, 1) := by decide +kernel
theorem dX3_isFull_0 : decode cX3_isFull 0 = .ok (.aload_n 0, 1) := by decide +kernel
theorem dX3_isFull_1 : decode cX3_isFull 1 = .ok (.getfield 25, 3) := by decide +kernel
theorem dX3_isFull_4 : decode cX3_isFull 4 = .ok (.sipush 512, 3) := by decide +kernel
theorem dX3_isFull_7 : decode cX3_isFull 7 = .ok (.if_icmp .lt 7, 3) := by decide +kernel
theorem dX3_isFull_10 : decode cX3_isFull 10 = .ok (.iconst 1, 1) := by decide +kernel
theorem dX3_isFull_11 : decode cX3_isFull 11 = .ok (.goto 4, 3) := by decide +kernel
theorem dX3_isFull_14 : decode cX3_isFull 14 = .ok (.iconst 0, 1) := by decide +kernel
theorem dX3_isFull_15 : decode cX3_isFull 15 = .ok (.ireturn, 1) := by decide +kernel
theorem dX3_write_0 : decode cX3_write 0 = .ok (.aload_n 0, 1) := by decide +kernel
theorem dX3_write_1 : decode cX3_write 1 = .ok (.invokevirtual 29, 3) := by decide +kernel
theorem dX3_write_4 : decode cX3_write 4 = .ok (.ifCond .eq 4, 3) := by decide +kernel
theorem dX3_write_7 : decode cX3_write 7 = .ok (.return_, 1) := by decide +kernel
theorem dX3_write_8 : decode cX3_write 8 = .ok (.aload_n 0, 1) := by decide +kernel
theorem dX3_write_9 : decode cX3_write 9 = .ok (.getfield 9, 3) := by decide +kernel
theorem dX3_write_12 : decode cX3_write 12 = .ok (.aload_n 0, 1) := by decide +kernel
theorem dX3_write_13 : decode cX3_write 13 = .ok (.getfield 25, 3) := by decide +kernel
theorem dX3_write_16 : decode cX3_write 16 = .ok (.iload_n 1, 1) := by decide +kernel
theorem dX3_write_17 : decode cX3_write 17 = .ok (.iastore, 1) := by decide +kernel
theorem dX3_write_18 : decode cX3_write 18 = .ok (.aload_n 0, 1) := by decide +kernel
theorem dX3_write_19 : decode cX3_write 19 = .ok (.getfield 13, 3) := by decide +kernel
theorem dX3_write_22 : decode cX3_write 22 = .ok (.aload_n 0, 1) := by decide +kernel
theorem dX3_write_23 : decode cX3_write 23 = .ok (.getfield 25, 3) := by decide +kernel
theorem dX3_write_26 : decode cX3_write 26 = .ok (.iload_n 2, 1) := by decide +kernel
theorem dX3_write_27 : decode cX3_write 27 = .ok (.iastore, 1) := by decide +kernel
theorem dX3_write_28 : decode cX3_write 28 = .ok (.aload_n 0, 1) := by decide +kernel
theorem dX3_write_29 : decode cX3_write 29 = .ok (.getfield 16, 3) := by decide +kernel
theorem dX3_write_32 : decode cX3_write 32 = .ok (.aload_n 0, 1) := by decide +kernel
theorem dX3_write_33 : decode cX3_write 33 = .ok (.getfield 25, 3) := by decide +kernel
theorem dX3_write_36 : decode cX3_write 36 = .ok (.iload_n 3, 1) := by decide +kernel
theorem dX3_write_37 : decode cX3_write 37 = .ok (.iastore, 1) := by decide +kernel
theorem dX3_write_38 : decode cX3_write 38 = .ok (.aload_n 0, 1) := by decide +kernel
theorem dX3_write_39 : decode cX3_write 39 = .ok (.getfield 19, 3) := by decide +kernel
theorem dX3_write_42 : decode cX3_write 42 = .ok (.aload_n 0, 1) := by decide +kernel
theorem dX3_write_43 : decode cX3_write 43 = .ok (.getfield 25, 3) := by decide +kernel
theorem dX3_write_46 : decode cX3_write 46 = .ok (.iload 4, 2) := by decide +kernel
theorem dX3_write_48 : decode cX3_write 48 = .ok (.iastore, 1) := by decide +kernel
theorem dX3_write_49 : decode cX3_write 49 = .ok (.aload_n 0, 1) := by decide +kernel
theorem dX3_write_50 : decode cX3_write 50 = .ok (.getfield 22, 3) := by decide +kernel
theorem dX3_write_53 : decode cX3_write 53 = .ok (.aload_n 0, 1) := by decide +kernel
theorem dX3_write_54 : decode cX3_write 54 = .ok (.getfield 25, 3) := by decide +kernel
theorem dX3_write_57 : decode cX3_write 57 = .ok (.iload 5, 2) := by decide +kernel
theorem dX3_write_59 : decode cX3_write 59 = .ok (.iastore, 1) := by decide +kernel
theorem dX3_write_60 : decode cX3_write 60 = .ok (.aload_n 0, 1) := by decide +kernel
theorem dX3_write_61 : decode cX3_write 61 = .ok (.dup, 1) := by decide +kernel
theorem dX3_write_62 : decode cX3_write 62 = .ok (.getfield 25, 3) := by decide +kernel
theorem dX3_write_65 : decode cX3_write 65 = .ok (.iconst 1, 1) := by decide +kernel
theorem dX3_write_66 : decode cX3_write 66 = .ok (.iadd, 1) := by decide +kernel
theorem dX3_write_67 : decode cX3_write 67 = .ok (.putfield 25, 3) := by decide +kernel
theorem dX3_write_70 : decode cX3_write 70 = .ok (.return_, 1) := by decide +kernel
theorem dX3_repeatOn_0 : decode cX3_repeatOn 0 = .ok (.iconst 0, 1) := by decide +kernel
theorem dX3_repeatOn_1 : decode cX3_repeatOn 1 = .ok (.istore_n 2, 1) := by decide +kernel
theorem dX3_repeatOn_2 : decode cX3_repeatOn 2 = .ok (.iload_n 2, 1) := by decide +kernel
theorem dX3_repeatOn_3 : decode cX3_repeatOn 3 = .ok (.sipush 512, 3) := by decide +kernel
theorem dX3_repeatOn_6 : decode cX3_repeatOn 6 = .ok (.if_icmp .ge 156, 3) := by decide +kernel
theorem dX3_repeatOn_9 : decode cX3_repeatOn 9 = .ok (.iload_n 2, 1) := by decide +kernel
theorem dX3_repeatOn_10 : decode cX3_repeatOn 10 = .ok (.aload_n 0, 1) := by decide +kernel
theorem dX3_repeatOn_11 : decode cX3_repeatOn 11 = .ok (.getfield 25, 3) := by decide +kernel
theorem dX3_repeatOn_14 : decode cX3_repeatOn 14 = .ok (.if_icmp .ge 148, 3) := by decide +kernel
theorem dX3_repeatOn_17 : decode cX3_repeatOn 17 = .ok (.aload_n 0, 1) := by decide +kernel
theorem dX3_repeatOn_18 : decode cX3_repeatOn 18 = .ok (.getfield 13, 3) := by decide +kernel
theorem dX3_repeatOn_21 : decode cX3_repeatOn 21 = .ok (.iload_n 2, 1) := by decide +kernel
theorem dX3_repeatOn_22 : decode cX3_repeatOn 22 = .ok (.iaload, 1) := by decide +kernel
theorem dX3_repeatOn_23 : decode cX3_repeatOn 23 = .ok (.istore_n 3, 1) := by decide +kernel
theorem dX3_repeatOn_24 : decode cX3_repeatOn 24 = .ok (.aload_n 0, 1) := by decide +kernel
theorem dX3_repeatOn_25 : decode cX3_repeatOn 25 = .ok (.getfield 16, 3) := by decide +kernel
theorem dX3_repeatOn_28 : decode cX3_repeatOn 28 = .ok (.iload_n 2, 1) := by decide +kernel
theorem dX3_repeatOn_29 : decode cX3_repeatOn 29 = .ok (.iaload, 1) := by decide +kernel
theorem dX3_repeatOn_30 : decode cX3_repeatOn 30 = .ok (.istore 4, 2) := by decide +kernel
theorem dX3_repeatOn_32 : decode cX3_repeatOn 32 = .ok (.aload_n 0, 1) := by decide +kernel
theorem dX3_repeatOn_33 : decode cX3_repeatOn 33 = .ok (.getfield 19, 3) := by decide +kernel
theorem dX3_repeatOn_36 : decode cX3_repeatOn 36 = .ok (.iload_n 2, 1) := by decide +kernel
theorem dX3_repeatOn_37 : decode cX3_repeatOn 37 = .ok (.iaload, 1) := by decide +kernel
theorem dX3_repeatOn_38 : decode cX3_repeatOn 38 = .ok (.istore 5, 2) := by decide +kernel
theorem dX3_repeatOn_40 : decode cX3_repeatOn 40 = .ok (.aload_n 0, 1) := by decide +kernel
theorem dX3_repeatOn_41 : decode cX3_repeatOn 41 = .ok (.getfield 9, 3) := by decide +kernel
theorem dX3_repeatOn_44 : decode cX3_repeatOn 44 = .ok (.iload_n 2, 1) := by decide +kernel
theorem dX3_repeatOn_45 : decode cX3_repeatOn 45 = .ok (.iaload, 1) := by decide +kernel
theorem dX3_repeatOn_46 : decode cX3_repeatOn 46 = .ok (.tableswitch 110 0 5 #[38, 47, 66, 77, 90, 101], 38) := by decide +kernel
theorem dX3_repeatOn_84 : decode cX3_repeatOn 84 = .ok (.aload_n 1, 1) := by decide +kernel
theorem dX3_repeatOn_85 : decode cX3_repeatOn 85 = .ok (.iload_n 3, 1) := by decide +kernel
theorem dX3_repeatOn_86 : decode cX3_repeatOn 86 = .ok (.invokevirtual 33, 3) := by decide +kernel
theorem dX3_repeatOn_89 : decode cX3_repeatOn 89 = .ok (.pop, 1) := by decide +kernel
theorem dX3_repeatOn_90 : decode cX3_repeatOn 90 = .ok (.goto 66, 3) := by decide +kernel
theorem dX3_repeatOn_93 : decode cX3_repeatOn 93 = .ok (.aload_n 1, 1) := by decide +kernel
theorem dX3_repeatOn_94 : decode cX3_repeatOn 94 = .ok (.iload_n 3, 1) := by decide +kernel
theorem dX3_repeatOn_95 : decode cX3_repeatOn 95 = .ok (.iload 4, 2) := by decide +kernel
theorem dX3_repeatOn_97 : decode cX3_repeatOn 97 = .ok (.iload 5, 2) := by decide +kernel
theorem dX3_repeatOn_99 : decode cX3_repeatOn 99 = .ok (.aload_n 0, 1) := by decide +kernel
theorem dX3_repeatOn_100 : decode cX3_repeatOn 100 = .ok (.getfield 22, 3) := by decide +kernel
theorem dX3_repeatOn_103 : decode cX3_repeatOn 103 = .ok (.iload_n 2, 1) := by decide +kernel
theorem dX3_repeatOn_104 : decode cX3_repeatOn 104 = .ok (.iaload, 1) := by decide +kernel
theorem dX3_repeatOn_105 : decode cX3_repeatOn 105 = .ok (.invokevirtual 39, 3) := by decide +kernel
theorem dX3_repeatOn_108 : decode cX3_repeatOn 108 = .ok (.pop, 1) := by decide +kernel
theorem dX3_repeatOn_109 : decode cX3_repeatOn 109 = .ok (.goto 47, 3) := by decide +kernel
theorem dX3_repeatOn_112 : decode cX3_repeatOn 112 = .ok (.aload_n 1, 1) := by decide +kernel
theorem dX3_repeatOn_113 : decode cX3_repeatOn 113 = .ok (.iload_n 3, 1) := by decide +kernel
theorem dX3_repeatOn_114 : decode cX3_repeatOn 114 = .ok (.iload 4, 2) := by decide +kernel
theorem dX3_repeatOn_116 : decode cX3_repeatOn 116 = .ok (.invokevirtual 43, 3) := by decide +kernel
theorem dX3_repeatOn_119 : decode cX3_repeatOn 119 = .ok (.pop, 1) := by decide +kernel
theorem dX3_repeatOn_120 : decode cX3_repeatOn 120 = .ok (.goto 36, 3) := by decide +kernel
theorem dX3_repeatOn_123 : decode cX3_repeatOn 123 = .ok (.aload_n 1, 1) := by decide +kernel
theorem dX3_repeatOn_124 : decode cX3_repeatOn 124 = .ok (.iload_n 3, 1) := by decide +kernel
theorem dX3_repeatOn_125 : decode cX3_repeatOn 125 = .ok (.iload 4, 2) := by decide +kernel
theorem dX3_repeatOn_127 : decode cX3_repeatOn 127 = .ok (.iload 5, 2) := by decide +kernel
theorem dX3_repeatOn_129 : decode cX3_repeatOn 129 = .ok (.invokevirtual 47, 3) := by decide +kernel
theorem dX3_repeatOn_132 : decode cX3_repeatOn 132 = .ok (.pop, 1) := by decide +kernel
theorem dX3_repeatOn_133 : decode cX3_repeatOn 133 = .ok (.goto 23, 3) := by decide +kernel
theorem dX3_repeatOn_136 : decode cX3_repeatOn 136 = .ok (.aload_n 1, 1) := by decide +kernel
theorem dX3_repeatOn_137 : decode cX3_repeatOn 137 = .ok (.iload_n 3, 1) := by decide +kernel
theorem dX3_repeatOn_138 : decode cX3_repeatOn 138 = .ok (.iload 4, 2) := by decide +kernel
theorem dX3_repeatOn_140 : decode cX3_repeatOn 140 = .ok (.invokevirtual 51, 3) := by decide +kernel
theorem dX3_repeatOn_143 : decode cX3_repeatOn 143 = .ok (.pop, 1) := by decide +kernel
theorem dX3_repeatOn_144 : decode cX3_repeatOn 144 = .ok (.goto 12, 3) := by decide +kernel
theorem dX3_repeatOn_147 : decode cX3_repeatOn 147 = .ok (.aload_n 1, 1) := by decide +kernel
theorem dX3_repeatOn_148 : decode cX3_repeatOn 148 = .ok (.iload_n 3, 1) := by decide +kernel
theorem dX3_repeatOn_149 : decode cX3_repeatOn 149 = .ok (.invokevirtual 54, 3) := by decide +kernel
theorem dX3_repeatOn_152 : decode cX3_repeatOn 152 = .ok (.pop, 1) := by decide +kernel
theorem dX3_repeatOn_153 : decode cX3_repeatOn 153 = .ok (.goto 3, 3) := by decide +kernel
theorem dX3_repeatOn_156 : decode cX3_repeatOn 156 = .ok (.iinc 2 1, 3) := by decide +kernel
theorem dX3_repeatOn_159 : decode cX3_repeatOn 159 = .ok (.goto (-157), 3) := by decide +kernel
theorem dX3_repeatOn_162 : decode cX3_repeatOn 162 = .ok (.return_, 1) := by decide +kernel
theorem dX4_init_0 : decode cX4_init 0 = .ok (.aload_n 0, 1) := by decide +kernel
theorem dX4_init_1 : decode cX4_init 1 = .ok (.invokespecial 3, 3) := by decide +kernel
theorem dX4_init_4 : decode cX4_init 4 = .ok (.aload_n 0, 1) := by decide +kernel
theorem dX4_init_5 : decode cX4_init 5 = .ok (.new 9, 3) := by decide +kernel
theorem dX4_init_8 : decode cX4_init 8 = .ok (.dup, 1) := by decide +kernel
theorem dX4_init_9 : decode cX4_init 9 = .ok (.invokespecial 11, 3) := by decide +kernel
theorem dX4_init_12 : decode cX4_init 12 = .ok (.putfield 12, 3) := by decide +kernel
theorem dX4_init_15 : decode cX4_init 15 = .ok (.aload_n 0, 1) := by decide +kernel
theorem dX4_init_16 : decode cX4_init 16 = .ok (.bipush 6, 2) := by decide +kernel
theorem dX4_init_18 : decode cX4_init 18 = .ok (.newarray .int, 2) := by decide +kernel
theorem dX4_init_20 : decode cX4_init 20 = .ok (.putfield 18, 3) := by decide +kernel
theorem dX4_init_23 : decode cX4_init 23 = .ok (.return_, 1) := by decide +kernel
theorem dX4_set_0 : decode cX4_set 0 = .ok (.aload_n 0, 1) := by decide +kernel
theorem dX4_set_1 : decode cX4_set 1 = .ok (.getfield 12, 3) := by decide +kernel
theorem dX4_set_4 : decode cX4_set 4 = .ok (.invokevirtual 22, 3) := by decide +kernel
theorem dX4_set_7 : decode cX4_set 7 = .ok (.aload_n 0, 1) := by decide +kernel
theorem dX4_set_8 : decode cX4_set 8 = .ok (.getfield 12, 3) := by decide +kernel
theorem dX4_set_11 : decode cX4_set 11 = .ok (.aload_n 1, 1) := by decide +kernel
theorem dX4_set_12 : decode cX4_set 12 = .ok (.invokevirtual 25, 3) := by decide +kernel
theorem dX4_set_15 : decode cX4_set 15 = .ok (.iconst 0, 1) := by decide +kernel
theorem dX4_set_16 : decode cX4_set 16 = .ok (.istore 4, 2) := by decide +kernel
theorem dX4_set_18 : decode cX4_set 18 = .ok (.iload 4, 2) := by decide +kernel
theorem dX4_set_20 : decode cX4_set 20 = .ok (.bipush 6, 2) := by decide +kernel
theorem dX4_set_22 : decode cX4_set 22 = .ok (.if_icmp .ge 17, 3) := by decide +kernel
theorem dX4_set_25 : decode cX4_set 25 = .ok (.aload_n 0, 1) := by decide +kernel
theorem dX4_set_26 : decode cX4_set 26 = .ok (.getfield 18, 3) := by decide +kernel
theorem dX4_set_29 : decode cX4_set 29 = .ok (.iload 4, 2) := by decide +kernel
theorem dX4_set_31 : decode cX4_set 31 = .ok (.iconst (-1), 1) := by decide +kernel
theorem dX4_set_32 : decode cX4_set 32 = .ok (.iastore, 1) := by decide +kernel
theorem dX4_set_33 : decode cX4_set 33 = .ok (.iinc 4 1, 3) := by decide +kernel
theorem dX4_set_36 : decode cX4_set 36 = .ok (.goto (-18), 3) := by decide +kernel
theorem dX4_set_39 : decode cX4_set 39 = .ok (.aload_n 0, 1) := by decide +kernel
theorem dX4_set_40 : decode cX4_set 40 = .ok (.getfield 18, 3) := by decide +kernel
theorem dX4_set_43 : decode cX4_set 43 = .ok (.iload_n 2, 1) := by decide +kernel
theorem dX4_set_44 : decode cX4_set 44 = .ok (.iload_n 3, 1) := by decide +kernel
theorem dX4_set_45 : decode cX4_set 45 = .ok (.iastore, 1) := by decide +kernel
theorem dX4_set_46 : decode cX4_set 46 = .ok (.return_, 1) := by decide +kernel
theorem dX4_isKnownOn_0 : decode cX4_isKnownOn 0 = .ok (.aload_n 0, 1) := by decide +kernel
theorem dX4_isKnownOn_1 : decode cX4_isKnownOn 1 = .ok (.getfield 18, 3) := by decide +kernel
theorem dX4_isKnownOn_4 : decode cX4_isKnownOn 4 = .ok (.iload_n 1, 1) := by decide +kernel
theorem dX4_isKnownOn_5 : decode cX4_isKnownOn 5 = .ok (.iaload, 1) := by decide +kernel
theorem dX4_isKnownOn_6 : decode cX4_isKnownOn 6 = .ok (.iconst (-1), 1) := by decide +kernel
theorem dX4_isKnownOn_7 : decode cX4_isKnownOn 7 = .ok (.if_icmp .eq 7, 3) := by decide +kernel
theorem dX4_isKnownOn_10 : decode cX4_isKnownOn 10 = .ok (.iconst 1, 1) := by decide +kernel
theorem dX4_isKnownOn_11 : decode cX4_isKnownOn 11 = .ok (.goto 4, 3) := by decide +kernel
theorem dX4_isKnownOn_14 : decode cX4_isKnownOn 14 = .ok (.iconst 0, 1) := by decide +kernel
theorem dX4_isKnownOn_15 : decode cX4_isKnownOn 15 = .ok (.ireturn, 1) := by decide +kernel
theorem dX4_spread_0 : decode cX4_spread 0 = .ok (.aload_n 0, 1) := by decide +kernel
theorem dX4_spread_1 : decode cX4_spread 1 = .ok (.iload_n 1, 1) := by decide +kernel
theorem dX4_spread_2 : decode cX4_spread 2 = .ok (.invokevirtual 29, 3) := by decide +kernel
theorem dX4_spread_5 : decode cX4_spread 5 = .ok (.ifCond .eq 21, 3) := by decide +kernel
theorem dX4_spread_8 : decode cX4_spread 8 = .ok (.aload_n 0, 1) := by decide +kernel
theorem dX4_spread_9 : decode cX4_spread 9 = .ok (.iload_n 2, 1) := by decide +kernel
theorem dX4_spread_10 : decode cX4_spread 10 = .ok (.invokevirtual 29, 3) := by decide +kernel
theorem dX4_spread_13 : decode cX4_spread 13 = .ok (.ifCond .ne 13, 3) := by decide +kernel
theorem dX4_spread_16 : decode cX4_spread 16 = .ok (.aload_n 0, 1) := by decide +kernel
theorem dX4_spread_17 : decode cX4_spread 17 = .ok (.getfield 18, 3) := by decide +kernel
theorem dX4_spread_20 : decode cX4_spread 20 = .ok (.iload_n 2, 1) := by decide +kernel
theorem dX4_spread_21 : decode cX4_spread 21 = .ok (.iload_n 3, 1) := by decide +kernel
theorem dX4_spread_22 : decode cX4_spread 22 = .ok (.iastore, 1) := by decide +kernel
theorem dX4_spread_23 : decode cX4_spread 23 = .ok (.goto 26, 3) := by decide +kernel
theorem dX4_spread_26 : decode cX4_spread 26 = .ok (.aload_n 0, 1) := by decide +kernel
theorem dX4_spread_27 : decode cX4_spread 27 = .ok (.iload_n 2, 1) := by decide +kernel
theorem dX4_spread_28 : decode cX4_spread 28 = .ok (.invokevirtual 29, 3) := by decide +kernel
theorem dX4_spread_31 : decode cX4_spread 31 = .ok (.ifCond .eq 18, 3) := by decide +kernel
theorem dX4_spread_34 : decode cX4_spread 34 = .ok (.aload_n 0, 1) := by decide +kernel
theorem dX4_spread_35 : decode cX4_spread 35 = .ok (.iload_n 1, 1) := by decide +kernel
theorem dX4_spread_36 : decode cX4_spread 36 = .ok (.invokevirtual 29, 3) := by decide +kernel
theorem dX4_spread_39 : decode cX4_spread 39 = .ok (.ifCond .ne 10, 3) := by decide +kernel
theorem dX4_spread_42 : decode cX4_spread 42 = .ok (.aload_n 0, 1) := by decide +kernel
theorem dX4_spread_43 : decode cX4_spread 43 = .ok (.getfield 18, 3) := by decide +kernel
theorem dX4_spread_46 : decode cX4_spread 46 = .ok (.iload_n 1, 1) := by decide +kernel
theorem dX4_spread_47 : decode cX4_spread 47 = .ok (.iload_n 3, 1) := by decide +kernel
theorem dX4_spread_48 : decode cX4_spread 48 = .ok (.iastore, 1) := by decide +kernel
theorem dX4_spread_49 : decode cX4_spread 49 = .ok (.return_, 1) := by decide +kernel
theorem dX5_init_0 : decode cX5_init 0 = .ok (.aload_n 0, 1) := by decide +kernel
theorem dX5_init_1 : decode cX5_init 1 = .ok (.invokespecial 3, 3) := by decide +kernel
theorem dX5_init_4 : decode cX5_init 4 = .ok (.aload_n 0, 1) := by decide +kernel
theorem dX5_init_5 : decode cX5_init 5 = .ok (.bipush 24, 2) := by decide +kernel
theorem dX5_init_7 : decode cX5_init 7 = .ok (.newarray .int, 2) := by decide +kernel
theorem dX5_init_9 : decode cX5_init 9 = .ok (.putfield 9, 3) := by decide +kernel
theorem dX5_init_12 : decode cX5_init 12 = .ok (.return_, 1) := by decide +kernel
theorem dX5_clear_0 : decode cX5_clear 0 = .ok (.iconst 0, 1) := by decide +kernel
theorem dX5_clear_1 : decode cX5_clear 1 = .ok (.istore_n 1, 1) := by decide +kernel
theorem dX5_clear_2 : decode cX5_clear 2 = .ok (.iload_n 1, 1) := by decide +kernel
theorem dX5_clear_3 : decode cX5_clear 3 = .ok (.bipush 24, 2) := by decide +kernel
theorem dX5_clear_5 : decode cX5_clear 5 = .ok (.if_icmp .ge 16, 3) := by decide +kernel
theorem dX5_clear_8 : decode cX5_clear 8 = .ok (.aload_n 0, 1) := by decide +kernel
theorem dX5_clear_9 : decode cX5_clear 9 = .ok (.getfield 9, 3) := by decide +kernel
theorem dX5_clear_12 : decode cX5_clear 12 = .ok (.iload_n 1, 1) := by decide +kernel
theorem dX5_clear_13 : decode cX5_clear 13 = .ok (.iconst 0, 1) := by decide +kernel
theorem dX5_clear_14 : decode cX5_clear 14 = .ok (.iastore, 1) := by decide +kernel
theorem dX5_clear_15 : decode cX5_clear 15 = .ok (.iinc 1 1, 3) := by decide +kernel
theorem dX5_clear_18 : decode cX5_clear 18 = .ok (.goto (-16), 3) := by decide +kernel
theorem dX5_clear_21 : decode cX5_clear 21 = .ok (.return_, 1) := by decide +kernel
theorem dX5_raiseTo_0 : decode cX5_raiseTo 0 = .ok (.iconst 0, 1) := by decide +kernel
theorem dX5_raiseTo_1 : decode cX5_raiseTo 1 = .ok (.istore_n 2, 1) := by decide +kernel
theorem dX5_raiseTo_2 : decode cX5_raiseTo 2 = .ok (.iload_n 2, 1) := by decide +kernel
theorem dX5_raiseTo_3 : decode cX5_raiseTo 3 = .ok (.bipush 24, 2) := by decide +kernel
theorem dX5_raiseTo_5 : decode cX5_raiseTo 5 = .ok (.if_icmp .ge 30, 3) := by decide +kernel
theorem dX5_raiseTo_8 : decode cX5_raiseTo 8 = .ok (.aload_n 0, 1) := by decide +kernel
theorem dX5_raiseTo_9 : decode cX5_raiseTo 9 = .ok (.getfield 9, 3) := by decide +kernel
theorem dX5_raiseTo_12 : decode cX5_raiseTo 12 = .ok (.iload_n 2, 1) := by decide +kernel
theorem dX5_raiseTo_13 : decode cX5_raiseTo 13 = .ok (.aload_n 0, 1) := by decide +kernel
theorem dX5_raiseTo_14 : decode cX5_raiseTo 14 = .ok (.getfield 9, 3) := by decide +kernel
theorem dX5_raiseTo_17 : decode cX5_raiseTo 17 = .ok (.iload_n 2, 1) := by decide +kernel
theorem dX5_raiseTo_18 : decode cX5_raiseTo 18 = .ok (.iaload, 1) := by decide +kernel
theorem dX5_raiseTo_19 : decode cX5_raiseTo 19 = .ok (.aload_n 1, 1) := by decide +kernel
theorem dX5_raiseTo_20 : decode cX5_raiseTo 20 = .ok (.getfield 9, 3) := by decide +kernel
theorem dX5_raiseTo_23 : decode cX5_raiseTo 23 = .ok (.iload_n 2, 1) := by decide +kernel
theorem dX5_raiseTo_24 : decode cX5_raiseTo 24 = .ok (.iaload, 1) := by decide +kernel
theorem dX5_raiseTo_25 : decode cX5_raiseTo 25 = .ok (.invokestatic 15, 3) := by decide +kernel
theorem dX5_raiseTo_28 : decode cX5_raiseTo 28 = .ok (.iastore, 1) := by decide +kernel
theorem dX5_raiseTo_29 : decode cX5_raiseTo 29 = .ok (.iinc 2 1, 3) := by decide +kernel
theorem dX5_raiseTo_32 : decode cX5_raiseTo 32 = .ok (.goto (-30), 3) := by decide +kernel
theorem dX5_raiseTo_35 : decode cX5_raiseTo 35 = .ok (.return_, 1) := by decide +kernel
theorem dX5_coverAll_0 : decode cX5_coverAll 0 = .ok (.iconst 0, 1) := by decide +kernel
theorem dX5_coverAll_1 : decode cX5_coverAll 1 = .ok (.istore_n 2, 1) := by decide +kernel
theorem dX5_coverAll_2 : decode cX5_coverAll 2 = .ok (.iload_n 2, 1) := by decide +kernel
theorem dX5_coverAll_3 : decode cX5_coverAll 3 = .ok (.bipush 24, 2) := by decide +kernel
theorem dX5_coverAll_5 : decode cX5_coverAll 5 = .ok (.if_icmp .ge 26, 3) := by decide +kernel
theorem dX5_coverAll_8 : decode cX5_coverAll 8 = .ok (.aload_n 1, 1) := by decide +kernel
theorem dX5_coverAll_9 : decode cX5_coverAll 9 = .ok (.getfield 21, 3) := by decide +kernel
theorem dX5_coverAll_12 : decode cX5_coverAll 12 = .ok (.iload_n 2, 1) := by decide +kernel
theorem dX5_coverAll_13 : decode cX5_coverAll 13 = .ok (.iaload, 1) := by decide +kernel
theorem dX5_coverAll_14 : decode cX5_coverAll 14 = .ok (.aload_n 0, 1) := by decide +kernel
theorem dX5_coverAll_15 : decode cX5_coverAll 15 = .ok (.getfield 9, 3) := by decide +kernel
theorem dX5_coverAll_18 : decode cX5_coverAll 18 = .ok (.iload_n 2, 1) := by decide +kernel
theorem dX5_coverAll_19 : decode cX5_coverAll 19 = .ok (.iaload, 1) := by decide +kernel
theorem dX5_coverAll_20 : decode cX5_coverAll 20 = .ok (.if_icmp .le 5, 3) := by decide +kernel
theorem dX5_coverAll_23 : decode cX5_coverAll 23 = .ok (.iconst 0, 1) := by decide +kernel
theorem dX5_coverAll_24 : decode cX5_coverAll 24 = .ok (.ireturn, 1) := by decide +kernel
theorem dX5_coverAll_25 : decode cX5_coverAll 25 = .ok (.iinc 2 1, 3) := by decide +kernel
theorem dX5_coverAll_28 : decode cX5_coverAll 28 = .ok (.goto (-26), 3) := by decide +kernel
theorem dX5_coverAll_31 : decode cX5_coverAll 31 = .ok (.iconst 1, 1) := by decide +kernel
theorem dX5_coverAll_32 : decode cX5_coverAll 32 = .ok (.ireturn, 1) := by decide +kernel
theorem dX6_init_0 : decode cX6_init 0 = .ok (.aload_n 0, 1) := by decide +kernel
theorem dX6_init_1 : decode cX6_init 1 = .ok (.invokespecial 1, 3) := by decide +kernel
theorem dX6_init_4 : decode cX6_init 4 = .ok (.aload_n 0, 1) := by decide +kernel
theorem dX6_init_5 : decode cX6_init 5 = .ok (.new 7, 3) := by decide +kernel
theorem dX6_init_8 : decode cX6_init 8 = .ok (.dup, 1) := by decide +kernel
theorem dX6_init_9 : decode cX6_init 9 = .ok (.invokespecial 9, 3) := by decide +kernel
theorem dX6_init_12 : decode cX6_init 12 = .ok (.putfield 10, 3) := by decide +kernel
theorem dX6_init_15 : decode cX6_init 15 = .ok (.aload_n 0, 1) := by decide +kernel
theorem dX6_init_16 : decode cX6_init 16 = .ok (.new 7, 3) := by decide +kernel
theorem dX6_init_19 : decode cX6_init 19 = .ok (.dup, 1) := by decide +kernel
theorem dX6_init_20 : decode cX6_init 20 = .ok (.invokespecial 9, 3) := by decide +kernel
theorem dX6_init_23 : decode cX6_init 23 = .ok (.putfield 16, 3) := by decide +kernel
theorem dX6_init_26 : decode cX6_init 26 = .ok (.aload_n 0, 1) := by decide +kernel
theorem dX6_init_27 : decode cX6_init 27 = .ok (.new 19, 3) := by decide +kernel
theorem dX6_init_30 : decode cX6_init 30 = .ok (.dup, 1) := by decide +kernel
theorem dX6_init_31 : decode cX6_init 31 = .ok (.invokespecial 21, 3) := by decide +kernel
theorem dX6_init_34 : decode cX6_init 34 = .ok (.putfield 22, 3) := by decide +kernel
theorem dX6_init_37 : decode cX6_init 37 = .ok (.return_, 1) := by decide +kernel
theorem dX6_entry_0 : decode cX6_entry 0 = .ok (.iload_n 1, 1) := by decide +kernel
theorem dX6_entry_1 : decode cX6_entry 1 = .ok (.invokestatic 26, 3) := by decide +kernel
theorem dX6_entry_4 : decode cX6_entry 4 = .ok (.aload_n 0, 1) := by decide +kernel
theorem dX6_entry_5 : decode cX6_entry 5 = .ok (.getfield 10, 3) := by decide +kernel
theorem dX6_entry_8 : decode cX6_entry 8 = .ok (.getfield 30, 3) := by decide +kernel
theorem dX6_entry_11 : decode cX6_entry 11 = .ok (.bipush 10, 2) := by decide +kernel
theorem dX6_entry_13 : decode cX6_entry 13 = .ok (.if_icmp .lt 13, 3) := by decide +kernel
theorem dX6_entry_16 : decode cX6_entry 16 = .ok (.new 34, 3) := by decide +kernel
theorem dX6_entry_19 : decode cX6_entry 19 = .ok (.dup, 1) := by decide +kernel
theorem dX6_entry_20 : decode cX6_entry 20 = .ok (.ldc 36, 2) := by decide +kernel
theorem dX6_entry_22 : decode cX6_entry 22 = .ok (.invokespecial 38, 3) := by decide +kernel
theorem dX6_entry_25 : decode cX6_entry 25 = .ok (.athrow, 1) := by decide +kernel
theorem dX6_entry_26 : decode cX6_entry 26 = .ok (.aload_n 0, 1) := by decide +kernel
theorem dX6_entry_27 : decode cX6_entry 27 = .ok (.invokevirtual 41, 3) := by decide +kernel
theorem dX6_entry_30 : decode cX6_entry 30 = .ok (.aload_n 0, 1) := by decide +kernel
theorem dX6_entry_31 : decode cX6_entry 31 = .ok (.getfield 22, 3) := by decide +kernel
theorem dX6_entry_34 : decode cX6_entry 34 = .ok (.iconst 0, 1) := by decide +kernel
theorem dX6_entry_35 : decode cX6_entry 35 = .ok (.iload_n 1, 1) := by decide +kernel
theorem dX6_entry_36 : decode cX6_entry 36 = .ok (.iconst 0, 1) := by decide +kernel
theorem dX6_entry_37 : decode cX6_entry 37 = .ok (.iconst 0, 1) := by decide +kernel
theorem dX6_entry_38 : decode cX6_entry 38 = .ok (.iconst 0, 1) := by decide +kernel
theorem dX6_entry_39 : decode cX6_entry 39 = .ok (.invokevirtual 44, 3) := by decide +kernel
theorem dX6_entry_42 : decode cX6_entry 42 = .ok (.aload_n 0, 1) := by decide +kernel
theorem dX6_entry_43 : decode cX6_entry 43 = .ok (.getfield 10, 3) := by decide +kernel
theorem dX6_entry_46 : decode cX6_entry 46 = .ok (.iload_n 1, 1) := by decide +kernel
theorem dX6_entry_47 : decode cX6_entry 47 = .ok (.invokevirtual 48, 3) := by decide +kernel
theorem dX6_entry_50 : decode cX6_entry 50 = .ok (.ireturn, 1) := by decide +kernel
theorem dX6_tell_0 : decode cX6_tell 0 = .ok (.aload_n 0, 1) := by decide +kernel
theorem dX6_tell_1 : decode cX6_tell 1 = .ok (.getfield 10, 3) := by decide +kernel
theorem dX6_tell_4 : decode cX6_tell 4 = .ok (.iload_n 1, 1) := by decide +kernel
theorem dX6_tell_5 : decode cX6_tell 5 = .ok (.iload_n 2, 1) := by decide +kernel
theorem dX6_tell_6 : decode cX6_tell 6 = .ok (.invokestatic 52, 3) := by decide +kernel
theorem dX6_tell_9 : decode cX6_tell 9 = .ok (.astore 5, 2) := by decide +kernel
theorem dX6_tell_11 : decode cX6_tell 11 = .ok (.iload_n 3, 1) := by decide +kernel
theorem dX6_tell_12 : decode cX6_tell 12 = .ok (.invokestatic 56, 3) := by decide +kernel
theorem dX6_tell_15 : decode cX6_tell 15 = .ok (.iload 4, 2) := by decide +kernel
theorem dX6_tell_17 : decode cX6_tell 17 = .ok (.iconst (-1), 1) := by decide +kernel
theorem dX6_tell_18 : decode cX6_tell 18 = .ok (.if_icmp .lt 11, 3) := by decide +kernel
theorem dX6_tell_21 : decode cX6_tell 21 = .ok (.iload 4, 2) := by decide +kernel
theorem dX6_tell_23 : decode cX6_tell 23 = .ok (.sipush 999, 3) := by decide +kernel
theorem dX6_tell_26 : decode cX6_tell 26 = .ok (.if_icmp .le 13, 3) := by decide +kernel
theorem dX6_tell_29 : decode cX6_tell 29 = .ok (.new 59, 3) := by decide +kernel
theorem dX6_tell_32 : decode cX6_tell 32 = .ok (.dup, 1) := by decide +kernel
theorem dX6_tell_33 : decode cX6_tell 33 = .ok (.ldc 61, 2) := by decide +kernel
theorem dX6_tell_35 : decode cX6_tell 35 = .ok (.invokespecial 63, 3) := by decide +kernel
theorem dX6_tell_38 : decode cX6_tell 38 = .ok (.athrow, 1) := by decide +kernel
theorem dX6_tell_39 : decode cX6_tell 39 = .ok (.aload 5, 2) := by decide +kernel
theorem dX6_tell_41 : decode cX6_tell 41 = .ok (.iload_n 1, 1) := by decide +kernel
theorem dX6_tell_42 : decode cX6_tell 42 = .ok (.invokevirtual 64, 3) := by decide +kernel
theorem dX6_tell_45 : decode cX6_tell 45 = .ok (.iload_n 3, 1) := by decide +kernel
theorem dX6_tell_46 : decode cX6_tell 46 = .ok (.invokestatic 69, 3) := by decide +kernel
theorem dX6_tell_49 : decode cX6_tell 49 = .ok (.ifCond .ne 13, 3) := by decide +kernel
theorem dX6_tell_52 : decode cX6_tell 52 = .ok (.new 34, 3) := by decide +kernel
theorem dX6_tell_55 : decode cX6_tell 55 = .ok (.dup, 1) := by decide +kernel
theorem dX6_tell_56 : decode cX6_tell 56 = .ok (.ldc 73, 2) := by decide +kernel
theorem dX6_tell_58 : decode cX6_tell 58 = .ok (.invokespecial 38, 3) := by decide +kernel
theorem dX6_tell_61 : decode cX6_tell 61 = .ok (.athrow, 1) := by decide +kernel
theorem dX6_tell_62 : decode cX6_tell 62 = .ok (.aload_n 0, 1) := by decide +kernel
theorem dX6_tell_63 : decode cX6_tell 63 = .ok (.invokevirtual 41, 3) := by decide +kernel
theorem dX6_tell_66 : decode cX6_tell 66 = .ok (.aload_n 0, 1) := by decide +kernel
theorem dX6_tell_67 : decode cX6_tell 67 = .ok (.getfield 22, 3) := by decide +kernel
theorem dX6_tell_70 : decode cX6_tell 70 = .ok (.iconst 1, 1) := by decide +kernel
theorem dX6_tell_71 : decode cX6_tell 71 = .ok (.iload_n 1, 1) := by decide +kernel
theorem dX6_tell_72 : decode cX6_tell 72 = .ok (.iload_n 2, 1) := by decide +kernel
theorem dX6_tell_73 : decode cX6_tell 73 = .ok (.iload_n 3, 1) := by decide +kernel
theorem dX6_tell_74 : decode cX6_tell 74 = .ok (.iload 4, 2) := by decide +kernel
theorem dX6_tell_76 : decode cX6_tell 76 = .ok (.invokevirtual 44, 3) := by decide +kernel
theorem dX6_tell_79 : decode cX6_tell 79 = .ok (.aload_n 0, 1) := by decide +kernel
theorem dX6_tell_80 : decode cX6_tell 80 = .ok (.getfield 10, 3) := by decide +kernel
theorem dX6_tell_83 : decode cX6_tell 83 = .ok (.iload_n 1, 1) := by decide +kernel
theorem dX6_tell_84 : decode cX6_tell 84 = .ok (.iload_n 2, 1) := by decide +kernel
theorem dX6_tell_85 : decode cX6_tell 85 = .ok (.iload_n 3, 1) := by decide +kernel
theorem dX6_tell_86 : decode cX6_tell 86 = .ok (.iload 4, 2) := by decide +kernel
theorem dX6_tell_88 : decode cX6_tell 88 = .ok (.invokevirtual 75, 3) := by decide +kernel
theorem dX6_tell_91 : decode cX6_tell 91 = .ok (.ireturn, 1) := by decide +kernel
theorem dX6_delete_0 : decode cX6_delete 0 = .ok (.aload_n 0, 1) := by decide +kernel
theorem dX6_delete_1 : decode cX6_delete 1 = .ok (.getfield 10, 3) := by decide +kernel
theorem dX6_delete_4 : decode cX6_delete 4 = .ok (.iload_n 1, 1) := by decide +kernel
theorem dX6_delete_5 : decode cX6_delete 5 = .ok (.iload_n 2, 1) := by decide +kernel
theorem dX6_delete_6 : decode cX6_delete 6 = .ok (.invokestatic 52, 3) := by decide +kernel
theorem dX6_delete_9 : decode cX6_delete 9 = .ok (.astore_n 3, 1) := by decide +kernel
theorem dX6_delete_10 : decode cX6_delete 10 = .ok (.aload_n 3, 1) := by decide +kernel
theorem dX6_delete_11 : decode cX6_delete 11 = .ok (.iload_n 1, 1) := by decide +kernel
theorem dX6_delete_12 : decode cX6_delete 12 = .ok (.invokestatic 79, 3) := by decide +kernel
theorem dX6_delete_15 : decode cX6_delete 15 = .ok (.aload_n 3, 1) := by decide +kernel
theorem dX6_delete_16 : decode cX6_delete 16 = .ok (.iload_n 1, 1) := by decide +kernel
theorem dX6_delete_17 : decode cX6_delete 17 = .ok (.invokevirtual 83, 3) := by decide +kernel
theorem dX6_delete_20 : decode cX6_delete 20 = .ok (.iconst 1, 1) := by decide +kernel
theorem dX6_delete_21 : decode cX6_delete 21 = .ok (.if_icmp .eq 13, 3) := by decide +kernel
theorem dX6_delete_24 : decode cX6_delete 24 = .ok (.new 34, 3) := by decide +kernel
theorem dX6_delete_27 : decode cX6_delete 27 = .ok (.dup, 1) := by decide +kernel
theorem dX6_delete_28 : decode cX6_delete 28 = .ok (.ldc 86, 2) := by decide +kernel
theorem dX6_delete_30 : decode cX6_delete 30 = .ok (.invokespecial 38, 3) := by decide +kernel
theorem dX6_delete_33 : decode cX6_delete 33 = .ok (.athrow, 1) := by decide +kernel
theorem dX6_delete_34 : decode cX6_delete 34 = .ok (.aload_n 0, 1) := by decide +kernel
theorem dX6_delete_35 : decode cX6_delete 35 = .ok (.invokevirtual 41, 3) := by decide +kernel
theorem dX6_delete_38 : decode cX6_delete 38 = .ok (.aload_n 0, 1) := by decide +kernel
theorem dX6_delete_39 : decode cX6_delete 39 = .ok (.getfield 22, 3) := by decide +kernel
theorem dX6_delete_42 : decode cX6_delete 42 = .ok (.iconst 2, 1) := by decide +kernel
theorem dX6_delete_43 : decode cX6_delete 43 = .ok (.iload_n 1, 1) := by decide +kernel
theorem dX6_delete_44 : decode cX6_delete 44 = .ok (.iload_n 2, 1) := by decide +kernel
theorem dX6_delete_45 : decode cX6_delete 45 = .ok (.iconst 0, 1) := by decide +kernel
theorem dX6_delete_46 : decode cX6_delete 46 = .ok (.iconst 0, 1) := by decide +kernel
theorem dX6_delete_47 : decode cX6_delete 47 = .ok (.invokevirtual 44, 3) := by decide +kernel
theorem dX6_delete_50 : decode cX6_delete 50 = .ok (.aload_n 0, 1) := by decide +kernel
theorem dX6_delete_51 : decode cX6_delete 51 = .ok (.getfield 10, 3) := by decide +kernel
theorem dX6_delete_54 : decode cX6_delete 54 = .ok (.iload_n 1, 1) := by decide +kernel
theorem dX6_delete_55 : decode cX6_delete 55 = .ok (.iload_n 2, 1) := by decide +kernel
theorem dX6_delete_56 : decode cX6_delete 56 = .ok (.invokevirtual 88, 3) := by decide +kernel
theorem dX6_delete_59 : decode cX6_delete 59 = .ok (.ireturn, 1) := by decide +kernel
theorem dX6_share_0 : decode cX6_share 0 = .ok (.aload_n 0, 1) := by decide +kernel
theorem dX6_share_1 : decode cX6_share 1 = .ok (.getfield 10, 3) := by decide +kernel
theorem dX6_share_4 : decode cX6_share 4 = .ok (.iload_n 1, 1) := by decide +kernel
theorem dX6_share_5 : decode cX6_share 5 = .ok (.iload_n 2, 1) := by decide +kernel
theorem dX6_share_6 : decode cX6_share 6 = .ok (.invokestatic 52, 3) := by decide +kernel
theorem dX6_share_9 : decode cX6_share 9 = .ok (.astore 5, 2) := by decide +kernel
theorem dX6_share_11 : decode cX6_share 11 = .ok (.iload_n 3, 1) := by decide +kernel
theorem dX6_share_12 : decode cX6_share 12 = .ok (.invokestatic 92, 3) := by decide +kernel
theorem dX6_share_15 : decode cX6_share 15 = .ok (.ifCond .ne 13, 3) := by decide +kernel
theorem dX6_share_18 : decode cX6_share 18 = .ok (.new 96, 3) := by decide +kernel
theorem dX6_share_21 : decode cX6_share 21 = .ok (.dup, 1) := by decide +kernel
theorem dX6_share_22 : decode cX6_share 22 = .ok (.ldc 98, 2) := by decide +kernel
theorem dX6_share_24 : decode cX6_share 24 = .ok (.invokespecial 100, 3) := by decide +kernel
theorem dX6_share_27 : decode cX6_share 27 = .ok (.athrow, 1) := by decide +kernel
theorem dX6_share_28 : decode cX6_share 28 = .ok (.iload 4, 2) := by decide +kernel
theorem dX6_share_30 : decode cX6_share 30 = .ok (.ifCond .lt 10, 3) := by decide +kernel
theorem dX6_share_33 : decode cX6_share 33 = .ok (.iload 4, 2) := by decide +kernel
theorem dX6_share_35 : decode cX6_share 35 = .ok (.bipush 15, 2) := by decide +kernel
theorem dX6_share_37 : decode cX6_share 37 = .ok (.if_icmp .le 13, 3) := by decide +kernel
theorem dX6_share_40 : decode cX6_share 40 = .ok (.new 59, 3) := by decide +kernel
theorem dX6_share_43 : decode cX6_share 43 = .ok (.dup, 1) := by decide +kernel
theorem dX6_share_44 : decode cX6_share 44 = .ok (.ldc 101, 2) := by decide +kernel
theorem dX6_share_46 : decode cX6_share 46 = .ok (.invokespecial 63, 3) := by decide +kernel
theorem dX6_share_49 : decode cX6_share 49 = .ok (.athrow, 1) := by decide +kernel
theorem dX6_share_50 : decode cX6_share 50 = .ok (.aload 5, 2) := by decide +kernel
theorem dX6_share_52 : decode cX6_share 52 = .ok (.iload_n 1, 1) := by decide +kernel
theorem dX6_share_53 : decode cX6_share 53 = .ok (.invokestatic 79, 3) := by decide +kernel
theorem dX6_share_56 : decode cX6_share 56 = .ok (.iload_n 3, 1) := by decide +kernel
theorem dX6_share_57 : decode cX6_share 57 = .ok (.aload 5, 2) := by decide +kernel
theorem dX6_share_59 : decode cX6_share 59 = .ok (.getfield 103, 3) := by decide +kernel
theorem dX6_share_62 : decode cX6_share 62 = .ok (.if_icmp .ne 13, 3) := by decide +kernel
theorem dX6_share_65 : decode cX6_share 65 = .ok (.new 34, 3) := by decide +kernel
theorem dX6_share_68 : decode cX6_share 68 = .ok (.dup, 1) := by decide +kernel
theorem dX6_share_69 : decode cX6_share 69 = .ok (.ldc 106, 2) := by decide +kernel
theorem dX6_share_71 : decode cX6_share 71 = .ok (.invokespecial 38, 3) := by decide +kernel
theorem dX6_share_74 : decode cX6_share 74 = .ok (.athrow, 1) := by decide +kernel
theorem dX6_share_75 : decode cX6_share 75 = .ok (.aload_n 0, 1) := by decide +kernel
theorem dX6_share_76 : decode cX6_share 76 = .ok (.invokevirtual 41, 3) := by decide +kernel
theorem dX6_share_79 : decode cX6_share 79 = .ok (.aload_n 0, 1) := by decide +kernel
theorem dX6_share_80 : decode cX6_share 80 = .ok (.getfield 22, 3) := by decide +kernel
theorem dX6_share_83 : decode cX6_share 83 = .ok (.iconst 3, 1) := by decide +kernel
theorem dX6_share_84 : decode cX6_share 84 = .ok (.iload_n 2, 1) := by decide +kernel
theorem dX6_share_85 : decode cX6_share 85 = .ok (.iload_n 3, 1) := by decide +kernel
theorem dX6_share_86 : decode cX6_share 86 = .ok (.iload 4, 2) := by decide +kernel
theorem dX6_share_88 : decode cX6_share 88 = .ok (.iconst 0, 1) := by decide +kernel
theorem dX6_share_89 : decode cX6_share 89 = .ok (.invokevirtual 44, 3) := by decide +kernel
theorem dX6_share_92 : decode cX6_share 92 = .ok (.aload_n 0, 1) := by decide +kernel
theorem dX6_share_93 : decode cX6_share 93 = .ok (.getfield 10, 3) := by decide +kernel
theorem dX6_share_96 : decode cX6_share 96 = .ok (.iload_n 2, 1) := by decide +kernel
theorem dX6_share_97 : decode cX6_share 97 = .ok (.iload_n 3, 1) := by decide +kernel
theorem dX6_share_98 : decode cX6_share 98 = .ok (.iload 4, 2) := by decide +kernel
theorem dX6_share_100 : decode cX6_share 100 = .ok (.invokevirtual 108, 3) := by decide +kernel
theorem dX6_share_103 : decode cX6_share 103 = .ok (.ireturn, 1) := by decide +kernel
theorem dX6_merge_0 : decode cX6_merge 0 = .ok (.iload_n 1, 1) := by decide +kernel
theorem dX6_merge_1 : decode cX6_merge 1 = .ok (.invokestatic 26, 3) := by decide +kernel
theorem dX6_merge_4 : decode cX6_merge 4 = .ok (.iload_n 2, 1) := by decide +kernel
theorem dX6_merge_5 : decode cX6_merge 5 = .ok (.invokestatic 26, 3) := by decide +kernel
theorem dX6_merge_8 : decode cX6_merge 8 = .ok (.iload_n 1, 1) := by decide +kernel
theorem dX6_merge_9 : decode cX6_merge 9 = .ok (.iload_n 2, 1) := by decide +kernel
theorem dX6_merge_10 : decode cX6_merge 10 = .ok (.if_icmp .ne 13, 3) := by decide +kernel
theorem dX6_merge_13 : decode cX6_merge 13 = .ok (.new 59, 3) := by decide +kernel
theorem dX6_merge_16 : decode cX6_merge 16 = .ok (.dup, 1) := by decide +kernel
theorem dX6_merge_17 : decode cX6_merge 17 = .ok (.ldc 112, 2) := by decide +kernel
theorem dX6_merge_19 : decode cX6_merge 19 = .ok (.invokespecial 63, 3) := by decide +kernel
theorem dX6_merge_22 : decode cX6_merge 22 = .ok (.athrow, 1) := by decide +kernel
theorem dX6_merge_23 : decode cX6_merge 23 = .ok (.aload_n 0, 1) := by decide +kernel
theorem dX6_merge_24 : decode cX6_merge 24 = .ok (.getfield 22, 3) := by decide +kernel
theorem dX6_merge_27 : decode cX6_merge 27 = .ok (.invokevirtual 114, 3) := by decide +kernel
theorem dX6_merge_30 : decode cX6_merge 30 = .ok (.ifCond .eq 5, 3) := by decide +kernel
theorem dX6_merge_33 : decode cX6_merge 33 = .ok (.iconst 0, 1) := by decide +kernel
theorem dX6_merge_34 : decode cX6_merge 34 = .ok (.ireturn, 1) := by decide +kernel
theorem dX6_merge_35 : decode cX6_merge 35 = .ok (.aload_n 0, 1) := by decide +kernel
theorem dX6_merge_36 : decode cX6_merge 36 = .ok (.getfield 22, 3) := by decide +kernel
theorem dX6_merge_39 : decode cX6_merge 39 = .ok (.iconst 4, 1) := by decide +kernel
theorem dX6_merge_40 : decode cX6_merge 40 = .ok (.iload_n 1, 1) := by decide +kernel
theorem dX6_merge_41 : decode cX6_merge 41 = .ok (.iload_n 2, 1) := by decide +kernel
theorem dX6_merge_42 : decode cX6_merge 42 = .ok (.iconst 0, 1) := by decide +kernel
theorem dX6_merge_43 : decode cX6_merge 43 = .ok (.iconst 0, 1) := by decide +kernel
theorem dX6_merge_44 : decode cX6_merge 44 = .ok (.invokevirtual 44, 3) := by decide +kernel
theorem dX6_merge_47 : decode cX6_merge 47 = .ok (.aload_n 0, 1) := by decide +kernel
theorem dX6_merge_48 : decode cX6_merge 48 = .ok (.getfield 10, 3) := by decide +kernel
theorem dX6_merge_51 : decode cX6_merge 51 = .ok (.iload_n 1, 1) := by decide +kernel
theorem dX6_merge_52 : decode cX6_merge 52 = .ok (.iload_n 2, 1) := by decide +kernel
theorem dX6_merge_53 : decode cX6_merge 53 = .ok (.invokevirtual 118, 3) := by decide +kernel
theorem dX6_merge_56 : decode cX6_merge 56 = .ok (.ireturn, 1) := by decide +kernel
theorem dX6_pass_0 : decode cX6_pass 0 = .ok (.iload_n 1, 1) := by decide +kernel
theorem dX6_pass_1 : decode cX6_pass 1 = .ok (.iconst 1, 1) := by decide +kernel
theorem dX6_pass_2 : decode cX6_pass 2 = .ok (.if_icmp .lt 9, 3) := by decide +kernel
theorem dX6_pass_5 : decode cX6_pass 5 = .ok (.iload_n 1, 1) := by decide +kernel
theorem dX6_pass_6 : decode cX6_pass 6 = .ok (.bipush 24, 2) := by decide +kernel
theorem dX6_pass_8 : decode cX6_pass 8 = .ok (.if_icmp .le 13, 3) := by decide +kernel
theorem dX6_pass_11 : decode cX6_pass 11 = .ok (.new 59, 3) := by decide +kernel
theorem dX6_pass_14 : decode cX6_pass 14 = .ok (.dup, 1) := by decide +kernel
theorem dX6_pass_15 : decode cX6_pass 15 = .ok (.ldc 121, 2) := by decide +kernel
theorem dX6_pass_17 : decode cX6_pass 17 = .ok (.invokespecial 63, 3) := by decide +kernel
theorem dX6_pass_20 : decode cX6_pass 20 = .ok (.athrow, 1) := by decide +kernel
theorem dX6_pass_21 : decode cX6_pass 21 = .ok (.aload_n 0, 1) := by decide +kernel
theorem dX6_pass_22 : decode cX6_pass 22 = .ok (.getfield 22, 3) := by decide +kernel
theorem dX6_pass_25 : decode cX6_pass 25 = .ok (.invokevirtual 114, 3) := by decide +kernel
theorem dX6_pass_28 : decode cX6_pass 28 = .ok (.ifCond .eq 5, 3) := by decide +kernel
theorem dX6_pass_31 : decode cX6_pass 31 = .ok (.iconst 0, 1) := by decide +kernel
theorem dX6_pass_32 : decode cX6_pass 32 = .ok (.ireturn, 1) := by decide +kernel
theorem dX6_pass_33 : decode cX6_pass 33 = .ok (.aload_n 0, 1) := by decide +kernel
theorem dX6_pass_34 : decode cX6_pass 34 = .ok (.getfield 22, 3) := by decide +kernel
theorem dX6_pass_37 : decode cX6_pass 37 = .ok (.iconst 5, 1) := by decide +kernel
theorem dX6_pass_38 : decode cX6_pass 38 = .ok (.iload_n 1, 1) := by decide +kernel
theorem dX6_pass_39 : decode cX6_pass 39 = .ok (.iconst 0, 1) := by decide +kernel
theorem dX6_pass_40 : decode cX6_pass 40 = .ok (.iconst 0, 1) := by decide +kernel
theorem dX6_pass_41 : decode cX6_pass 41 = .ok (.iconst 0, 1) := by decide +kernel
theorem dX6_pass_42 : decode cX6_pass 42 = .ok (.invokevirtual 44, 3) := by decide +kernel
theorem dX6_pass_45 : decode cX6_pass 45 = .ok (.aload_n 0, 1) := by decide +kernel
theorem dX6_pass_46 : decode cX6_pass 46 = .ok (.getfield 10, 3) := by decide +kernel
theorem dX6_pass_49 : decode cX6_pass 49 = .ok (.iload_n 1, 1) := by decide +kernel
theorem dX6_pass_50 : decode cX6_pass 50 = .ok (.invokevirtual 123, 3) := by decide +kernel
theorem dX6_pass_53 : decode cX6_pass 53 = .ok (.ireturn, 1) := by decide +kernel
theorem dX6_state_0 : decode cX6_state 0 = .ok (.iload_n 1, 1) := by decide +kernel
theorem dX6_state_1 : decode cX6_state 1 = .ok (.invokestatic 26, 3) := by decide +kernel
theorem dX6_state_4 : decode cX6_state 4 = .ok (.aload_n 0, 1) := by decide +kernel
theorem dX6_state_5 : decode cX6_state 5 = .ok (.getfield 10, 3) := by decide +kernel
theorem dX6_state_8 : decode cX6_state 8 = .ok (.iload_n 2, 1) := by decide +kernel
theorem dX6_state_9 : decode cX6_state 9 = .ok (.invokevirtual 126, 3) := by decide +kernel
theorem dX6_state_12 : decode cX6_state 12 = .ok (.astore_n 3, 1) := by decide +kernel
theorem dX6_state_13 : decode cX6_state 13 = .ok (.aload_n 3, 1) := by decide +kernel
theorem dX6_state_14 : decode cX6_state 14 = .ok (.ifnonnull 13, 3) := by decide +kernel
theorem dX6_state_17 : decode cX6_state 17 = .ok (.new 96, 3) := by decide +kernel
theorem dX6_state_20 : decode cX6_state 20 = .ok (.dup, 1) := by decide +kernel
theorem dX6_state_21 : decode cX6_state 21 = .ok (.ldc 130, 2) := by decide +kernel
theorem dX6_state_23 : decode cX6_state 23 = .ok (.invokespecial 100, 3) := by decide +kernel
theorem dX6_state_26 : decode cX6_state 26 = .ok (.athrow, 1) := by decide +kernel
theorem dX6_state_27 : decode cX6_state 27 = .ok (.aload_n 3, 1) := by decide +kernel
theorem dX6_state_28 : decode cX6_state 28 = .ok (.iload_n 1, 1) := by decide +kernel
theorem dX6_state_29 : decode cX6_state 29 = .ok (.invokevirtual 83, 3) := by decide +kernel
theorem dX6_state_32 : decode cX6_state 32 = .ok (.ireturn, 1) := by decide +kernel
theorem dX6_value_0 : decode cX6_value 0 = .ok (.aload_n 0, 1) := by decide +kernel
theorem dX6_value_1 : decode cX6_value 1 = .ok (.getfield 10, 3) := by decide +kernel
theorem dX6_value_4 : decode cX6_value 4 = .ok (.iload_n 1, 1) := by decide +kernel
theorem dX6_value_5 : decode cX6_value 5 = .ok (.iload_n 2, 1) := by decide +kernel
theorem dX6_value_6 : decode cX6_value 6 = .ok (.iload_n 3, 1) := by decide +kernel
theorem dX6_value_7 : decode cX6_value 7 = .ok (.iload 4, 2) := by decide +kernel
theorem dX6_value_9 : decode cX6_value 9 = .ok (.invokestatic 132, 3) := by decide +kernel
theorem dX6_value_12 : decode cX6_value 12 = .ok (.ireturn, 1) := by decide +kernel
theorem dX6_valueAnew_0 : decode cX6_valueAnew 0 = .ok (.aload_n 0, 1) := by decide +kernel
theorem dX6_valueAnew_1 : decode cX6_valueAnew 1 = .ok (.getfield 16, 3) := by decide +kernel
theorem dX6_valueAnew_4 : decode cX6_valueAnew 4 = .ok (.invokevirtual 136, 3) := by decide +kernel
theorem dX6_valueAnew_7 : decode cX6_valueAnew 7 = .ok (.aload_n 0, 1) := by decide +kernel
theorem dX6_valueAnew_8 : decode cX6_valueAnew 8 = .ok (.getfield 22, 3) := by decide +kernel
theorem dX6_valueAnew_11 : decode cX6_valueAnew 11 = .ok (.aload_n 0, 1) := by decide +kernel
theorem dX6_valueAnew_12 : decode cX6_valueAnew 12 = .ok (.getfield 16, 3) := by decide +kernel
theorem dX6_valueAnew_15 : decode cX6_valueAnew 15 = .ok (.invokevirtual 139, 3) := by decide +kernel
theorem dX6_valueAnew_18 : decode cX6_valueAnew 18 = .ok (.aload_n 0, 1) := by decide +kernel
theorem dX6_valueAnew_19 : decode cX6_valueAnew 19 = .ok (.getfield 16, 3) := by decide +kernel
theorem dX6_valueAnew_22 : decode cX6_valueAnew 22 = .ok (.iload_n 1, 1) := by decide +kernel
theorem dX6_valueAnew_23 : decode cX6_valueAnew 23 = .ok (.iload_n 2, 1) := by decide +kernel
theorem dX6_valueAnew_24 : decode cX6_valueAnew 24 = .ok (.iload_n 3, 1) := by decide +kernel
theorem dX6_valueAnew_25 : decode cX6_valueAnew 25 = .ok (.iload 4, 2) := by decide +kernel
theorem dX6_valueAnew_27 : decode cX6_valueAnew 27 = .ok (.invokestatic 132, 3) := by decide +kernel
theorem dX6_valueAnew_30 : decode cX6_valueAnew 30 = .ok (.ireturn, 1) := by decide +kernel
theorem dX6_values_0 : decode cX6_values 0 = .ok (.aload_n 0, 1) := by decide +kernel
theorem dX6_values_1 : decode cX6_values 1 = .ok (.getfield 10, 3) := by decide +kernel
theorem dX6_values_4 : decode cX6_values 4 = .ok (.iload_n 1, 1) := by decide +kernel
theorem dX6_values_5 : decode cX6_values 5 = .ok (.iload_n 2, 1) := by decide +kernel
theorem dX6_values_6 : decode cX6_values 6 = .ok (.invokestatic 52, 3) := by decide +kernel
theorem dX6_values_9 : decode cX6_values 9 = .ok (.astore 4, 2) := by decide +kernel
theorem dX6_values_11 : decode cX6_values 11 = .ok (.iload_n 3, 1) := by decide +kernel
theorem dX6_values_12 : decode cX6_values 12 = .ok (.invokestatic 56, 3) := by decide +kernel
theorem dX6_values_15 : decode cX6_values 15 = .ok (.aload 4, 2) := by decide +kernel
theorem dX6_values_17 : decode cX6_values 17 = .ok (.getfield 143, 3) := by decide +kernel
theorem dX6_values_20 : decode cX6_values 20 = .ok (.iload_n 1, 1) := by decide +kernel
theorem dX6_values_21 : decode cX6_values 21 = .ok (.aaload, 1) := by decide +kernel
theorem dX6_values_22 : decode cX6_values 22 = .ok (.iload_n 3, 1) := by decide +kernel
theorem dX6_values_23 : decode cX6_values 23 = .ok (.invokevirtual 147, 3) := by decide +kernel
theorem dX6_values_26 : decode cX6_values 26 = .ok (.ireturn, 1) := by decide +kernel
theorem dX6_seen_0 : decode cX6_seen 0 = .ok (.aload_n 0, 1) := by decide +kernel
theorem dX6_seen_1 : decode cX6_seen 1 = .ok (.getfield 10, 3) := by decide +kernel
theorem dX6_seen_4 : decode cX6_seen 4 = .ok (.iload_n 1, 1) := by decide +kernel
theorem dX6_seen_5 : decode cX6_seen 5 = .ok (.iload_n 2, 1) := by decide +kernel
theorem dX6_seen_6 : decode cX6_seen 6 = .ok (.invokestatic 52, 3) := by decide +kernel
theorem dX6_seen_9 : decode cX6_seen 9 = .ok (.astore 5, 2) := by decide +kernel
theorem dX6_seen_11 : decode cX6_seen 11 = .ok (.iload_n 3, 1) := by decide +kernel
theorem dX6_seen_12 : decode cX6_seen 12 = .ok (.invokestatic 56, 3) := by decide +kernel
theorem dX6_seen_15 : decode cX6_seen 15 = .ok (.iload 4, 2) := by decide +kernel
theorem dX6_seen_17 : decode cX6_seen 17 = .ok (.invokestatic 26, 3) := by decide +kernel
theorem dX6_seen_20 : decode cX6_seen 20 = .ok (.aload 5, 2) := by decide +kernel
theorem dX6_seen_22 : decode cX6_seen 22 = .ok (.getfield 143, 3) := by decide +kernel
theorem dX6_seen_25 : decode cX6_seen 25 = .ok (.iload_n 1, 1) := by decide +kernel
theorem dX6_seen_26 : decode cX6_seen 26 = .ok (.aaload, 1) := by decide +kernel
theorem dX6_seen_27 : decode cX6_seen 27 = .ok (.getfield 152, 3) := by decide +kernel
theorem dX6_seen_30 : decode cX6_seen 30 = .ok (.getfield 156, 3) := by decide +kernel
theorem dX6_seen_33 : decode cX6_seen 33 = .ok (.iload_n 3, 1) := by decide +kernel
theorem dX6_seen_34 : decode cX6_seen 34 = .ok (.iload 4, 2) := by decide +kernel
theorem dX6_seen_36 : decode cX6_seen 36 = .ok (.invokestatic 162, 3) := by decide +kernel
theorem dX6_seen_39 : decode cX6_seen 39 = .ok (.iaload, 1) := by decide +kernel
theorem dX6_seen_40 : decode cX6_seen 40 = .ok (.ireturn, 1) := by decide +kernel
theorem dX6_marks_0 : decode cX6_marks 0 = .ok (.aload_n 0, 1) := by decide +kernel
theorem dX6_marks_1 : decode cX6_marks 1 = .ok (.getfield 10, 3) := by decide +kernel
theorem dX6_marks_4 : decode cX6_marks 4 = .ok (.iload_n 1, 1) := by decide +kernel
theorem dX6_marks_5 : decode cX6_marks 5 = .ok (.iload_n 2, 1) := by decide +kernel
theorem dX6_marks_6 : decode cX6_marks 6 = .ok (.invokestatic 52, 3) := by decide +kernel
theorem dX6_marks_9 : decode cX6_marks 9 = .ok (.astore_n 3, 1) := by decide +kernel
theorem dX6_marks_10 : decode cX6_marks 10 = .ok (.aload_n 3, 1) := by decide +kernel
theorem dX6_marks_11 : decode cX6_marks 11 = .ok (.iload_n 1, 1) := by decide +kernel
theorem dX6_marks_12 : decode cX6_marks 12 = .ok (.invokevirtual 165, 3) := by decide +kernel
theorem dX6_marks_15 : decode cX6_marks 15 = .ok (.istore 4, 2) := by decide +kernel
theorem dX6_marks_17 : decode cX6_marks 17 = .ok (.iload 4, 2) := by decide +kernel
theorem dX6_marks_19 : decode cX6_marks 19 = .ok (.ifCond .ne 5, 3) := by decide +kernel
theorem dX6_marks_22 : decode cX6_marks 22 = .ok (.iconst 0, 1) := by decide +kernel
theorem dX6_marks_23 : decode cX6_marks 23 = .ok (.ireturn, 1) := by decide +kernel
theorem dX6_marks_24 : decode cX6_marks 24 = .ok (.aload_n 0, 1) := by decide +kernel
theorem dX6_marks_25 : decode cX6_marks 25 = .ok (.getfield 10, 3) := by decide +kernel
theorem dX6_marks_28 : decode cX6_marks 28 = .ok (.getfield 168, 3) := by decide +kernel
theorem dX6_marks_31 : decode cX6_marks 31 = .ok (.aload_n 3, 1) := by decide +kernel
theorem dX6_marks_32 : decode cX6_marks 32 = .ok (.iload_n 1, 1) := by decide +kernel
theorem dX6_marks_33 : decode cX6_marks 33 = .ok (.invokevirtual 171, 3) := by decide +kernel
theorem dX6_marks_36 : decode cX6_marks 36 = .ok (.isub, 1) := by decide +kernel
theorem dX6_marks_37 : decode cX6_marks 37 = .ok (.istore 5, 2) := by decide +kernel
theorem dX6_marks_39 : decode cX6_marks 39 = .ok (.bipush 100, 2) := by decide +kernel
theorem dX6_marks_41 : decode cX6_marks 41 = .ok (.iload 4, 2) := by decide +kernel
theorem dX6_marks_43 : decode cX6_marks 43 = .ok (.imul, 1) := by decide +kernel
theorem dX6_marks_44 : decode cX6_marks 44 = .ok (.bipush 99, 2) := by decide +kernel
theorem dX6_marks_46 : decode cX6_marks 46 = .ok (.iload 5, 2) := by decide +kernel
theorem dX6_marks_48 : decode cX6_marks 48 = .ok (.invokestatic 174, 3) := by decide +kernel
theorem dX6_marks_51 : decode cX6_marks 51 = .ok (.iadd, 1) := by decide +kernel
theorem dX6_marks_52 : decode cX6_marks 52 = .ok (.ireturn, 1) := by decide +kernel
theorem dX6_clashes_0 : decode cX6_clashes 0 = .ok (.iload_n 1, 1) := by decide +kernel
theorem dX6_clashes_1 : decode cX6_clashes 1 = .ok (.invokestatic 26, 3) := by decide +kernel
theorem dX6_clashes_4 : decode cX6_clashes 4 = .ok (.aload_n 0, 1) := by decide +kernel
theorem dX6_clashes_5 : decode cX6_clashes 5 = .ok (.getfield 10, 3) := by decide +kernel
theorem dX6_clashes_8 : decode cX6_clashes 8 = .ok (.iload_n 1, 1) := by decide +kernel
theorem dX6_clashes_9 : decode cX6_clashes 9 = .ok (.invokevirtual 179, 3) := by decide +kernel
theorem dX6_clashes_12 : decode cX6_clashes 12 = .ok (.ireturn, 1) := by decide +kernel
theorem dX6_agreement_0 : decode cX6_agreement 0 = .ok (.iload_n 1, 1) := by decide +kernel
theorem dX6_agreement_1 : decode cX6_agreement 1 = .ok (.invokestatic 26, 3) := by decide +kernel
theorem dX6_agreement_4 : decode cX6_agreement 4 = .ok (.iload_n 2, 1) := by decide +kernel
theorem dX6_agreement_5 : decode cX6_agreement 5 = .ok (.invokestatic 26, 3) := by decide +kernel
theorem dX6_agreement_8 : decode cX6_agreement 8 = .ok (.aload_n 0, 1) := by decide +kernel
theorem dX6_agreement_9 : decode cX6_agreement 9 = .ok (.getfield 10, 3) := by decide +kernel
theorem dX6_agreement_12 : decode cX6_agreement 12 = .ok (.iload_n 1, 1) := by decide +kernel
theorem dX6_agreement_13 : decode cX6_agreement 13 = .ok (.iload_n 2, 1) := by decide +kernel
theorem dX6_agreement_14 : decode cX6_agreement 14 = .ok (.invokevirtual 182, 3) := by decide +kernel
theorem dX6_agreement_17 : decode cX6_agreement 17 = .ok (.istore_n 3, 1) := by decide +kernel
theorem dX6_agreement_18 : decode cX6_agreement 18 = .ok (.iload_n 3, 1) := by decide +kernel
theorem dX6_agreement_19 : decode cX6_agreement 19 = .ok (.ifCond .ne 5, 3) := by decide +kernel
theorem dX6_agreement_22 : decode cX6_agreement 22 = .ok (.fconst 1, 1) := by decide +kernel
theorem dX6_agreement_23 : decode cX6_agreement 23 = .ok (.freturn, 1) := by decide +kernel
theorem dX6_agreement_24 : decode cX6_agreement 24 = .ok (.aload_n 0, 1) := by decide +kernel
theorem dX6_agreement_25 : decode cX6_agreement 25 = .ok (.getfield 10, 3) := by decide +kernel
theorem dX6_agreement_28 : decode cX6_agreement 28 = .ok (.iload_n 1, 1) := by decide +kernel
theorem dX6_agreement_29 : decode cX6_agreement 29 = .ok (.iload_n 2, 1) := by decide +kernel
theorem dX6_agreement_30 : decode cX6_agreement 30 = .ok (.invokevirtual 185, 3) := by decide +kernel
theorem dX6_agreement_33 : decode cX6_agreement 33 = .ok (.i2f, 1) := by decide +kernel
theorem dX6_agreement_34 : decode cX6_agreement 34 = .ok (.iload_n 3, 1) := by decide +kernel
theorem dX6_agreement_35 : decode cX6_agreement 35 = .ok (.i2f, 1) := by decide +kernel
theorem dX6_agreement_36 : decode cX6_agreement 36 = .ok (.fdiv, 1) := by decide +kernel
theorem dX6_agreement_37 : decode cX6_agreement 37 = .ok (.freturn, 1) := by decide +kernel
theorem dX6_requireDevice_0 : decode cX6_requireDevice 0 = .ok (.iload_n 0, 1) := by decide +kernel
theorem dX6_requireDevice_1 : decode cX6_requireDevice 1 = .ok (.invokestatic 188, 3) := by decide +kernel
theorem dX6_requireDevice_4 : decode cX6_requireDevice 4 = .ok (.ifCond .ne 13, 3) := by decide +kernel
theorem dX6_requireDevice_7 : decode cX6_requireDevice 7 = .ok (.new 96, 3) := by decide +kernel
theorem dX6_requireDevice_10 : decode cX6_requireDevice 10 = .ok (.dup, 1) := by decide +kernel
theorem dX6_requireDevice_11 : decode cX6_requireDevice 11 = .ok (.ldc 191, 2) := by decide +kernel
theorem dX6_requireDevice_13 : decode cX6_requireDevice 13 = .ok (.invokespecial 100, 3) := by decide +kernel
theorem dX6_requireDevice_16 : decode cX6_requireDevice 16 = .ok (.athrow, 1) := by decide +kernel
theorem dX6_requireDevice_17 : decode cX6_requireDevice 17 = .ok (.return_, 1) := by decide +kernel
theorem dX6_requireField_0 : decode cX6_requireField 0 = .ok (.iload_n 0, 1) := by decide +kernel
theorem dX6_requireField_1 : decode cX6_requireField 1 = .ok (.invokestatic 193, 3) := by decide +kernel
theorem dX6_requireField_4 : decode cX6_requireField 4 = .ok (.ifCond .ne 13, 3) := by decide +kernel
theorem dX6_requireField_7 : decode cX6_requireField 7 = .ok (.new 96, 3) := by decide +kernel
theorem dX6_requireField_10 : decode cX6_requireField 10 = .ok (.dup, 1) := by decide +kernel
theorem dX6_requireField_11 : decode cX6_requireField 11 = .ok (.ldc 196, 2) := by decide +kernel
theorem dX6_requireField_13 : decode cX6_requireField 13 = .ok (.invokespecial 100, 3) := by decide +kernel
theorem dX6_requireField_16 : decode cX6_requireField 16 = .ok (.athrow, 1) := by decide +kernel
theorem dX6_requireField_17 : decode cX6_requireField 17 = .ok (.return_, 1) := by decide +kernel
theorem dX6_requireOwner_0 : decode cX6_requireOwner 0 = .ok (.aload_n 0, 1) := by decide +kernel
theorem dX6_requireOwner_1 : decode cX6_requireOwner 1 = .ok (.getfield 103, 3) := by decide +kernel
theorem dX6_requireOwner_4 : decode cX6_requireOwner 4 = .ok (.iload_n 1, 1) := by decide +kernel
theorem dX6_requireOwner_5 : decode cX6_requireOwner 5 = .ok (.invokestatic 198, 3) := by decide +kernel
theorem dX6_requireOwner_8 : decode cX6_requireOwner 8 = .ok (.if_icmp .eq 13, 3) := by decide +kernel
theorem dX6_requireOwner_11 : decode cX6_requireOwner 11 = .ok (.new 34, 3) := by decide +kernel
theorem dX6_requireOwner_14 : decode cX6_requireOwner 14 = .ok (.dup, 1) := by decide +kernel
theorem dX6_requireOwner_15 : decode cX6_requireOwner 15 = .ok (.ldc 201, 2) := by decide +kernel
theorem dX6_requireOwner_17 : decode cX6_requireOwner 17 = .ok (.invokespecial 38, 3) := by decide +kernel
theorem dX6_requireOwner_20 : decode cX6_requireOwner 20 = .ok (.athrow, 1) := by decide +kernel
theorem dX6_requireOwner_21 : decode cX6_requireOwner 21 = .ok (.return_, 1) := by decide +kernel
theorem dX6_requireRoomInJournal_0 : decode cX6_requireRoomInJournal 0 = .ok (.aload_n 0, 1) := by decide +kernel
theorem dX6_requireRoomInJournal_1 : decode cX6_requireRoomInJournal 1 = .ok (.getfield 22, 3) := by decide +kernel
theorem dX6_requireRoomInJournal_4 : decode cX6_requireRoomInJournal 4 = .ok (.invokevirtual 114, 3) := by decide +kernel
theorem dX6_requireRoomInJournal_7 : decode cX6_requireRoomInJournal 7 = .ok (.ifCond .eq 13, 3) := by decide +kernel
theorem dX6_requireRoomInJournal_10 : decode cX6_requireRoomInJournal 10 = .ok (.new 34, 3) := by decide +kernel
theorem dX6_requireRoomInJournal_13 : decode cX6_requireRoomInJournal 13 = .ok (.dup, 1) := by decide +kernel
theorem dX6_requireRoomInJournal_14 : decode cX6_requireRoomInJournal 14 = .ok (.ldc 203, 2) := by decide +kernel
theorem dX6_requireRoomInJournal_16 : decode cX6_requireRoomInJournal 16 = .ok (.invokespecial 38, 3) := by decide +kernel
theorem dX6_requireRoomInJournal_19 : decode cX6_requireRoomInJournal 19 = .ok (.athrow, 1) := by decide +kernel
theorem dX6_requireRoomInJournal_20 : decode cX6_requireRoomInJournal 20 = .ok (.return_, 1) := by decide +kernel
theorem dX6_knownEntry_0 : decode cX6_knownEntry 0 = .ok (.iload_n 1, 1) := by decide +kernel
theorem dX6_knownEntry_1 : decode cX6_knownEntry 1 = .ok (.invokestatic 26, 3) := by decide +kernel
theorem dX6_knownEntry_4 : decode cX6_knownEntry 4 = .ok (.aload_n 0, 1) := by decide +kernel
theorem dX6_knownEntry_5 : decode cX6_knownEntry 5 = .ok (.iload_n 2, 1) := by decide +kernel
theorem dX6_knownEntry_6 : decode cX6_knownEntry 6 = .ok (.invokevirtual 126, 3) := by decide +kernel
theorem dX6_knownEntry_9 : decode cX6_knownEntry 9 = .ok (.astore_n 3, 1) := by decide +kernel
theorem dX6_knownEntry_10 : decode cX6_knownEntry 10 = .ok (.aload_n 3, 1) := by decide +kernel
theorem dX6_knownEntry_11 : decode cX6_knownEntry 11 = .ok (.ifnull 15, 3) := by decide +kernel
theorem dX6_knownEntry_14 : decode cX6_knownEntry 14 = .ok (.aload_n 3, 1) := by decide +kernel
theorem dX6_knownEntry_15 : decode cX6_knownEntry 15 = .ok (.getfield 143, 3) := by decide +kernel
theorem dX6_knownEntry_18 : decode cX6_knownEntry 18 = .ok (.iload_n 1, 1) := by decide +kernel
theorem dX6_knownEntry_19 : decode cX6_knownEntry 19 = .ok (.aaload, 1) := by decide +kernel
theorem dX6_knownEntry_20 : decode cX6_knownEntry 20 = .ok (.getfield 205, 3) := by decide +kernel
theorem dX6_knownEntry_23 : decode cX6_knownEntry 23 = .ok (.ifCond .ne 13, 3) := by decide +kernel
theorem dX6_knownEntry_26 : decode cX6_knownEntry 26 = .ok (.new 96, 3) := by decide +kernel
theorem dX6_knownEntry_29 : decode cX6_knownEntry 29 = .ok (.dup, 1) := by decide +kernel
theorem dX6_knownEntry_30 : decode cX6_knownEntry 30 = .ok (.ldc 209, 2) := by decide +kernel
theorem dX6_knownEntry_32 : decode cX6_knownEntry 32 = .ok (.invokespecial 100, 3) := by decide +kernel
theorem dX6_knownEntry_35 : decode cX6_knownEntry 35 = .ok (.athrow, 1) := by decide +kernel
theorem dX6_knownEntry_36 : decode cX6_knownEntry 36 = .ok (.aload_n 3, 1) := by decide +kernel
theorem dX6_knownEntry_37 : decode cX6_knownEntry 37 = .ok (.areturn, 1) := by decide +kernel
theorem dX6_valueIn_0 : decode cX6_valueIn 0 = .ok (.aload_n 0, 1) := by decide +kernel
theorem dX6_valueIn_1 : decode cX6_valueIn 1 = .ok (.iload_n 1, 1) := by decide +kernel
theorem dX6_valueIn_2 : decode cX6_valueIn 2 = .ok (.iload_n 2, 1) := by decide +kernel
theorem dX6_valueIn_3 : decode cX6_valueIn 3 = .ok (.invokestatic 52, 3) := by decide +kernel
theorem dX6_valueIn_6 : decode cX6_valueIn 6 = .ok (.astore 5, 2) := by decide +kernel
theorem dX6_valueIn_8 : decode cX6_valueIn 8 = .ok (.iload_n 3, 1) := by decide +kernel
theorem dX6_valueIn_9 : decode cX6_valueIn 9 = .ok (.invokestatic 56, 3) := by decide +kernel
theorem dX6_valueIn_12 : decode cX6_valueIn 12 = .ok (.aload 5, 2) := by decide +kernel
theorem dX6_valueIn_14 : decode cX6_valueIn 14 = .ok (.getfield 143, 3) := by decide +kernel
theorem dX6_valueIn_17 : decode cX6_valueIn 17 = .ok (.iload_n 1, 1) := by decide +kernel
theorem dX6_valueIn_18 : decode cX6_valueIn 18 = .ok (.aaload, 1) := by decide +kernel
theorem dX6_valueIn_19 : decode cX6_valueIn 19 = .ok (.astore 6, 2) := by decide +kernel
theorem dX6_valueIn_21 : decode cX6_valueIn 21 = .ok (.iload 4, 2) := by decide +kernel
theorem dX6_valueIn_23 : decode cX6_valueIn 23 = .ok (.ifCond .lt 14, 3) := by decide +kernel
theorem dX6_valueIn_26 : decode cX6_valueIn 26 = .ok (.iload 4, 2) := by decide +kernel
theorem dX6_valueIn_28 : decode cX6_valueIn 28 = .ok (.aload 6, 2) := by decide +kernel
theorem dX6_valueIn_30 : decode cX6_valueIn 30 = .ok (.iload_n 3, 1) := by decide +kernel
theorem dX6_valueIn_31 : decode cX6_valueIn 31 = .ok (.invokevirtual 147, 3) := by decide +kernel
theorem dX6_valueIn_34 : decode cX6_valueIn 34 = .ok (.if_icmp .lt 13, 3) := by decide +kernel
theorem dX6_valueIn_37 : decode cX6_valueIn 37 = .ok (.new 96, 3) := by decide +kernel
theorem dX6_valueIn_40 : decode cX6_valueIn 40 = .ok (.dup, 1) := by decide +kernel
theorem dX6_valueIn_41 : decode cX6_valueIn 41 = .ok (.ldc 211, 2) := by decide +kernel
theorem dX6_valueIn_43 : decode cX6_valueIn 43 = .ok (.invokespecial 100, 3) := by decide +kernel
theorem dX6_valueIn_46 : decode cX6_valueIn 46 = .ok (.athrow, 1) := by decide +kernel
theorem dX6_valueIn_47 : decode cX6_valueIn 47 = .ok (.aload 6, 2) := by decide +kernel
theorem dX6_valueIn_49 : decode cX6_valueIn 49 = .ok (.iload_n 3, 1) := by decide +kernel
theorem dX6_valueIn_50 : decode cX6_valueIn 50 = .ok (.iload 4, 2) := by decide +kernel
theorem dX6_valueIn_52 : decode cX6_valueIn 52 = .ok (.invokevirtual 213, 3) := by decide +kernel
theorem dX6_valueIn_55 : decode cX6_valueIn 55 = .ok (.ireturn, 1) := by decide +kernel
theorem dX6_isDevice_0 : decode cX6_isDevice 0 = .ok (.iload_n 0, 1) := by decide +kernel
theorem dX6_isDevice_1 : decode cX6_isDevice 1 = .ok (.ifCond .lt 13, 3) := by decide +kernel
theorem dX6_isDevice_4 : decode cX6_isDevice 4 = .ok (.iload_n 0, 1) := by decide +kernel
theorem dX6_isDevice_5 : decode cX6_isDevice 5 = .ok (.bipush 6, 2) := by decide +kernel
theorem dX6_isDevice_7 : decode cX6_isDevice 7 = .ok (.if_icmp .ge 7, 3) := by decide +kernel
theorem dX6_isDevice_10 : decode cX6_isDevice 10 = .ok (.iconst 1, 1) := by decide +kernel
theorem dX6_isDevice_11 : decode cX6_isDevice 11 = .ok (.goto 4, 3) := by decide +kernel
theorem dX6_isDevice_14 : decode cX6_isDevice 14 = .ok (.iconst 0, 1) := by decide +kernel
theorem dX6_isDevice_15 : decode cX6_isDevice 15 = .ok (.ireturn, 1) := by decide +kernel
theorem dX6_isPerson_0 : decode cX6_isPerson 0 = .ok (.iload_n 0, 1) := by decide +kernel
theorem dX6_isPerson_1 : decode cX6_isPerson 1 = .ok (.ifCond .lt 12, 3) := by decide +kernel
theorem dX6_isPerson_4 : decode cX6_isPerson 4 = .ok (.iload_n 0, 1) := by decide +kernel
theorem dX6_isPerson_5 : decode cX6_isPerson 5 = .ok (.iconst 3, 1) := by decide +kernel
theorem dX6_isPerson_6 : decode cX6_isPerson 6 = .ok (.if_icmp .ge 7, 3) := by decide +kernel
theorem dX6_isPerson_9 : decode cX6_isPerson 9 = .ok (.iconst 1, 1) := by decide +kernel
theorem dX6_isPerson_10 : decode cX6_isPerson 10 = .ok (.goto 4, 3) := by decide +kernel
theorem dX6_isPerson_13 : decode cX6_isPerson 13 = .ok (.iconst 0, 1) := by decide +kernel
theorem dX6_isPerson_14 : decode cX6_isPerson 14 = .ok (.ireturn, 1) := by decide +kernel
theorem dX6_isField_0 : decode cX6_isField 0 = .ok (.iload_n 0, 1) := by decide +kernel
theorem dX6_isField_1 : decode cX6_isField 1 = .ok (.ifCond .lt 12, 3) := by decide +kernel
theorem dX6_isField_4 : decode cX6_isField 4 = .ok (.iload_n 0, 1) := by decide +kernel
theorem dX6_isField_5 : decode cX6_isField 5 = .ok (.iconst 4, 1) := by decide +kernel
theorem dX6_isField_6 : decode cX6_isField 6 = .ok (.if_icmp .ge 7, 3) := by decide +kernel
theorem dX6_isField_9 : decode cX6_isField 9 = .ok (.iconst 1, 1) := by decide +kernel
theorem dX6_isField_10 : decode cX6_isField 10 = .ok (.goto 4, 3) := by decide +kernel
theorem dX6_isField_13 : decode cX6_isField 13 = .ok (.iconst 0, 1) := by decide +kernel
theorem dX6_isField_14 : decode cX6_isField 14 = .ok (.ireturn, 1) := by decide +kernel
theorem dX6_personOf_0 : decode cX6_personOf 0 = .ok (.iload_n 0, 1) := by decide +kernel
theorem dX6_personOf_1 : decode cX6_personOf 1 = .ok (.iconst 2, 1) := by decide +kernel
theorem dX6_personOf_2 : decode cX6_personOf 2 = .ok (.idiv, 1) := by decide +kernel
theorem dX6_personOf_3 : decode cX6_personOf 3 = .ok (.ireturn, 1) := by decide +kernel
theorem dX6_cell_0 : decode cX6_cell 0 = .ok (.iload_n 0, 1) := by decide +kernel
theorem dX6_cell_1 : decode cX6_cell 1 = .ok (.bipush 6, 2) := by decide +kernel
theorem dX6_cell_3 : decode cX6_cell 3 = .ok (.imul, 1) := by decide +kernel
theorem dX6_cell_4 : decode cX6_cell 4 = .ok (.iload_n 1, 1) := by decide +kernel
theorem dX6_cell_5 : decode cX6_cell 5 = .ok (.iadd, 1) := by decide +kernel
theorem dX6_cell_6 : decode cX6_cell 6 = .ok (.ireturn, 1) := by decide +kernel
theorem dX6_contains_0 : decode cX6_contains 0 = .ok (.iload_n 0, 1) := by decide +kernel
theorem dX6_contains_1 : decode cX6_contains 1 = .ok (.iload_n 1, 1) := by decide +kernel
theorem dX6_contains_2 : decode cX6_contains 2 = .ok (.ishr, 1) := by decide +kernel
theorem dX6_contains_3 : decode cX6_contains 3 = .ok (.iconst 1, 1) := by decide +kernel
theorem dX6_contains_4 : decode cX6_contains 4 = .ok (.iand, 1) := by decide +kernel
theorem dX6_contains_5 : decode cX6_contains 5 = .ok (.ifCond .eq 7, 3) := by decide +kernel
theorem dX6_contains_8 : decode cX6_contains 8 = .ok (.iconst 1, 1) := by decide +kernel
theorem dX6_contains_9 : decode cX6_contains 9 = .ok (.goto 4, 3) := by decide +kernel
theorem dX6_contains_12 : decode cX6_contains 12 = .ok (.iconst 0, 1) := by decide +kernel
theorem dX6_contains_13 : decode cX6_contains 13 = .ok (.ireturn, 1) := by decide +kernel
theorem dJ6_bitCount_0f7a4_0 : decode cJ6_bitCount_0f7a4 0 = .ok (.iload_n 0, 1) := by decide +kernel
theorem dJ6_bitCount_0f7a4_1 : decode cJ6_bitCount_0f7a4 1 = .ok (.iload_n 0, 1) := by decide +kernel
theorem dJ6_bitCount_0f7a4_2 : decode cJ6_bitCount_0f7a4 2 = .ok (.iconst 1, 1) := by decide +kernel
theorem dJ6_bitCount_0f7a4_3 : decode cJ6_bitCount_0f7a4 3 = .ok (.iushr, 1) := by decide +kernel
theorem dJ6_bitCount_0f7a4_4 : decode cJ6_bitCount_0f7a4 4 = .ok (.ldc_w 265, 3) := by decide +kernel
theorem dJ6_bitCount_0f7a4_7 : decode cJ6_bitCount_0f7a4 7 = .ok (.iand, 1) := by decide +kernel
theorem dJ6_bitCount_0f7a4_8 : decode cJ6_bitCount_0f7a4 8 = .ok (.isub, 1) := by decide +kernel
theorem dJ6_bitCount_0f7a4_9 : decode cJ6_bitCount_0f7a4 9 = .ok (.istore_n 0, 1) := by decide +kernel
theorem dJ6_bitCount_0f7a4_10 : decode cJ6_bitCount_0f7a4 10 = .ok (.iload_n 0, 1) := by decide +kernel
theorem dJ6_bitCount_0f7a4_11 : decode cJ6_bitCount_0f7a4 11 = .ok (.ldc_w 266, 3) := by decide +kernel
theorem dJ6_bitCount_0f7a4_14 : decode cJ6_bitCount_0f7a4 14 = .ok (.iand, 1) := by decide +kernel
theorem dJ6_bitCount_0f7a4_15 : decode cJ6_bitCount_0f7a4 15 = .ok (.iload_n 0, 1) := by decide +kernel
theorem dJ6_bitCount_0f7a4_16 : decode cJ6_bitCount_0f7a4 16 = .ok (.iconst 2, 1) := by decide +kernel
theorem dJ6_bitCount_0f7a4_17 : decode cJ6_bitCount_0f7a4 17 = .ok (.iushr, 1) := by decide +kernel
theorem dJ6_bitCount_0f7a4_18 : decode cJ6_bitCount_0f7a4 18 = .ok (.ldc_w 266, 3) := by decide +kernel
theorem dJ6_bitCount_0f7a4_21 : decode cJ6_bitCount_0f7a4 21 = .ok (.iand, 1) := by decide +kernel
theorem dJ6_bitCount_0f7a4_22 : decode cJ6_bitCount_0f7a4 22 = .ok (.iadd, 1) := by decide +kernel
theorem dJ6_bitCount_0f7a4_23 : decode cJ6_bitCount_0f7a4 23 = .ok (.istore_n 0, 1) := by decide +kernel
theorem dJ6_bitCount_0f7a4_24 : decode cJ6_bitCount_0f7a4 24 = .ok (.iload_n 0, 1) := by decide +kernel
theorem dJ6_bitCount_0f7a4_25 : decode cJ6_bitCount_0f7a4 25 = .ok (.iload_n 0, 1) := by decide +kernel
theorem dJ6_bitCount_0f7a4_26 : decode cJ6_bitCount_0f7a4 26 = .ok (.iconst 4, 1) := by decide +kernel
theorem dJ6_bitCount_0f7a4_27 : decode cJ6_bitCount_0f7a4 27 = .ok (.iushr, 1) := by decide +kernel
theorem dJ6_bitCount_0f7a4_28 : decode cJ6_bitCount_0f7a4 28 = .ok (.iadd, 1) := by decide +kernel
theorem dJ6_bitCount_0f7a4_29 : decode cJ6_bitCount_0f7a4 29 = .ok (.ldc_w 267, 3) := by decide +kernel
theorem dJ6_bitCount_0f7a4_32 : decode cJ6_bitCount_0f7a4 32 = .ok (.iand, 1) := by decide +kernel
theorem dJ6_bitCount_0f7a4_33 : decode cJ6_bitCount_0f7a4 33 = .ok (.istore_n 0, 1) := by decide +kernel
theorem dJ6_bitCount_0f7a4_34 : decode cJ6_bitCount_0f7a4 34 = .ok (.iload_n 0, 1) := by decide +kernel
theorem dJ6_bitCount_0f7a4_35 : decode cJ6_bitCount_0f7a4 35 = .ok (.iload_n 0, 1) := by decide +kernel
theorem dJ6_bitCount_0f7a4_36 : decode cJ6_bitCount_0f7a4 36 = .ok (.bipush 8, 2) := by decide +kernel
theorem dJ6_bitCount_0f7a4_38 : decode cJ6_bitCount_0f7a4 38 = .ok (.iushr, 1) := by decide +kernel
theorem dJ6_bitCount_0f7a4_39 : decode cJ6_bitCount_0f7a4 39 = .ok (.iadd, 1) := by decide +kernel
theorem dJ6_bitCount_0f7a4_40 : decode cJ6_bitCount_0f7a4 40 = .ok (.istore_n 0, 1) := by decide +kernel
theorem dJ6_bitCount_0f7a4_41 : decode cJ6_bitCount_0f7a4 41 = .ok (.iload_n 0, 1) := by decide +kernel
theorem dJ6_bitCount_0f7a4_42 : decode cJ6_bitCount_0f7a4 42 = .ok (.iload_n 0, 1) := by decide +kernel
theorem dJ6_bitCount_0f7a4_43 : decode cJ6_bitCount_0f7a4 43 = .ok (.bipush 16, 2) := by decide +kernel
theorem dJ6_bitCount_0f7a4_45 : decode cJ6_bitCount_0f7a4 45 = .ok (.iushr, 1) := by decide +kernel
theorem dJ6_bitCount_0f7a4_46 : decode cJ6_bitCount_0f7a4 46 = .ok (.iadd, 1) := by decide +kernel
theorem dJ6_bitCount_0f7a4_47 : decode cJ6_bitCount_0f7a4 47 = .ok (.istore_n 0, 1) := by decide +kernel
theorem dJ6_bitCount_0f7a4_48 : decode cJ6_bitCount_0f7a4 48 = .ok (.iload_n 0, 1) := by decide +kernel
theorem dJ6_bitCount_0f7a4_49 : decode cJ6_bitCount_0f7a4 49 = .ok (.bipush 63, 2) := by decide +kernel
theorem dJ6_bitCount_0f7a4_51 : decode cJ6_bitCount_0f7a4 51 = .ok (.iand, 1) := by decide +kernel
theorem dJ6_bitCount_0f7a4_52 : decode cJ6_bitCount_0f7a4 52 = .ok (.ireturn, 1) := by decide +kernel
theorem dJ9_max_7cf53_0 : decode cJ9_max_7cf53 0 = .ok (.iload_n 0, 1) := by decide +kernel
theorem dJ9_max_7cf53_1 : decode cJ9_max_7cf53 1 = .ok (.iload_n 1, 1) := by decide +kernel
theorem dJ9_max_7cf53_2 : decode cJ9_max_7cf53 2 = .ok (.if_icmp .lt 7, 3) := by decide +kernel
theorem dJ9_max_7cf53_5 : decode cJ9_max_7cf53 5 = .ok (.iload_n 0, 1) := by decide +kernel
theorem dJ9_max_7cf53_6 : decode cJ9_max_7cf53 6 = .ok (.goto 4, 3) := by decide +kernel
theorem dJ9_max_7cf53_9 : decode cJ9_max_7cf53 9 = .ok (.iload_n 1, 1) := by decide +kernel
theorem dJ9_max_7cf53_10 : decode cJ9_max_7cf53 10 = .ok (.ireturn, 1) := by decide +kernel
theorem dJ9_min_7cf53_0 : decode cJ9_min_7cf53 0 = .ok (.iload_n 0, 1) := by decide +kernel
theorem dJ9_min_7cf53_1 : decode cJ9_min_7cf53 1 = .ok (.iload_n 1, 1) := by decide +kernel
theorem dJ9_min_7cf53_2 : decode cJ9_min_7cf53 2 = .ok (.if_icmp .gt 7, 3) := by decide +kernel
theorem dJ9_min_7cf53_5 : decode cJ9_min_7cf53 5 = .ok (.iload_n 0, 1) := by decide +kernel
theorem dJ9_min_7cf53_6 : decode cJ9_min_7cf53 6 = .ok (.goto 4, 3) := by decide +kernel
theorem dJ9_min_7cf53_9 : decode cJ9_min_7cf53 9 = .ok (.iload_n 1, 1) := by decide +kernel
theorem dJ9_min_7cf53_10 : decode cJ9_min_7cf53 10 = .ok (.ireturn, 1) := by decide +kernel
theorem dJxa1e45_init_da8c8_0 : decode cJxa1e45_init_da8c8 0 = .ok (.aload_n 0, 1) := by decide +kernel
theorem dJxa1e45_init_da8c8_1 : decode cJxa1e45_init_da8c8 1 = .ok (.invokespecial 1, 3) := by decide +kernel
theorem dJxa1e45_init_da8c8_4 : decode cJxa1e45_init_da8c8 4 = .ok (.return_, 1) := by decide +kernel
theorem dJxc12de_init_da8c8_0 : decode cJxc12de_init_da8c8 0 = .ok (.aload_n 0, 1) := by decide +kernel
theorem dJxc12de_init_da8c8_1 : decode cJxc12de_init_da8c8 1 = .ok (.invokespecial 1, 3) := by decide +kernel
theorem dJxc12de_init_da8c8_4 : decode cJxc12de_init_da8c8 4 = .ok (.aload_n 0, 1) := by decide +kernel
theorem dJxc12de_init_da8c8_5 : decode cJxc12de_init_da8c8 5 = .ok (.iconst 0, 1) := by decide +kernel
theorem dJxc12de_init_da8c8_6 : decode cJxc12de_init_da8c8 6 = .ok (.putfield 7, 3) := by decide +kernel
theorem dJxc12de_init_da8c8_9 : decode cJxc12de_init_da8c8 9 = .ok (.return_, 1) := by decide +kernel
theorem dJx4a65c_init_da8c8_0 : decode cJx4a65c_init_da8c8 0 = .ok (.aload_n 0, 1) := by decide +kernel
theorem dJx4a65c_init_da8c8_1 : decode cJx4a65c_init_da8c8 1 = .ok (.invokespecial 1, 3) := by decide +kernel
theorem dJx4a65c_init_da8c8_4 : decode cJx4a65c_init_da8c8 4 = .ok (.aload_n 0, 1) := by decide +kernel
theorem dJx4a65c_init_da8c8_5 : decode cJx4a65c_init_da8c8 5 = .ok (.getstatic 39, 3) := by decide +kernel
theorem dJx4a65c_init_da8c8_8 : decode cJx4a65c_init_da8c8 8 = .ok (.putfield 9, 3) := by decide +kernel
theorem dJx4a65c_init_da8c8_11 : decode cJx4a65c_init_da8c8 11 = .ok (.return_, 1) := by decide +kernel
theorem dJx4a65c_grow_92f84_0 : decode cJx4a65c_grow_92f84 0 = .ok (.aload_n 0, 1) := by decide +kernel
theorem dJx4a65c_grow_92f84_1 : decode cJx4a65c_grow_92f84 1 = .ok (.getfield 9, 3) := by decide +kernel
theorem dJx4a65c_grow_92f84_4 : decode cJx4a65c_grow_92f84 4 = .ok (.arraylength, 1) := by decide +kernel
theorem dJx4a65c_grow_92f84_5 : decode cJx4a65c_grow_92f84 5 = .ok (.istore_n 2, 1) := by decide +kernel
theorem dJx4a65c_grow_92f84_6 : decode cJx4a65c_grow_92f84 6 = .ok (.iload_n 2, 1) := by decide +kernel
theorem dJx4a65c_grow_92f84_7 : decode cJx4a65c_grow_92f84 7 = .ok (.ifCond .gt 13, 3) := by decide +kernel
theorem dJx4a65c_grow_92f84_10 : decode cJx4a65c_grow_92f84 10 = .ok (.aload_n 0, 1) := by decide +kernel
theorem dJx4a65c_grow_92f84_11 : decode cJx4a65c_grow_92f84 11 = .ok (.getfield 9, 3) := by decide +kernel
theorem dJx4a65c_grow_92f84_14 : decode cJx4a65c_grow_92f84 14 = .ok (.getstatic 39, 3) := by decide +kernel
theorem dJx4a65c_grow_92f84_17 : decode cJx4a65c_grow_92f84 17 = .ok (.if_acmp .eq 28, 3) := by decide +kernel
theorem dJx4a65c_grow_92f84_20 : decode cJx4a65c_grow_92f84 20 = .ok (.iload_n 2, 1) := by decide +kernel
theorem dJx4a65c_grow_92f84_21 : decode cJx4a65c_grow_92f84 21 = .ok (.iload_n 1, 1) := by decide +kernel
theorem dJx4a65c_grow_92f84_22 : decode cJx4a65c_grow_92f84 22 = .ok (.iload_n 2, 1) := by decide +kernel
theorem dJx4a65c_grow_92f84_23 : decode cJx4a65c_grow_92f84 23 = .ok (.isub, 1) := by decide +kernel
theorem dJx4a65c_grow_92f84_24 : decode cJx4a65c_grow_92f84 24 = .ok (.iload_n 2, 1) := by decide +kernel
theorem dJx4a65c_grow_92f84_25 : decode cJx4a65c_grow_92f84 25 = .ok (.iconst 1, 1) := by decide +kernel
theorem dJx4a65c_grow_92f84_26 : decode cJx4a65c_grow_92f84 26 = .ok (.ishr, 1) := by decide +kernel
theorem dJx4a65c_grow_92f84_27 : decode cJx4a65c_grow_92f84 27 = .ok (.invokestatic 73, 3) := by decide +kernel
theorem dJx4a65c_grow_92f84_30 : decode cJx4a65c_grow_92f84 30 = .ok (.istore_n 3, 1) := by decide +kernel
theorem dJx4a65c_grow_92f84_31 : decode cJx4a65c_grow_92f84 31 = .ok (.aload_n 0, 1) := by decide +kernel
theorem dJx4a65c_grow_92f84_32 : decode cJx4a65c_grow_92f84 32 = .ok (.aload_n 0, 1) := by decide +kernel
theorem dJx4a65c_grow_92f84_33 : decode cJx4a65c_grow_92f84 33 = .ok (.getfield 9, 3) := by decide +kernel
theorem dJx4a65c_grow_92f84_36 : decode cJx4a65c_grow_92f84 36 = .ok (.iload_n 3, 1) := by decide +kernel
theorem dJx4a65c_grow_92f84_37 : decode cJx4a65c_grow_92f84 37 = .ok (.invokestatic 66, 3) := by decide +kernel
theorem dJx4a65c_grow_92f84_40 : decode cJx4a65c_grow_92f84 40 = .ok (.dup_x1, 1) := by decide +kernel
theorem dJx4a65c_grow_92f84_41 : decode cJx4a65c_grow_92f84 41 = .ok (.putfield 9, 3) := by decide +kernel
theorem dJx4a65c_grow_92f84_44 : decode cJx4a65c_grow_92f84 44 = .ok (.areturn, 1) := by decide +kernel
theorem dJx4a65c_grow_92f84_45 : decode cJx4a65c_grow_92f84 45 = .ok (.aload_n 0, 1) := by decide +kernel
theorem dJx4a65c_grow_92f84_46 : decode cJx4a65c_grow_92f84 46 = .ok (.bipush 10, 2) := by decide +kernel
theorem dJx4a65c_grow_92f84_48 : decode cJx4a65c_grow_92f84 48 = .ok (.iload_n 1, 1) := by decide +kernel
theorem dJx4a65c_grow_92f84_49 : decode cJx4a65c_grow_92f84 49 = .ok (.invokestatic 79, 3) := by decide +kernel
theorem dJx4a65c_grow_92f84_52 : decode cJx4a65c_grow_92f84 52 = .ok (.anewarray 7, 3) := by decide +kernel
theorem dJx4a65c_grow_92f84_55 : decode cJx4a65c_grow_92f84 55 = .ok (.dup_x1, 1) := by decide +kernel
theorem dJx4a65c_grow_92f84_56 : decode cJx4a65c_grow_92f84 56 = .ok (.putfield 9, 3) := by decide +kernel
theorem dJx4a65c_grow_92f84_59 : decode cJx4a65c_grow_92f84 59 = .ok (.areturn, 1) := by decide +kernel
theorem dJx4a65c_grow_d5877_0 : decode cJx4a65c_grow_d5877 0 = .ok (.aload_n 0, 1) := by decide +kernel
theorem dJx4a65c_grow_d5877_1 : decode cJx4a65c_grow_d5877 1 = .ok (.aload_n 0, 1) := by decide +kernel
theorem dJx4a65c_grow_d5877_2 : decode cJx4a65c_grow_d5877 2 = .ok (.getfield 48, 3) := by decide +kernel
theorem dJx4a65c_grow_d5877_5 : decode cJx4a65c_grow_d5877 5 = .ok (.iconst 1, 1) := by decide +kernel
theorem dJx4a65c_grow_d5877_6 : decode cJx4a65c_grow_d5877 6 = .ok (.iadd, 1) := by decide +kernel
theorem dJx4a65c_grow_d5877_7 : decode cJx4a65c_grow_d5877 7 = .ok (.invokevirtual 69, 3) := by decide +kernel
theorem dJx4a65c_grow_d5877_10 : decode cJx4a65c_grow_d5877 10 = .ok (.areturn, 1) := by decide +kernel
theorem dJx4a65c_size_8abf5_0 : decode cJx4a65c_size_8abf5 0 = .ok (.aload_n 0, 1) := by decide +kernel
theorem dJx4a65c_size_8abf5_1 : decode cJx4a65c_size_8abf5 1 = .ok (.getfield 48, 3) := by decide +kernel
theorem dJx4a65c_size_8abf5_4 : decode cJx4a65c_size_8abf5 4 = .ok (.ireturn, 1) := by decide +kernel
theorem dJx4a65c_elementData_915e3_0 : decode cJx4a65c_elementData_915e3 0 = .ok (.aload_n 0, 1) := by decide +kernel
theorem dJx4a65c_elementData_915e3_1 : decode cJx4a65c_elementData_915e3 1 = .ok (.getfield 9, 3) := by decide +kernel
theorem dJx4a65c_elementData_915e3_4 : decode cJx4a65c_elementData_915e3 4 = .ok (.iload_n 1, 1) := by decide +kernel
theorem dJx4a65c_elementData_915e3_5 : decode cJx4a65c_elementData_915e3 5 = .ok (.aaload, 1) := by decide +kernel
theorem dJx4a65c_elementData_915e3_6 : decode cJx4a65c_elementData_915e3 6 = .ok (.areturn, 1) := by decide +kernel
theorem dJx4a65c_get_915e3_0 : decode cJx4a65c_get_915e3 0 = .ok (.iload_n 1, 1) := by decide +kernel
theorem dJx4a65c_get_915e3_1 : decode cJx4a65c_get_915e3 1 = .ok (.aload_n 0, 1) := by decide +kernel
theorem dJx4a65c_get_915e3_2 : decode cJx4a65c_get_915e3 2 = .ok (.getfield 48, 3) := by decide +kernel
theorem dJx4a65c_get_915e3_5 : decode cJx4a65c_get_915e3 5 = .ok (.invokestatic 118, 3) := by decide +kernel
theorem dJx4a65c_get_915e3_8 : decode cJx4a65c_get_915e3 8 = .ok (.pop, 1) := by decide +kernel
theorem dJx4a65c_get_915e3_9 : decode cJx4a65c_get_915e3 9 = .ok (.aload_n 0, 1) := by decide +kernel
theorem dJx4a65c_get_915e3_10 : decode cJx4a65c_get_915e3 10 = .ok (.iload_n 1, 1) := by decide +kernel
theorem dJx4a65c_get_915e3_11 : decode cJx4a65c_get_915e3 11 = .ok (.invokevirtual 123, 3) := by decide +kernel
theorem dJx4a65c_get_915e3_14 : decode cJx4a65c_get_915e3 14 = .ok (.areturn, 1) := by decide +kernel
theorem dJx4a65c_add_72be8_0 : decode cJx4a65c_add_72be8 0 = .ok (.iload_n 3, 1) := by decide +kernel
theorem dJx4a65c_add_72be8_1 : decode cJx4a65c_add_72be8 1 = .ok (.aload_n 2, 1) := by decide +kernel
theorem dJx4a65c_add_72be8_2 : decode cJx4a65c_add_72be8 2 = .ok (.arraylength, 1) := by decide +kernel
theorem dJx4a65c_add_72be8_3 : decode cJx4a65c_add_72be8 3 = .ok (.if_icmp .ne 8, 3) := by decide +kernel
theorem dJx4a65c_add_72be8_6 : decode cJx4a65c_add_72be8 6 = .ok (.aload_n 0, 1) := by decide +kernel
theorem dJx4a65c_add_72be8_7 : decode cJx4a65c_add_72be8 7 = .ok (.invokevirtual 129, 3) := by decide +kernel
theorem dJx4a65c_add_72be8_10 : decode cJx4a65c_add_72be8 10 = .ok (.astore_n 2, 1) := by decide +kernel
theorem dJx4a65c_add_72be8_11 : decode cJx4a65c_add_72be8 11 = .ok (.aload_n 2, 1) := by decide +kernel
theorem dJx4a65c_add_72be8_12 : decode cJx4a65c_add_72be8 12 = .ok (.iload_n 3, 1) := by decide +kernel
theorem dJx4a65c_add_72be8_13 : decode cJx4a65c_add_72be8 13 = .ok (.aload_n 1, 1) := by decide +kernel
theorem dJx4a65c_add_72be8_14 : decode cJx4a65c_add_72be8 14 = .ok (.aastore, 1) := by decide +kernel
theorem dJx4a65c_add_72be8_15 : decode cJx4a65c_add_72be8 15 = .ok (.aload_n 0, 1) := by decide +kernel
theorem dJx4a65c_add_72be8_16 : decode cJx4a65c_add_72be8 16 = .ok (.iload_n 3, 1) := by decide +kernel
theorem dJx4a65c_add_72be8_17 : decode cJx4a65c_add_72be8 17 = .ok (.iconst 1, 1) := by decide +kernel
theorem dJx4a65c_add_72be8_18 : decode cJx4a65c_add_72be8 18 = .ok (.iadd, 1) := by decide +kernel
theorem dJx4a65c_add_72be8_19 : decode cJx4a65c_add_72be8 19 = .ok (.putfield 48, 3) := by decide +kernel
theorem dJx4a65c_add_72be8_22 : decode cJx4a65c_add_72be8 22 = .ok (.return_, 1) := by decide +kernel
theorem dJx4a65c_add_9ea2d_0 : decode cJx4a65c_add_9ea2d 0 = .ok (.aload_n 0, 1) := by decide +kernel
theorem dJx4a65c_add_9ea2d_1 : decode cJx4a65c_add_9ea2d 1 = .ok (.dup, 1) := by decide +kernel
theorem dJx4a65c_add_9ea2d_2 : decode cJx4a65c_add_9ea2d 2 = .ok (.getfield 63, 3) := by decide +kernel
theorem dJx4a65c_add_9ea2d_5 : decode cJx4a65c_add_9ea2d 5 = .ok (.iconst 1, 1) := by decide +kernel
theorem dJx4a65c_add_9ea2d_6 : decode cJx4a65c_add_9ea2d 6 = .ok (.iadd, 1) := by decide +kernel
theorem dJx4a65c_add_9ea2d_7 : decode cJx4a65c_add_9ea2d 7 = .ok (.putfield 63, 3) := by decide +kernel
theorem dJx4a65c_add_9ea2d_10 : decode cJx4a65c_add_9ea2d 10 = .ok (.aload_n 0, 1) := by decide +kernel
theorem dJx4a65c_add_9ea2d_11 : decode cJx4a65c_add_9ea2d 11 = .ok (.aload_n 1, 1) := by decide +kernel
theorem dJx4a65c_add_9ea2d_12 : decode cJx4a65c_add_9ea2d 12 = .ok (.aload_n 0, 1) := by decide +kernel
theorem dJx4a65c_add_9ea2d_13 : decode cJx4a65c_add_9ea2d 13 = .ok (.getfield 9, 3) := by decide +kernel
theorem dJx4a65c_add_9ea2d_16 : decode cJx4a65c_add_9ea2d 16 = .ok (.aload_n 0, 1) := by decide +kernel
theorem dJx4a65c_add_9ea2d_17 : decode cJx4a65c_add_9ea2d 17 = .ok (.getfield 48, 3) := by decide +kernel
theorem dJx4a65c_add_9ea2d_20 : decode cJx4a65c_add_9ea2d 20 = .ok (.invokevirtual 131, 3) := by decide +kernel
theorem dJx4a65c_add_9ea2d_23 : decode cJx4a65c_add_9ea2d 23 = .ok (.iconst 1, 1) := by decide +kernel
theorem dJx4a65c_add_9ea2d_24 : decode cJx4a65c_add_9ea2d 24 = .ok (.ireturn, 1) := by decide +kernel
theorem dJ7_copyOf_1904c_0 : decode cJ7_copyOf_1904c 0 = .ok (.aload_n 0, 1) := by decide +kernel
theorem dJ7_copyOf_1904c_1 : decode cJ7_copyOf_1904c 1 = .ok (.iload_n 1, 1) := by decide +kernel
theorem dJ7_copyOf_1904c_2 : decode cJ7_copyOf_1904c 2 = .ok (.aload_n 0, 1) := by decide +kernel
theorem dJ7_copyOf_1904c_3 : decode cJ7_copyOf_1904c 3 = .ok (.invokevirtual 86, 3) := by decide +kernel
theorem dJ7_copyOf_1904c_6 : decode cJ7_copyOf_1904c 6 = .ok (.invokestatic 300, 3) := by decide +kernel
theorem dJ7_copyOf_1904c_9 : decode cJ7_copyOf_1904c 9 = .ok (.areturn, 1) := by decide +kernel
theorem dJ7_copyOf_6403c_0 : decode cJ7_copyOf_6403c 0 = .ok (.aload_n 2, 1) := by decide +kernel
theorem dJ7_copyOf_6403c_1 : decode cJ7_copyOf_6403c 1 = .ok (.ldc 110, 2) := by decide +kernel
theorem dJ7_copyOf_6403c_3 : decode cJ7_copyOf_6403c 3 = .ok (.if_acmp .ne 10, 3) := by decide +kernel
theorem dJ7_copyOf_6403c_6 : decode cJ7_copyOf_6403c 6 = .ok (.iload_n 1, 1) := by decide +kernel
theorem dJ7_copyOf_6403c_7 : decode cJ7_copyOf_6403c 7 = .ok (.anewarray 2, 3) := by decide +kernel
theorem dJ7_copyOf_6403c_10 : decode cJ7_copyOf_6403c 10 = .ok (.goto 14, 3) := by decide +kernel
theorem dJ7_copyOf_6403c_13 : decode cJ7_copyOf_6403c 13 = .ok (.aload_n 2, 1) := by decide +kernel
theorem dJ7_copyOf_6403c_14 : decode cJ7_copyOf_6403c 14 = .ok (.invokevirtual 90, 3) := by decide +kernel
theorem dJ7_copyOf_6403c_17 : decode cJ7_copyOf_6403c 17 = .ok (.iload_n 1, 1) := by decide +kernel
theorem dJ7_copyOf_6403c_18 : decode cJ7_copyOf_6403c 18 = .ok (.invokestatic 95, 3) := by decide +kernel
theorem dJ7_copyOf_6403c_21 : decode cJ7_copyOf_6403c 21 = .ok (.checkcast 110, 3) := by decide +kernel
theorem dJ7_copyOf_6403c_24 : decode cJ7_copyOf_6403c 24 = .ok (.astore_n 3, 1) := by decide +kernel
theorem dJ7_copyOf_6403c_25 : decode cJ7_copyOf_6403c 25 = .ok (.aload_n 0, 1) := by decide +kernel
theorem dJ7_copyOf_6403c_26 : decode cJ7_copyOf_6403c 26 = .ok (.iconst 0, 1) := by decide +kernel
theorem dJ7_copyOf_6403c_27 : decode cJ7_copyOf_6403c 27 = .ok (.aload_n 3, 1) := by decide +kernel
theorem dJ7_copyOf_6403c_28 : decode cJ7_copyOf_6403c 28 = .ok (.iconst 0, 1) := by decide +kernel
theorem dJ7_copyOf_6403c_29 : decode cJ7_copyOf_6403c 29 = .ok (.aload_n 0, 1) := by decide +kernel
theorem dJ7_copyOf_6403c_30 : decode cJ7_copyOf_6403c 30 = .ok (.arraylength, 1) := by decide +kernel
theorem dJ7_copyOf_6403c_31 : decode cJ7_copyOf_6403c 31 = .ok (.iload_n 1, 1) := by decide +kernel
theorem dJ7_copyOf_6403c_32 : decode cJ7_copyOf_6403c 32 = .ok (.invokestatic 304, 3) := by decide +kernel
theorem dJ7_copyOf_6403c_35 : decode cJ7_copyOf_6403c 35 = .ok (.invokestatic 150, 3) := by decide +kernel
theorem dJ7_copyOf_6403c_38 : decode cJ7_copyOf_6403c 38 = .ok (.aload_n 3, 1) := by decide +kernel
theorem dJ7_copyOf_6403c_39 : decode cJ7_copyOf_6403c 39 = .ok (.areturn, 1) := by decide +kernel
theorem dJ15_checkIndex_7cf53_0 : decode cJ15_checkIndex_7cf53 0 = .ok (.iload_n 0, 1) := by decide +kernel
theorem dJ15_checkIndex_7cf53_1 : decode cJ15_checkIndex_7cf53 1 = .ok (.iload_n 1, 1) := by decide +kernel
theorem dJ15_checkIndex_7cf53_2 : decode cJ15_checkIndex_7cf53 2 = .ok (.aconst_null, 1) := by decide +kernel
theorem dJ15_checkIndex_7cf53_3 : decode cJ15_checkIndex_7cf53 3 = .ok (.invokestatic 105, 3) := by decide +kernel
theorem dJ15_checkIndex_7cf53_6 : decode cJ15_checkIndex_7cf53 6 = .ok (.ireturn, 1) := by decide +kernel
theorem dJ8_newLength_cabcc_0 : decode cJ8_newLength_cabcc 0 = .ok (.iload_n 0, 1) := by decide +kernel
theorem dJ8_newLength_cabcc_1 : decode cJ8_newLength_cabcc 1 = .ok (.iload_n 1, 1) := by decide +kernel
theorem dJ8_newLength_cabcc_2 : decode cJ8_newLength_cabcc 2 = .ok (.iload_n 2, 1) := by decide +kernel
theorem dJ8_newLength_cabcc_3 : decode cJ8_newLength_cabcc 3 = .ok (.invokestatic 194, 3) := by decide +kernel
theorem dJ8_newLength_cabcc_6 : decode cJ8_newLength_cabcc 6 = .ok (.iadd, 1) := by decide +kernel
theorem dJ8_newLength_cabcc_7 : decode cJ8_newLength_cabcc 7 = .ok (.istore_n 3, 1) := by decide +kernel
theorem dJ8_newLength_cabcc_8 : decode cJ8_newLength_cabcc 8 = .ok (.iconst 0, 1) := by decide +kernel
theorem dJ8_newLength_cabcc_9 : decode cJ8_newLength_cabcc 9 = .ok (.iload_n 3, 1) := by decide +kernel
theorem dJ8_newLength_cabcc_10 : decode cJ8_newLength_cabcc 10 = .ok (.if_icmp .ge 11, 3) := by decide +kernel
theorem dJ8_newLength_cabcc_13 : decode cJ8_newLength_cabcc 13 = .ok (.iload_n 3, 1) := by decide +kernel
theorem dJ8_newLength_cabcc_14 : decode cJ8_newLength_cabcc 14 = .ok (.ldc 200, 2) := by decide +kernel
theorem dJ8_newLength_cabcc_16 : decode cJ8_newLength_cabcc 16 = .ok (.if_icmp .gt 5, 3) := by decide +kernel
theorem dJ8_newLength_cabcc_19 : decode cJ8_newLength_cabcc 19 = .ok (.iload_n 3, 1) := by decide +kernel
theorem dJ8_newLength_cabcc_20 : decode cJ8_newLength_cabcc 20 = .ok (.ireturn, 1) := by decide +kernel
theorem dJ8_newLength_cabcc_21 : decode cJ8_newLength_cabcc 21 = .ok (.iload_n 0, 1) := by decide +kernel
theorem dJ8_newLength_cabcc_22 : decode cJ8_newLength_cabcc 22 = .ok (.iload_n 1, 1) := by decide +kernel
theorem dJ8_newLength_cabcc_23 : decode cJ8_newLength_cabcc 23 = .ok (.invokestatic 201, 3) := by decide +kernel
theorem dJ8_newLength_cabcc_26 : decode cJ8_newLength_cabcc 26 = .ok (.ireturn, 1) := by decide +kernel
theorem dJ8_hugeLength_7cf53_0 : decode cJ8_hugeLength_7cf53 0 = .ok (.iload_n 0, 1) := by decide +kernel
theorem dJ8_hugeLength_7cf53_1 : decode cJ8_hugeLength_7cf53 1 = .ok (.iload_n 1, 1) := by decide +kernel
theorem dJ8_hugeLength_7cf53_2 : decode cJ8_hugeLength_7cf53 2 = .ok (.iadd, 1) := by decide +kernel
theorem dJ8_hugeLength_7cf53_3 : decode cJ8_hugeLength_7cf53 3 = .ok (.istore_n 2, 1) := by decide +kernel
theorem dJ8_hugeLength_7cf53_4 : decode cJ8_hugeLength_7cf53 4 = .ok (.iload_n 2, 1) := by decide +kernel
theorem dJ8_hugeLength_7cf53_5 : decode cJ8_hugeLength_7cf53 5 = .ok (.ifCond .ge 44, 3) := by decide +kernel
theorem dJ8_hugeLength_7cf53_8 : decode cJ8_hugeLength_7cf53 8 = .ok (.new 204, 3) := by decide +kernel
theorem dJ8_hugeLength_7cf53_11 : decode cJ8_hugeLength_7cf53 11 = .ok (.dup, 1) := by decide +kernel
theorem dJ8_hugeLength_7cf53_12 : decode cJ8_hugeLength_7cf53 12 = .ok (.new 89, 3) := by decide +kernel
theorem dJ8_hugeLength_7cf53_15 : decode cJ8_hugeLength_7cf53 15 = .ok (.dup, 1) := by decide +kernel
theorem dJ8_hugeLength_7cf53_16 : decode cJ8_hugeLength_7cf53 16 = .ok (.invokespecial 91, 3) := by decide +kernel
theorem dJ8_hugeLength_7cf53_19 : decode cJ8_hugeLength_7cf53 19 = .ok (.ldc 206, 2) := by decide +kernel
theorem dJ8_hugeLength_7cf53_21 : decode cJ8_hugeLength_7cf53 21 = .ok (.invokevirtual 94, 3) := by decide +kernel
theorem dJ8_hugeLength_7cf53_24 : decode cJ8_hugeLength_7cf53 24 = .ok (.iload_n 0, 1) := by decide +kernel
theorem dJ8_hugeLength_7cf53_25 : decode cJ8_hugeLength_7cf53 25 = .ok (.invokevirtual 98, 3) := by decide +kernel
theorem dJ8_hugeLength_7cf53_28 : decode cJ8_hugeLength_7cf53 28 = .ok (.ldc 208, 2) := by decide +kernel
theorem dJ8_hugeLength_7cf53_30 : decode cJ8_hugeLength_7cf53 30 = .ok (.invokevirtual 94, 3) := by decide +kernel
theorem dJ8_hugeLength_7cf53_33 : decode cJ8_hugeLength_7cf53 33 = .ok (.iload_n 1, 1) := by decide +kernel
theorem dJ8_hugeLength_7cf53_34 : decode cJ8_hugeLength_7cf53 34 = .ok (.invokevirtual 98, 3) := by decide +kernel
theorem dJ8_hugeLength_7cf53_37 : decode cJ8_hugeLength_7cf53 37 = .ok (.ldc 210, 2) := by decide +kernel
theorem dJ8_hugeLength_7cf53_39 : decode cJ8_hugeLength_7cf53 39 = .ok (.invokevirtual 94, 3) := by decide +kernel
theorem dJ8_hugeLength_7cf53_42 : decode cJ8_hugeLength_7cf53 42 = .ok (.invokevirtual 101, 3) := by decide +kernel
theorem dJ8_hugeLength_7cf53_45 : decode cJ8_hugeLength_7cf53 45 = .ok (.invokespecial 212, 3) := by decide +kernel
theorem dJ8_hugeLength_7cf53_48 : decode cJ8_hugeLength_7cf53 48 = .ok (.athrow, 1) := by decide +kernel
theorem dJ8_hugeLength_7cf53_49 : decode cJ8_hugeLength_7cf53 49 = .ok (.iload_n 2, 1) := by decide +kernel
theorem dJ8_hugeLength_7cf53_50 : decode cJ8_hugeLength_7cf53 50 = .ok (.ldc 200, 2) := by decide +kernel
theorem dJ8_hugeLength_7cf53_52 : decode cJ8_hugeLength_7cf53 52 = .ok (.if_icmp .gt 6, 3) := by decide +kernel
theorem dJ8_hugeLength_7cf53_55 : decode cJ8_hugeLength_7cf53 55 = .ok (.ldc 200, 2) := by decide +kernel
theorem dJ8_hugeLength_7cf53_57 : decode cJ8_hugeLength_7cf53 57 = .ok (.ireturn, 1) := by decide +kernel
theorem dJ8_hugeLength_7cf53_58 : decode cJ8_hugeLength_7cf53 58 = .ok (.iload_n 2, 1) := by decide +kernel
theorem dJ8_hugeLength_7cf53_59 : decode cJ8_hugeLength_7cf53 59 = .ok (.ireturn, 1) := by decide +kernel
theorem dJ3_checkIndex_8e157_0 : decode cJ3_checkIndex_8e157 0 = .ok (.iload_n 0, 1) := by decide +kernel
theorem dJ3_checkIndex_8e157_1 : decode cJ3_checkIndex_8e157 1 = .ok (.ifCond .lt 8, 3) := by decide +kernel
theorem dJ3_checkIndex_8e157_4 : decode cJ3_checkIndex_8e157 4 = .ok (.iload_n 0, 1) := by decide +kernel
theorem dJ3_checkIndex_8e157_5 : decode cJ3_checkIndex_8e157 5 = .ok (.iload_n 1, 1) := by decide +kernel
theorem dJ3_checkIndex_8e157_6 : decode cJ3_checkIndex_8e157 6 = .ok (.if_icmp .lt 10, 3) := by decide +kernel
theorem dJ3_checkIndex_8e157_9 : decode cJ3_checkIndex_8e157 9 = .ok (.aload_n 2, 1) := by decide +kernel
theorem dJ3_checkIndex_8e157_10 : decode cJ3_checkIndex_8e157 10 = .ok (.iload_n 0, 1) := by decide +kernel
theorem dJ3_checkIndex_8e157_11 : decode cJ3_checkIndex_8e157 11 = .ok (.iload_n 1, 1) := by decide +kernel
theorem dJ3_checkIndex_8e157_12 : decode cJ3_checkIndex_8e157 12 = .ok (.invokestatic 95, 3) := by decide +kernel
theorem dJ3_checkIndex_8e157_15 : decode cJ3_checkIndex_8e157 15 = .ok (.athrow, 1) := by decide +kernel
theorem dJ3_checkIndex_8e157_16 : decode cJ3_checkIndex_8e157 16 = .ok (.iload_n 0, 1) := by decide +kernel
theorem dJ3_checkIndex_8e157_17 : decode cJ3_checkIndex_8e157 17 = .ok (.ireturn, 1) := by decide +kernel
end
section
theorem dX7_init_0 : decode cX7_init 0 = .ok (.aload_n 0, 1) := by decide +kernel
theorem dX7_init_1 : decode cX7_init 1 = .ok (.invokespecial 1, 3) := by decide +kernel
theorem dX7_init_4 : decode cX7_init 4 = .ok (.aload_n 0, 1) := by decide +kernel
theorem dX7_init_5 : decode cX7_init 5 = .ok (.bipush 6, 2) := by decide +kernel
theorem dX7_init_7 : decode cX7_init 7 = .ok (.newarray .int, 2) := by decide +kernel
theorem dX7_init_9 : decode cX7_init 9 = .ok (.putfield 7, 3) := by decide +kernel
theorem dX7_init_12 : decode cX7_init 12 = .ok (.aload_n 0, 1) := by decide +kernel
theorem dX7_init_13 : decode cX7_init 13 = .ok (.bipush 10, 2) := by decide +kernel
theorem dX7_init_15 : decode cX7_init 15 = .ok (.newarray .int, 2) := by decide +kernel
theorem dX7_init_17 : decode cX7_init 17 = .ok (.putfield 13, 3) := by decide +kernel
theorem dX7_init_20 : decode cX7_init 20 = .ok (.aload_n 0, 1) := by decide +kernel
theorem dX7_init_21 : decode cX7_init 21 = .ok (.bipush 30, 2) := by decide +kernel
theorem dX7_init_23 : decode cX7_init 23 = .ok (.newarray .int, 2) := by decide +kernel
theorem dX7_init_25 : decode cX7_init 25 = .ok (.putfield 16, 3) := by decide +kernel
theorem dX7_init_28 : decode cX7_init 28 = .ok (.aload_n 0, 1) := by decide +kernel
theorem dX7_init_29 : decode cX7_init 29 = .ok (.bipush 60, 2) := by decide +kernel
theorem dX7_init_31 : decode cX7_init 31 = .ok (.newarray .boolean, 2) := by decide +kernel
theorem dX7_init_33 : decode cX7_init 33 = .ok (.putfield 19, 3) := by decide +kernel
theorem dX7_init_36 : decode cX7_init 36 = .ok (.aload_n 0, 1) := by decide +kernel
theorem dX7_init_37 : decode cX7_init 37 = .ok (.sipush 1440, 3) := by decide +kernel
theorem dX7_init_40 : decode cX7_init 40 = .ok (.newarray .int, 2) := by decide +kernel
theorem dX7_init_42 : decode cX7_init 42 = .ok (.putfield 23, 3) := by decide +kernel
theorem dX7_init_45 : decode cX7_init 45 = .ok (.aload_n 0, 1) := by decide +kernel
theorem dX7_init_46 : decode cX7_init 46 = .ok (.sipush 1440, 3) := by decide +kernel
theorem dX7_init_49 : decode cX7_init 49 = .ok (.newarray .int, 2) := by decide +kernel
theorem dX7_init_51 : decode cX7_init 51 = .ok (.putfield 26, 3) := by decide +kernel
theorem dX7_init_54 : decode cX7_init 54 = .ok (.aload_n 0, 1) := by decide +kernel
theorem dX7_init_55 : decode cX7_init 55 = .ok (.sipush 1440, 3) := by decide +kernel
theorem dX7_init_58 : decode cX7_init 58 = .ok (.newarray .int, 2) := by decide +kernel
theorem dX7_init_60 : decode cX7_init 60 = .ok (.putfield 29, 3) := by decide +kernel
theorem dX7_init_63 : decode cX7_init 63 = .ok (.aload_n 0, 1) := by decide +kernel
theorem dX7_init_64 : decode cX7_init 64 = .ok (.bipush 60, 2) := by decide +kernel
theorem dX7_init_66 : decode cX7_init 66 = .ok (.newarray .boolean, 2) := by decide +kernel
theorem dX7_init_68 : decode cX7_init 68 = .ok (.putfield 32, 3) := by decide +kernel
theorem dX7_init_71 : decode cX7_init 71 = .ok (.aload_n 0, 1) := by decide +kernel
theorem dX7_init_72 : decode cX7_init 72 = .ok (.sipush 1440, 3) := by decide +kernel
theorem dX7_init_75 : decode cX7_init 75 = .ok (.newarray .int, 2) := by decide +kernel
theorem dX7_init_77 : decode cX7_init 77 = .ok (.putfield 35, 3) := by decide +kernel
theorem dX7_init_80 : decode cX7_init 80 = .ok (.aload_n 0, 1) := by decide +kernel
theorem dX7_init_81 : decode cX7_init 81 = .ok (.sipush 1024, 3) := by decide +kernel
theorem dX7_init_84 : decode cX7_init 84 = .ok (.newarray .int, 2) := by decide +kernel
theorem dX7_init_86 : decode cX7_init 86 = .ok (.putfield 38, 3) := by decide +kernel
theorem dX7_init_89 : decode cX7_init 89 = .ok (.aload_n 0, 1) := by decide +kernel
theorem dX7_init_90 : decode cX7_init 90 = .ok (.sipush 24576, 3) := by decide +kernel
theorem dX7_init_93 : decode cX7_init 93 = .ok (.newarray .int, 2) := by decide +kernel
theorem dX7_init_95 : decode cX7_init 95 = .ok (.putfield 41, 3) := by decide +kernel
theorem dX7_init_98 : decode cX7_init 98 = .ok (.aload_n 0, 1) := by decide +kernel
theorem dX7_init_99 : decode cX7_init 99 = .ok (.sipush 6144, 3) := by decide +kernel
theorem dX7_init_102 : decode cX7_init 102 = .ok (.newarray .int, 2) := by decide +kernel
theorem dX7_init_104 : decode cX7_init 104 = .ok (.putfield 44, 3) := by decide +kernel
theorem dX7_init_107 : decode cX7_init 107 = .ok (.return_, 1) := by decide +kernel
theorem dX7_thrown_0 : decode cX7_thrown 0 = .ok (.aload_n 0, 1) := by decide +kernel
theorem dX7_thrown_1 : decode cX7_thrown 1 = .ok (.getfield 47, 3) := by decide +kernel
theorem dX7_thrown_4 : decode cX7_thrown 4 = .ok (.ireturn, 1) := by decide +kernel
theorem dX7_fails_0 : decode cX7_fails 0 = .ok (.aload_n 0, 1) := by decide +kernel
theorem dX7_fails_1 : decode cX7_fails 1 = .ok (.iload_n 1, 1) := by decide +kernel
theorem dX7_fails_2 : decode cX7_fails 2 = .ok (.putfield 47, 3) := by decide +kernel
theorem dX7_fails_5 : decode cX7_fails 5 = .ok (.iload_n 1, 1) := by decide +kernel
theorem dX7_fails_6 : decode cX7_fails 6 = .ok (.ifCond .le 7, 3) := by decide +kernel
theorem dX7_fails_9 : decode cX7_fails 9 = .ok (.iconst 1, 1) := by decide +kernel
theorem dX7_fails_10 : decode cX7_fails 10 = .ok (.goto 4, 3) := by decide +kernel
theorem dX7_fails_13 : decode cX7_fails 13 = .ok (.iconst 0, 1) := by decide +kernel
theorem dX7_fails_14 : decode cX7_fails 14 = .ok (.ireturn, 1) := by decide +kernel
theorem dX7_isIn_0 : decode cX7_isIn 0 = .ok (.iload_n 0, 1) := by decide +kernel
theorem dX7_isIn_1 : decode cX7_isIn 1 = .ok (.iload_n 1, 1) := by decide +kernel
theorem dX7_isIn_2 : decode cX7_isIn 2 = .ok (.if_icmp .lt 12, 3) := by decide +kernel
theorem dX7_isIn_5 : decode cX7_isIn 5 = .ok (.iload_n 0, 1) := by decide +kernel
theorem dX7_isIn_6 : decode cX7_isIn 6 = .ok (.iload_n 2, 1) := by decide +kernel
theorem dX7_isIn_7 : decode cX7_isIn 7 = .ok (.if_icmp .gt 7, 3) := by decide +kernel
theorem dX7_isIn_10 : decode cX7_isIn 10 = .ok (.iconst 1, 1) := by decide +kernel
theorem dX7_isIn_11 : decode cX7_isIn 11 = .ok (.goto 4, 3) := by decide +kernel
theorem dX7_isIn_14 : decode cX7_isIn 14 = .ok (.iconst 0, 1) := by decide +kernel
theorem dX7_isIn_15 : decode cX7_isIn 15 = .ok (.ireturn, 1) := by decide +kernel
theorem dX7_isDevice_0 : decode cX7_isDevice 0 = .ok (.iload_n 0, 1) := by decide +kernel
theorem dX7_isDevice_1 : decode cX7_isDevice 1 = .ok (.iconst 0, 1) := by decide +kernel
theorem dX7_isDevice_2 : decode cX7_isDevice 2 = .ok (.iconst 5, 1) := by decide +kernel
theorem dX7_isDevice_3 : decode cX7_isDevice 3 = .ok (.invokestatic 51, 3) := by decide +kernel
theorem dX7_isDevice_6 : decode cX7_isDevice 6 = .ok (.ireturn, 1) := by decide +kernel
theorem dX7_isField_0 : decode cX7_isField 0 = .ok (.iload_n 0, 1) := by decide +kernel
theorem dX7_isField_1 : decode cX7_isField 1 = .ok (.iconst 0, 1) := by decide +kernel
theorem dX7_isField_2 : decode cX7_isField 2 = .ok (.iconst 3, 1) := by decide +kernel
theorem dX7_isField_3 : decode cX7_isField 3 = .ok (.invokestatic 51, 3) := by decide +kernel
theorem dX7_isField_6 : decode cX7_isField 6 = .ok (.ireturn, 1) := by decide +kernel
theorem dX7_isEntry_0 : decode cX7_isEntry 0 = .ok (.iload_n 1, 1) := by decide +kernel
theorem dX7_isEntry_1 : decode cX7_isEntry 1 = .ok (.iconst 0, 1) := by decide +kernel
theorem dX7_isEntry_2 : decode cX7_isEntry 2 = .ok (.aload_n 0, 1) := by decide +kernel
theorem dX7_isEntry_3 : decode cX7_isEntry 3 = .ok (.getfield 55, 3) := by decide +kernel
theorem dX7_isEntry_6 : decode cX7_isEntry 6 = .ok (.iconst 1, 1) := by decide +kernel
theorem dX7_isEntry_7 : decode cX7_isEntry 7 = .ok (.isub, 1) := by decide +kernel
theorem dX7_isEntry_8 : decode cX7_isEntry 8 = .ok (.invokestatic 51, 3) := by decide +kernel
theorem dX7_isEntry_11 : decode cX7_isEntry 11 = .ok (.ireturn, 1) := by decide +kernel
theorem dX7_pair_0 : decode cX7_pair 0 = .ok (.bipush 10, 2) := by decide +kernel
theorem dX7_pair_2 : decode cX7_pair 2 = .ok (.iload_n 0, 1) := by decide +kernel
theorem dX7_pair_3 : decode cX7_pair 3 = .ok (.imul, 1) := by decide +kernel
theorem dX7_pair_4 : decode cX7_pair 4 = .ok (.iload_n 1, 1) := by decide +kernel
theorem dX7_pair_5 : decode cX7_pair 5 = .ok (.iadd, 1) := by decide +kernel
theorem dX7_pair_6 : decode cX7_pair 6 = .ok (.ireturn, 1) := by decide +kernel
theorem dX7_place_0 : decode cX7_place 0 = .ok (.bipush 24, 2) := by decide +kernel
theorem dX7_place_2 : decode cX7_place 2 = .ok (.bipush 10, 2) := by decide +kernel
theorem dX7_place_4 : decode cX7_place 4 = .ok (.iload_n 0, 1) := by decide +kernel
theorem dX7_place_5 : decode cX7_place 5 = .ok (.imul, 1) := by decide +kernel
theorem dX7_place_6 : decode cX7_place 6 = .ok (.iload_n 1, 1) := by decide +kernel
theorem dX7_place_7 : decode cX7_place 7 = .ok (.iadd, 1) := by decide +kernel
theorem dX7_place_8 : decode cX7_place 8 = .ok (.imul, 1) := by decide +kernel
theorem dX7_place_9 : decode cX7_place 9 = .ok (.bipush 6, 2) := by decide +kernel
theorem dX7_place_11 : decode cX7_place 11 = .ok (.iload_n 2, 1) := by decide +kernel
theorem dX7_place_12 : decode cX7_place 12 = .ok (.imul, 1) := by decide +kernel
theorem dX7_place_13 : decode cX7_place 13 = .ok (.iadd, 1) := by decide +kernel
theorem dX7_place_14 : decode cX7_place 14 = .ok (.iload_n 3, 1) := by decide +kernel
theorem dX7_place_15 : decode cX7_place 15 = .ok (.iadd, 1) := by decide +kernel
theorem dX7_place_16 : decode cX7_place 16 = .ok (.ireturn, 1) := by decide +kernel
theorem dX7_isKnown_0 : decode cX7_isKnown 0 = .ok (.iload_n 1, 1) := by decide +kernel
theorem dX7_isKnown_1 : decode cX7_isKnown 1 = .ok (.invokestatic 58, 3) := by decide +kernel
theorem dX7_isKnown_4 : decode cX7_isKnown 4 = .ok (.ifCond .eq 28, 3) := by decide +kernel
theorem dX7_isKnown_7 : decode cX7_isKnown 7 = .ok (.aload_n 0, 1) := by decide +kernel
theorem dX7_isKnown_8 : decode cX7_isKnown 8 = .ok (.iload_n 2, 1) := by decide +kernel
theorem dX7_isKnown_9 : decode cX7_isKnown 9 = .ok (.invokevirtual 62, 3) := by decide +kernel
theorem dX7_isKnown_12 : decode cX7_isKnown 12 = .ok (.ifCond .eq 20, 3) := by decide +kernel
theorem dX7_isKnown_15 : decode cX7_isKnown 15 = .ok (.aload_n 0, 1) := by decide +kernel
theorem dX7_isKnown_16 : decode cX7_isKnown 16 = .ok (.getfield 19, 3) := by decide +kernel
theorem dX7_isKnown_19 : decode cX7_isKnown 19 = .ok (.iload_n 1, 1) := by decide +kernel
theorem dX7_isKnown_20 : decode cX7_isKnown 20 = .ok (.iload_n 2, 1) := by decide +kernel
theorem dX7_isKnown_21 : decode cX7_isKnown 21 = .ok (.invokestatic 65, 3) := by decide +kernel
theorem dX7_isKnown_24 : decode cX7_isKnown 24 = .ok (.baload, 1) := by decide +kernel
theorem dX7_isKnown_25 : decode cX7_isKnown 25 = .ok (.ifCond .eq 7, 3) := by decide +kernel
theorem dX7_isKnown_28 : decode cX7_isKnown 28 = .ok (.iconst 1, 1) := by decide +kernel
theorem dX7_isKnown_29 : decode cX7_isKnown 29 = .ok (.goto 4, 3) := by decide +kernel
theorem dX7_isKnown_32 : decode cX7_isKnown 32 = .ok (.iconst 0, 1) := by decide +kernel
theorem dX7_isKnown_33 : decode cX7_isKnown 33 = .ok (.ireturn, 1) := by decide +kernel
theorem dX7_may_0 : decode cX7_may 0 = .ok (.aload_n 0, 1) := by decide +kernel
theorem dX7_may_1 : decode cX7_may 1 = .ok (.getfield 13, 3) := by decide +kernel
theorem dX7_may_4 : decode cX7_may 4 = .ok (.iload_n 2, 1) := by decide +kernel
theorem dX7_may_5 : decode cX7_may 5 = .ok (.iaload, 1) := by decide +kernel
theorem dX7_may_6 : decode cX7_may 6 = .ok (.iload_n 1, 1) := by decide +kernel
theorem dX7_may_7 : decode cX7_may 7 = .ok (.iconst 2, 1) := by decide +kernel
theorem dX7_may_8 : decode cX7_may 8 = .ok (.idiv, 1) := by decide +kernel
theorem dX7_may_9 : decode cX7_may 9 = .ok (.if_icmp .eq 23, 3) := by decide +kernel
theorem dX7_may_12 : decode cX7_may 12 = .ok (.aload_n 0, 1) := by decide +kernel
theorem dX7_may_13 : decode cX7_may 13 = .ok (.getfield 16, 3) := by decide +kernel
theorem dX7_may_16 : decode cX7_may 16 = .ok (.iconst 3, 1) := by decide +kernel
theorem dX7_may_17 : decode cX7_may 17 = .ok (.iload_n 2, 1) := by decide +kernel
theorem dX7_may_18 : decode cX7_may 18 = .ok (.imul, 1) := by decide +kernel
theorem dX7_may_19 : decode cX7_may 19 = .ok (.iload_n 1, 1) := by decide +kernel
theorem dX7_may_20 : decode cX7_may 20 = .ok (.iconst 2, 1) := by decide +kernel
theorem dX7_may_21 : decode cX7_may 21 = .ok (.idiv, 1) := by decide +kernel
theorem dX7_may_22 : decode cX7_may 22 = .ok (.iadd, 1) := by decide +kernel
theorem dX7_may_23 : decode cX7_may 23 = .ok (.iaload, 1) := by decide +kernel
theorem dX7_may_24 : decode cX7_may 24 = .ok (.iload_n 3, 1) := by decide +kernel
theorem dX7_may_25 : decode cX7_may 25 = .ok (.ishr, 1) := by decide +kernel
theorem dX7_may_26 : decode cX7_may 26 = .ok (.iconst 1, 1) := by decide +kernel
theorem dX7_may_27 : decode cX7_may 27 = .ok (.iand, 1) := by decide +kernel
theorem dX7_may_28 : decode cX7_may 28 = .ok (.iconst 1, 1) := by decide +kernel
theorem dX7_may_29 : decode cX7_may 29 = .ok (.if_icmp .ne 7, 3) := by decide +kernel
theorem dX7_may_32 : decode cX7_may 32 = .ok (.iconst 1, 1) := by decide +kernel
theorem dX7_may_33 : decode cX7_may 33 = .ok (.goto 4, 3) := by decide +kernel
theorem dX7_may_36 : decode cX7_may 36 = .ok (.iconst 0, 1) := by decide +kernel
theorem dX7_may_37 : decode cX7_may 37 = .ok (.ireturn, 1) := by decide +kernel
theorem dX7_entry_0 : decode cX7_entry 0 = .ok (.iload_n 1, 1) := by decide +kernel
theorem dX7_entry_1 : decode cX7_entry 1 = .ok (.invokestatic 58, 3) := by decide +kernel
theorem dX7_entry_4 : decode cX7_entry 4 = .ok (.istore_n 2, 1) := by decide +kernel
theorem dX7_entry_5 : decode cX7_entry 5 = .ok (.aload_n 0, 1) := by decide +kernel
theorem dX7_entry_6 : decode cX7_entry 6 = .ok (.iload_n 2, 1) := by decide +kernel
theorem dX7_entry_7 : decode cX7_entry 7 = .ok (.ifCond .ne 7, 3) := by decide +kernel
theorem dX7_entry_10 : decode cX7_entry 10 = .ok (.iconst 1, 1) := by decide +kernel
theorem dX7_entry_11 : decode cX7_entry 11 = .ok (.goto 17, 3) := by decide +kernel
theorem dX7_entry_14 : decode cX7_entry 14 = .ok (.aload_n 0, 1) := by decide +kernel
theorem dX7_entry_15 : decode cX7_entry 15 = .ok (.getfield 55, 3) := by decide +kernel
theorem dX7_entry_18 : decode cX7_entry 18 = .ok (.bipush 10, 2) := by decide +kernel
theorem dX7_entry_20 : decode cX7_entry 20 = .ok (.if_icmp .ne 7, 3) := by decide +kernel
theorem dX7_entry_23 : decode cX7_entry 23 = .ok (.iconst 2, 1) := by decide +kernel
theorem dX7_entry_24 : decode cX7_entry 24 = .ok (.goto 4, 3) := by decide +kernel
theorem dX7_entry_27 : decode cX7_entry 27 = .ok (.iconst 0, 1) := by decide +kernel
theorem dX7_entry_28 : decode cX7_entry 28 = .ok (.invokevirtual 69, 3) := by decide +kernel
theorem dX7_entry_31 : decode cX7_entry 31 = .ok (.ifCond .eq 5, 3) := by decide +kernel
theorem dX7_entry_34 : decode cX7_entry 34 = .ok (.iconst 0, 1) := by decide +kernel
theorem dX7_entry_35 : decode cX7_entry 35 = .ok (.ireturn, 1) := by decide +kernel
theorem dX7_entry_36 : decode cX7_entry 36 = .ok (.aload_n 0, 1) := by decide +kernel
theorem dX7_entry_37 : decode cX7_entry 37 = .ok (.getfield 13, 3) := by decide +kernel
theorem dX7_entry_40 : decode cX7_entry 40 = .ok (.aload_n 0, 1) := by decide +kernel
theorem dX7_entry_41 : decode cX7_entry 41 = .ok (.getfield 55, 3) := by decide +kernel
theorem dX7_entry_44 : decode cX7_entry 44 = .ok (.iload_n 1, 1) := by decide +kernel
theorem dX7_entry_45 : decode cX7_entry 45 = .ok (.iconst 2, 1) := by decide +kernel
theorem dX7_entry_46 : decode cX7_entry 46 = .ok (.idiv, 1) := by decide +kernel
theorem dX7_entry_47 : decode cX7_entry 47 = .ok (.iastore, 1) := by decide +kernel
theorem dX7_entry_48 : decode cX7_entry 48 = .ok (.aload_n 0, 1) := by decide +kernel
theorem dX7_entry_49 : decode cX7_entry 49 = .ok (.getfield 19, 3) := by decide +kernel
theorem dX7_entry_52 : decode cX7_entry 52 = .ok (.iload_n 1, 1) := by decide +kernel
theorem dX7_entry_53 : decode cX7_entry 53 = .ok (.aload_n 0, 1) := by decide +kernel
theorem dX7_entry_54 : decode cX7_entry 54 = .ok (.getfield 55, 3) := by decide +kernel
theorem dX7_entry_57 : decode cX7_entry 57 = .ok (.invokestatic 65, 3) := by decide +kernel
theorem dX7_entry_60 : decode cX7_entry 60 = .ok (.iconst 1, 1) := by decide +kernel
theorem dX7_entry_61 : decode cX7_entry 61 = .ok (.bastore, 1) := by decide +kernel
theorem dX7_entry_62 : decode cX7_entry 62 = .ok (.aload_n 0, 1) := by decide +kernel
theorem dX7_entry_63 : decode cX7_entry 63 = .ok (.dup, 1) := by decide +kernel
theorem dX7_entry_64 : decode cX7_entry 64 = .ok (.getfield 55, 3) := by decide +kernel
theorem dX7_entry_67 : decode cX7_entry 67 = .ok (.iconst 1, 1) := by decide +kernel
theorem dX7_entry_68 : decode cX7_entry 68 = .ok (.iadd, 1) := by decide +kernel
theorem dX7_entry_69 : decode cX7_entry 69 = .ok (.putfield 55, 3) := by decide +kernel
theorem dX7_entry_72 : decode cX7_entry 72 = .ok (.aload_n 0, 1) := by decide +kernel
theorem dX7_entry_73 : decode cX7_entry 73 = .ok (.getfield 55, 3) := by decide +kernel
theorem dX7_entry_76 : decode cX7_entry 76 = .ok (.iconst 1, 1) := by decide +kernel
theorem dX7_entry_77 : decode cX7_entry 77 = .ok (.isub, 1) := by decide +kernel
theorem dX7_entry_78 : decode cX7_entry 78 = .ok (.ireturn, 1) := by decide +kernel
theorem dX7_count_0 : decode cX7_count 0 = .ok (.iconst 0, 1) := by decide +kernel
theorem dX7_count_1 : decode cX7_count 1 = .ok (.istore 4, 2) := by decide +kernel
theorem dX7_count_3 : decode cX7_count 3 = .ok (.iconst 0, 1) := by decide +kernel
theorem dX7_count_4 : decode cX7_count 4 = .ok (.istore 5, 2) := by decide +kernel
theorem dX7_count_6 : decode cX7_count 6 = .ok (.iload 5, 2) := by decide +kernel
theorem dX7_count_8 : decode cX7_count 8 = .ok (.bipush 6, 2) := by decide +kernel
theorem dX7_count_10 : decode cX7_count 10 = .ok (.if_icmp .ge 35, 3) := by decide +kernel
theorem dX7_count_13 : decode cX7_count 13 = .ok (.iload 4, 2) := by decide +kernel
theorem dX7_count_15 : decode cX7_count 15 = .ok (.aload_n 0, 1) := by decide +kernel
theorem dX7_count_16 : decode cX7_count 16 = .ok (.getfield 23, 3) := by decide +kernel
theorem dX7_count_19 : decode cX7_count 19 = .ok (.iload_n 1, 1) := by decide +kernel
theorem dX7_count_20 : decode cX7_count 20 = .ok (.iload_n 2, 1) := by decide +kernel
theorem dX7_count_21 : decode cX7_count 21 = .ok (.iload_n 3, 1) := by decide +kernel
theorem dX7_count_22 : decode cX7_count 22 = .ok (.iload 5, 2) := by decide +kernel
theorem dX7_count_24 : decode cX7_count 24 = .ok (.invokestatic 72, 3) := by decide +kernel
theorem dX7_count_27 : decode cX7_count 27 = .ok (.iaload, 1) := by decide +kernel
theorem dX7_count_28 : decode cX7_count 28 = .ok (.ifCond .le 7, 3) := by decide +kernel
theorem dX7_count_31 : decode cX7_count 31 = .ok (.iconst 1, 1) := by decide +kernel
theorem dX7_count_32 : decode cX7_count 32 = .ok (.goto 4, 3) := by decide +kernel
theorem dX7_count_35 : decode cX7_count 35 = .ok (.iconst 0, 1) := by decide +kernel
theorem dX7_count_36 : decode cX7_count 36 = .ok (.iadd, 1) := by decide +kernel
theorem dX7_count_37 : decode cX7_count 37 = .ok (.istore 4, 2) := by decide +kernel
theorem dX7_count_39 : decode cX7_count 39 = .ok (.iinc 5 1, 3) := by decide +kernel
theorem dX7_count_42 : decode cX7_count 42 = .ok (.goto (-36), 3) := by decide +kernel
theorem dX7_count_45 : decode cX7_count 45 = .ok (.iload 4, 2) := by decide +kernel
theorem dX7_count_47 : decode cX7_count 47 = .ok (.ireturn, 1) := by decide +kernel
theorem dX7_all_0 : decode cX7_all 0 = .ok (.iconst 0, 1) := by decide +kernel
theorem dX7_all_1 : decode cX7_all 1 = .ok (.istore_n 3, 1) := by decide +kernel
theorem dX7_all_2 : decode cX7_all 2 = .ok (.iconst 0, 1) := by decide +kernel
theorem dX7_all_3 : decode cX7_all 3 = .ok (.istore 4, 2) := by decide +kernel
theorem dX7_all_5 : decode cX7_all 5 = .ok (.iload 4, 2) := by decide +kernel
theorem dX7_all_7 : decode cX7_all 7 = .ok (.iconst 4, 1) := by decide +kernel
theorem dX7_all_8 : decode cX7_all 8 = .ok (.if_icmp .ge 20, 3) := by decide +kernel
theorem dX7_all_11 : decode cX7_all 11 = .ok (.iload_n 3, 1) := by decide +kernel
theorem dX7_all_12 : decode cX7_all 12 = .ok (.aload_n 0, 1) := by decide +kernel
theorem dX7_all_13 : decode cX7_all 13 = .ok (.iload_n 1, 1) := by decide +kernel
theorem dX7_all_14 : decode cX7_all 14 = .ok (.iload_n 2, 1) := by decide +kernel
theorem dX7_all_15 : decode cX7_all 15 = .ok (.iload 4, 2) := by decide +kernel
theorem dX7_all_17 : decode cX7_all 17 = .ok (.invokevirtual 76, 3) := by decide +kernel
theorem dX7_all_20 : decode cX7_all 20 = .ok (.iadd, 1) := by decide +kernel
theorem dX7_all_21 : decode cX7_all 21 = .ok (.istore_n 3, 1) := by decide +kernel
theorem dX7_all_22 : decode cX7_all 22 = .ok (.iinc 4 1, 3) := by decide +kernel
theorem dX7_all_25 : decode cX7_all 25 = .ok (.goto (-20), 3) := by decide +kernel
theorem dX7_all_28 : decode cX7_all 28 = .ok (.iload_n 3, 1) := by decide +kernel
theorem dX7_all_29 : decode cX7_all 29 = .ok (.ireturn, 1) := by decide +kernel
theorem dX7_tell_0 : decode cX7_tell 0 = .ok (.aload_n 0, 1) := by decide +kernel
theorem dX7_tell_1 : decode cX7_tell 1 = .ok (.iload_n 1, 1) := by decide +kernel
theorem dX7_tell_2 : decode cX7_tell 2 = .ok (.iload_n 2, 1) := by decide +kernel
theorem dX7_tell_3 : decode cX7_tell 3 = .ok (.invokevirtual 80, 3) := by decide +kernel
theorem dX7_tell_6 : decode cX7_tell 6 = .ok (.ifCond .eq 14, 3) := by decide +kernel
theorem dX7_tell_9 : decode cX7_tell 9 = .ok (.iload_n 3, 1) := by decide +kernel
theorem dX7_tell_10 : decode cX7_tell 10 = .ok (.invokestatic 84, 3) := by decide +kernel
theorem dX7_tell_13 : decode cX7_tell 13 = .ok (.ifCond .eq 7, 3) := by decide +kernel
theorem dX7_tell_16 : decode cX7_tell 16 = .ok (.iconst 1, 1) := by decide +kernel
theorem dX7_tell_17 : decode cX7_tell 17 = .ok (.goto 4, 3) := by decide +kernel
theorem dX7_tell_20 : decode cX7_tell 20 = .ok (.iconst 0, 1) := by decide +kernel
theorem dX7_tell_21 : decode cX7_tell 21 = .ok (.istore 5, 2) := by decide +kernel
theorem dX7_tell_23 : decode cX7_tell 23 = .ok (.aload_n 0, 1) := by decide +kernel
theorem dX7_tell_24 : decode cX7_tell 24 = .ok (.iload 5, 2) := by decide +kernel
theorem dX7_tell_26 : decode cX7_tell 26 = .ok (.ifCond .ne 7, 3) := by decide +kernel
theorem dX7_tell_29 : decode cX7_tell 29 = .ok (.iconst 1, 1) := by decide +kernel
theorem dX7_tell_30 : decode cX7_tell 30 = .ok (.goto 34, 3) := by decide +kernel
theorem dX7_tell_33 : decode cX7_tell 33 = .ok (.iload 4, 2) := by decide +kernel
theorem dX7_tell_35 : decode cX7_tell 35 = .ok (.iconst (-1), 1) := by decide +kernel
theorem dX7_tell_36 : decode cX7_tell 36 = .ok (.sipush 999, 3) := by decide +kernel
theorem dX7_tell_39 : decode cX7_tell 39 = .ok (.invokestatic 51, 3) := by decide +kernel
theorem dX7_tell_42 : decode cX7_tell 42 = .ok (.ifCond .ne 7, 3) := by decide +kernel
theorem dX7_tell_45 : decode cX7_tell 45 = .ok (.iconst 2, 1) := by decide +kernel
theorem dX7_tell_46 : decode cX7_tell 46 = .ok (.goto 18, 3) := by decide +kernel
theorem dX7_tell_49 : decode cX7_tell 49 = .ok (.aload_n 0, 1) := by decide +kernel
theorem dX7_tell_50 : decode cX7_tell 50 = .ok (.iload_n 1, 1) := by decide +kernel
theorem dX7_tell_51 : decode cX7_tell 51 = .ok (.iload_n 2, 1) := by decide +kernel
theorem dX7_tell_52 : decode cX7_tell 52 = .ok (.iload_n 3, 1) := by decide +kernel
theorem dX7_tell_53 : decode cX7_tell 53 = .ok (.invokevirtual 87, 3) := by decide +kernel
theorem dX7_tell_56 : decode cX7_tell 56 = .ok (.ifCond .eq 7, 3) := by decide +kernel
theorem dX7_tell_59 : decode cX7_tell 59 = .ok (.iconst 0, 1) := by decide +kernel
theorem dX7_tell_60 : decode cX7_tell 60 = .ok (.goto 4, 3) := by decide +kernel
theorem dX7_tell_63 : decode cX7_tell 63 = .ok (.iconst 3, 1) := by decide +kernel
theorem dX7_tell_64 : decode cX7_tell 64 = .ok (.invokevirtual 69, 3) := by decide +kernel
theorem dX7_tell_67 : decode cX7_tell 67 = .ok (.ifCond .eq 5, 3) := by decide +kernel
theorem dX7_tell_70 : decode cX7_tell 70 = .ok (.iconst 0, 1) := by decide +kernel
theorem dX7_tell_71 : decode cX7_tell 71 = .ok (.ireturn, 1) := by decide +kernel
theorem dX7_tell_72 : decode cX7_tell 72 = .ok (.aload_n 0, 1) := by decide +kernel
theorem dX7_tell_73 : decode cX7_tell 73 = .ok (.iload_n 1, 1) := by decide +kernel
theorem dX7_tell_74 : decode cX7_tell 74 = .ok (.iload_n 2, 1) := by decide +kernel
theorem dX7_tell_75 : decode cX7_tell 75 = .ok (.iload_n 3, 1) := by decide +kernel
theorem dX7_tell_76 : decode cX7_tell 76 = .ok (.invokevirtual 76, 3) := by decide +kernel
theorem dX7_tell_79 : decode cX7_tell 79 = .ok (.istore 6, 2) := by decide +kernel
theorem dX7_tell_81 : decode cX7_tell 81 = .ok (.iconst 0, 1) := by decide +kernel
theorem dX7_tell_82 : decode cX7_tell 82 = .ok (.istore 7, 2) := by decide +kernel
theorem dX7_tell_84 : decode cX7_tell 84 = .ok (.iload 7, 2) := by decide +kernel
theorem dX7_tell_86 : decode cX7_tell 86 = .ok (.bipush 6, 2) := by decide +kernel
theorem dX7_tell_88 : decode cX7_tell 88 = .ok (.if_icmp .ge 23, 3) := by decide +kernel
theorem dX7_tell_91 : decode cX7_tell 91 = .ok (.aload_n 0, 1) := by decide +kernel
theorem dX7_tell_92 : decode cX7_tell 92 = .ok (.getfield 23, 3) := by decide +kernel
theorem dX7_tell_95 : decode cX7_tell 95 = .ok (.iload_n 1, 1) := by decide +kernel
theorem dX7_tell_96 : decode cX7_tell 96 = .ok (.iload_n 2, 1) := by decide +kernel
theorem dX7_tell_97 : decode cX7_tell 97 = .ok (.iload_n 3, 1) := by decide +kernel
theorem dX7_tell_98 : decode cX7_tell 98 = .ok (.iload 7, 2) := by decide +kernel
theorem dX7_tell_100 : decode cX7_tell 100 = .ok (.invokestatic 72, 3) := by decide +kernel
theorem dX7_tell_103 : decode cX7_tell 103 = .ok (.iconst 0, 1) := by decide +kernel
theorem dX7_tell_104 : decode cX7_tell 104 = .ok (.iastore, 1) := by decide +kernel
theorem dX7_tell_105 : decode cX7_tell 105 = .ok (.iinc 7 1, 3) := by decide +kernel
theorem dX7_tell_108 : decode cX7_tell 108 = .ok (.goto (-24), 3) := by decide +kernel
theorem dX7_tell_111 : decode cX7_tell 111 = .ok (.aload_n 0, 1) := by decide +kernel
theorem dX7_tell_112 : decode cX7_tell 112 = .ok (.getfield 7, 3) := by decide +kernel
theorem dX7_tell_115 : decode cX7_tell 115 = .ok (.iload_n 1, 1) := by decide +kernel
theorem dX7_tell_116 : decode cX7_tell 116 = .ok (.dup2, 1) := by decide +kernel
theorem dX7_tell_117 : decode cX7_tell 117 = .ok (.iaload, 1) := by decide +kernel
theorem dX7_tell_118 : decode cX7_tell 118 = .ok (.iconst 1, 1) := by decide +kernel
theorem dX7_tell_119 : decode cX7_tell 119 = .ok (.iadd, 1) := by decide +kernel
theorem dX7_tell_120 : decode cX7_tell 120 = .ok (.iastore, 1) := by decide +kernel
theorem dX7_tell_121 : decode cX7_tell 121 = .ok (.iload_n 1, 1) := by decide +kernel
theorem dX7_tell_122 : decode cX7_tell 122 = .ok (.iload_n 2, 1) := by decide +kernel
theorem dX7_tell_123 : decode cX7_tell 123 = .ok (.iload_n 3, 1) := by decide +kernel
theorem dX7_tell_124 : decode cX7_tell 124 = .ok (.iload_n 1, 1) := by decide +kernel
theorem dX7_tell_125 : decode cX7_tell 125 = .ok (.invokestatic 72, 3) := by decide +kernel
theorem dX7_tell_128 : decode cX7_tell 128 = .ok (.istore 7, 2) := by decide +kernel
theorem dX7_tell_130 : decode cX7_tell 130 = .ok (.aload_n 0, 1) := by decide +kernel
theorem dX7_tell_131 : decode cX7_tell 131 = .ok (.getfield 29, 3) := by decide +kernel
theorem dX7_tell_134 : decode cX7_tell 134 = .ok (.iload 7, 2) := by decide +kernel
theorem dX7_tell_136 : decode cX7_tell 136 = .ok (.aload_n 0, 1) := by decide +kernel
theorem dX7_tell_137 : decode cX7_tell 137 = .ok (.getfield 7, 3) := by decide +kernel
theorem dX7_tell_140 : decode cX7_tell 140 = .ok (.iload_n 1, 1) := by decide +kernel
theorem dX7_tell_141 : decode cX7_tell 141 = .ok (.iaload, 1) := by decide +kernel
theorem dX7_tell_142 : decode cX7_tell 142 = .ok (.iastore, 1) := by decide +kernel
theorem dX7_tell_143 : decode cX7_tell 143 = .ok (.iload 4, 2) := by decide +kernel
theorem dX7_tell_145 : decode cX7_tell 145 = .ok (.ifCond .lt 25, 3) := by decide +kernel
theorem dX7_tell_148 : decode cX7_tell 148 = .ok (.aload_n 0, 1) := by decide +kernel
theorem dX7_tell_149 : decode cX7_tell 149 = .ok (.getfield 23, 3) := by decide +kernel
theorem dX7_tell_152 : decode cX7_tell 152 = .ok (.iload 7, 2) := by decide +kernel
theorem dX7_tell_154 : decode cX7_tell 154 = .ok (.aload_n 0, 1) := by decide +kernel
theorem dX7_tell_155 : decode cX7_tell 155 = .ok (.getfield 7, 3) := by decide +kernel
theorem dX7_tell_158 : decode cX7_tell 158 = .ok (.iload_n 1, 1) := by decide +kernel
theorem dX7_tell_159 : decode cX7_tell 159 = .ok (.iaload, 1) := by decide +kernel
theorem dX7_tell_160 : decode cX7_tell 160 = .ok (.iastore, 1) := by decide +kernel
theorem dX7_tell_161 : decode cX7_tell 161 = .ok (.aload_n 0, 1) := by decide +kernel
theorem dX7_tell_162 : decode cX7_tell 162 = .ok (.getfield 26, 3) := by decide +kernel
theorem dX7_tell_165 : decode cX7_tell 165 = .ok (.iload 7, 2) := by decide +kernel
theorem dX7_tell_167 : decode cX7_tell 167 = .ok (.iload 4, 2) := by decide +kernel
theorem dX7_tell_169 : decode cX7_tell 169 = .ok (.iastore, 1) := by decide +kernel
theorem dX7_tell_170 : decode cX7_tell 170 = .ok (.iload 6, 2) := by decide +kernel
theorem dX7_tell_172 : decode cX7_tell 172 = .ok (.ireturn, 1) := by decide +kernel
theorem dX7_isKnownMark_0 : decode cX7_isKnownMark 0 = .ok (.aload_n 0, 1) := by decide +kernel
theorem dX7_isKnownMark_1 : decode cX7_isKnownMark 1 = .ok (.getfield 44, 3) := by decide +kernel
theorem dX7_isKnownMark_4 : decode cX7_isKnownMark 4 = .ok (.bipush 6, 2) := by decide +kernel
theorem dX7_isKnownMark_6 : decode cX7_isKnownMark 6 = .ok (.iload_n 2, 1) := by decide +kernel
theorem dX7_isKnownMark_7 : decode cX7_isKnownMark 7 = .ok (.imul, 1) := by decide +kernel
theorem dX7_isKnownMark_8 : decode cX7_isKnownMark 8 = .ok (.iload_n 1, 1) := by decide +kernel
theorem dX7_isKnownMark_9 : decode cX7_isKnownMark 9 = .ok (.iadd, 1) := by decide +kernel
theorem dX7_isKnownMark_10 : decode cX7_isKnownMark 10 = .ok (.iaload, 1) := by decide +kernel
theorem dX7_isKnownMark_11 : decode cX7_isKnownMark 11 = .ok (.ifCond .le 7, 3) := by decide +kernel
theorem dX7_isKnownMark_14 : decode cX7_isKnownMark 14 = .ok (.iconst 1, 1) := by decide +kernel
theorem dX7_isKnownMark_15 : decode cX7_isKnownMark 15 = .ok (.goto 4, 3) := by decide +kernel
theorem dX7_isKnownMark_18 : decode cX7_isKnownMark 18 = .ok (.iconst 0, 1) := by decide +kernel
theorem dX7_isKnownMark_19 : decode cX7_isKnownMark 19 = .ok (.ireturn, 1) := by decide +kernel
theorem dX7_covers_0 : decode cX7_covers 0 = .ok (.iconst 1, 1) := by decide +kernel
theorem dX7_covers_1 : decode cX7_covers 1 = .ok (.istore 4, 2) := by decide +kernel
theorem dX7_covers_3 : decode cX7_covers 3 = .ok (.iconst 0, 1) := by decide +kernel
theorem dX7_covers_4 : decode cX7_covers 4 = .ok (.istore 5, 2) := by decide +kernel
theorem dX7_covers_6 : decode cX7_covers 6 = .ok (.iload 5, 2) := by decide +kernel
theorem dX7_covers_8 : decode cX7_covers 8 = .ok (.bipush 24, 2) := by decide +kernel
theorem dX7_covers_10 : decode cX7_covers 10 = .ok (.if_icmp .ge 52, 3) := by decide +kernel
theorem dX7_covers_13 : decode cX7_covers 13 = .ok (.iload 4, 2) := by decide +kernel
theorem dX7_covers_15 : decode cX7_covers 15 = .ok (.ifCond .eq 38, 3) := by decide +kernel
theorem dX7_covers_18 : decode cX7_covers 18 = .ok (.aload_n 0, 1) := by decide +kernel
theorem dX7_covers_19 : decode cX7_covers 19 = .ok (.getfield 23, 3) := by decide +kernel
theorem dX7_covers_22 : decode cX7_covers 22 = .ok (.bipush 24, 2) := by decide +kernel
theorem dX7_covers_24 : decode cX7_covers 24 = .ok (.iload_n 2, 1) := by decide +kernel
theorem dX7_covers_25 : decode cX7_covers 25 = .ok (.iload_n 3, 1) := by decide +kernel
theorem dX7_covers_26 : decode cX7_covers 26 = .ok (.invokestatic 65, 3) := by decide +kernel
theorem dX7_covers_29 : decode cX7_covers 29 = .ok (.imul, 1) := by decide +kernel
theorem dX7_covers_30 : decode cX7_covers 30 = .ok (.iload 5, 2) := by decide +kernel
theorem dX7_covers_32 : decode cX7_covers 32 = .ok (.iadd, 1) := by decide +kernel
theorem dX7_covers_33 : decode cX7_covers 33 = .ok (.iaload, 1) := by decide +kernel
theorem dX7_covers_34 : decode cX7_covers 34 = .ok (.aload_n 0, 1) := by decide +kernel
theorem dX7_covers_35 : decode cX7_covers 35 = .ok (.getfield 41, 3) := by decide +kernel
theorem dX7_covers_38 : decode cX7_covers 38 = .ok (.bipush 24, 2) := by decide +kernel
theorem dX7_covers_40 : decode cX7_covers 40 = .ok (.iload_n 1, 1) := by decide +kernel
theorem dX7_covers_41 : decode cX7_covers 41 = .ok (.imul, 1) := by decide +kernel
theorem dX7_covers_42 : decode cX7_covers 42 = .ok (.iload 5, 2) := by decide +kernel
theorem dX7_covers_44 : decode cX7_covers 44 = .ok (.iadd, 1) := by decide +kernel
theorem dX7_covers_45 : decode cX7_covers 45 = .ok (.iaload, 1) := by decide +kernel
theorem dX7_covers_46 : decode cX7_covers 46 = .ok (.if_icmp .gt 7, 3) := by decide +kernel
theorem dX7_covers_49 : decode cX7_covers 49 = .ok (.iconst 1, 1) := by decide +kernel
theorem dX7_covers_50 : decode cX7_covers 50 = .ok (.goto 4, 3) := by decide +kernel
theorem dX7_covers_53 : decode cX7_covers 53 = .ok (.iconst 0, 1) := by decide +kernel
theorem dX7_covers_54 : decode cX7_covers 54 = .ok (.istore 4, 2) := by decide +kernel
theorem dX7_covers_56 : decode cX7_covers 56 = .ok (.iinc 5 1, 3) := by decide +kernel
theorem dX7_covers_59 : decode cX7_covers 59 = .ok (.goto (-53), 3) := by decide +kernel
theorem dX7_covers_62 : decode cX7_covers 62 = .ok (.iload 4, 2) := by decide +kernel
theorem dX7_covers_64 : decode cX7_covers 64 = .ok (.ireturn, 1) := by decide +kernel
theorem dX7_isCovered_0 : decode cX7_isCovered 0 = .ok (.iconst 0, 1) := by decide +kernel
theorem dX7_isCovered_1 : decode cX7_isCovered 1 = .ok (.istore_n 3, 1) := by decide +kernel
theorem dX7_isCovered_2 : decode cX7_isCovered 2 = .ok (.iconst 0, 1) := by decide +kernel
theorem dX7_isCovered_3 : decode cX7_isCovered 3 = .ok (.istore 4, 2) := by decide +kernel
theorem dX7_isCovered_5 : decode cX7_isCovered 5 = .ok (.iload 4, 2) := by decide +kernel
theorem dX7_isCovered_7 : decode cX7_isCovered 7 = .ok (.aload_n 0, 1) := by decide +kernel
theorem dX7_isCovered_8 : decode cX7_isCovered 8 = .ok (.getfield 90, 3) := by decide +kernel
theorem dX7_isCovered_11 : decode cX7_isCovered 11 = .ok (.if_icmp .ge 51, 3) := by decide +kernel
theorem dX7_isCovered_14 : decode cX7_isCovered 14 = .ok (.iload_n 3, 1) := by decide +kernel
theorem dX7_isCovered_15 : decode cX7_isCovered 15 = .ok (.ifCond .ne 35, 3) := by decide +kernel
theorem dX7_isCovered_18 : decode cX7_isCovered 18 = .ok (.aload_n 0, 1) := by decide +kernel
theorem dX7_isCovered_19 : decode cX7_isCovered 19 = .ok (.getfield 38, 3) := by decide +kernel
theorem dX7_isCovered_22 : decode cX7_isCovered 22 = .ok (.iload 4, 2) := by decide +kernel
theorem dX7_isCovered_24 : decode cX7_isCovered 24 = .ok (.iaload, 1) := by decide +kernel
theorem dX7_isCovered_25 : decode cX7_isCovered 25 = .ok (.iload_n 2, 1) := by decide +kernel
theorem dX7_isCovered_26 : decode cX7_isCovered 26 = .ok (.if_icmp .ne 28, 3) := by decide +kernel
theorem dX7_isCovered_29 : decode cX7_isCovered 29 = .ok (.aload_n 0, 1) := by decide +kernel
theorem dX7_isCovered_30 : decode cX7_isCovered 30 = .ok (.iload_n 1, 1) := by decide +kernel
theorem dX7_isCovered_31 : decode cX7_isCovered 31 = .ok (.iload 4, 2) := by decide +kernel
theorem dX7_isCovered_33 : decode cX7_isCovered 33 = .ok (.invokevirtual 93, 3) := by decide +kernel
theorem dX7_isCovered_36 : decode cX7_isCovered 36 = .ok (.ifCond .eq 18, 3) := by decide +kernel
theorem dX7_isCovered_39 : decode cX7_isCovered 39 = .ok (.aload_n 0, 1) := by decide +kernel
theorem dX7_isCovered_40 : decode cX7_isCovered 40 = .ok (.iload 4, 2) := by decide +kernel
theorem dX7_isCovered_42 : decode cX7_isCovered 42 = .ok (.iload_n 1, 1) := by decide +kernel
theorem dX7_isCovered_43 : decode cX7_isCovered 43 = .ok (.iload_n 2, 1) := by decide +kernel
theorem dX7_isCovered_44 : decode cX7_isCovered 44 = .ok (.invokevirtual 96, 3) := by decide +kernel
theorem dX7_isCovered_47 : decode cX7_isCovered 47 = .ok (.ifCond .eq 7, 3) := by decide +kernel
theorem dX7_isCovered_50 : decode cX7_isCovered 50 = .ok (.iconst 1, 1) := by decide +kernel
theorem dX7_isCovered_51 : decode cX7_isCovered 51 = .ok (.goto 4, 3) := by decide +kernel
theorem dX7_isCovered_54 : decode cX7_isCovered 54 = .ok (.iconst 0, 1) := by decide +kernel
theorem dX7_isCovered_55 : decode cX7_isCovered 55 = .ok (.istore_n 3, 1) := by decide +kernel
theorem dX7_isCovered_56 : decode cX7_isCovered 56 = .ok (.iinc 4 1, 3) := by decide +kernel
theorem dX7_isCovered_59 : decode cX7_isCovered 59 = .ok (.goto (-54), 3) := by decide +kernel
theorem dX7_isCovered_62 : decode cX7_isCovered 62 = .ok (.iload_n 3, 1) := by decide +kernel
theorem dX7_isCovered_63 : decode cX7_isCovered 63 = .ok (.ireturn, 1) := by decide +kernel
theorem dX7_isThere_0 : decode cX7_isThere 0 = .ok (.aload_n 0, 1) := by decide +kernel
theorem dX7_isThere_1 : decode cX7_isThere 1 = .ok (.getfield 19, 3) := by decide +kernel
theorem dX7_isThere_4 : decode cX7_isThere 4 = .ok (.iload_n 1, 1) := by decide +kernel
theorem dX7_isThere_5 : decode cX7_isThere 5 = .ok (.iload_n 2, 1) := by decide +kernel
theorem dX7_isThere_6 : decode cX7_isThere 6 = .ok (.invokestatic 65, 3) := by decide +kernel
theorem dX7_isThere_9 : decode cX7_isThere 9 = .ok (.baload, 1) := by decide +kernel
theorem dX7_isThere_10 : decode cX7_isThere 10 = .ok (.ifCond .eq 25, 3) := by decide +kernel
theorem dX7_isThere_13 : decode cX7_isThere 13 = .ok (.aload_n 0, 1) := by decide +kernel
theorem dX7_isThere_14 : decode cX7_isThere 14 = .ok (.iload_n 1, 1) := by decide +kernel
theorem dX7_isThere_15 : decode cX7_isThere 15 = .ok (.iload_n 2, 1) := by decide +kernel
theorem dX7_isThere_16 : decode cX7_isThere 16 = .ok (.invokevirtual 99, 3) := by decide +kernel
theorem dX7_isThere_19 : decode cX7_isThere 19 = .ok (.ifCond .le 16, 3) := by decide +kernel
theorem dX7_isThere_22 : decode cX7_isThere 22 = .ok (.aload_n 0, 1) := by decide +kernel
theorem dX7_isThere_23 : decode cX7_isThere 23 = .ok (.iload_n 1, 1) := by decide +kernel
theorem dX7_isThere_24 : decode cX7_isThere 24 = .ok (.iload_n 2, 1) := by decide +kernel
theorem dX7_isThere_25 : decode cX7_isThere 25 = .ok (.invokevirtual 102, 3) := by decide +kernel
theorem dX7_isThere_28 : decode cX7_isThere 28 = .ok (.ifCond .ne 7, 3) := by decide +kernel
theorem dX7_isThere_31 : decode cX7_isThere 31 = .ok (.iconst 1, 1) := by decide +kernel
theorem dX7_isThere_32 : decode cX7_isThere 32 = .ok (.goto 4, 3) := by decide +kernel
theorem dX7_isThere_35 : decode cX7_isThere 35 = .ok (.iconst 0, 1) := by decide +kernel
theorem dX7_isThere_36 : decode cX7_isThere 36 = .ok (.ireturn, 1) := by decide +kernel
theorem dX7_delete_0 : decode cX7_delete 0 = .ok (.aload_n 0, 1) := by decide +kernel
theorem dX7_delete_1 : decode cX7_delete 1 = .ok (.iload_n 1, 1) := by decide +kernel
theorem dX7_delete_2 : decode cX7_delete 2 = .ok (.iload_n 2, 1) := by decide +kernel
theorem dX7_delete_3 : decode cX7_delete 3 = .ok (.invokevirtual 80, 3) := by decide +kernel
theorem dX7_delete_6 : decode cX7_delete 6 = .ok (.istore_n 3, 1) := by decide +kernel
theorem dX7_delete_7 : decode cX7_delete 7 = .ok (.aload_n 0, 1) := by decide +kernel
theorem dX7_delete_8 : decode cX7_delete 8 = .ok (.iload_n 3, 1) := by decide +kernel
theorem dX7_delete_9 : decode cX7_delete 9 = .ok (.ifCond .ne 7, 3) := by decide +kernel
theorem dX7_delete_12 : decode cX7_delete 12 = .ok (.iconst 1, 1) := by decide +kernel
theorem dX7_delete_13 : decode cX7_delete 13 = .ok (.goto 29, 3) := by decide +kernel
theorem dX7_delete_16 : decode cX7_delete 16 = .ok (.aload_n 0, 1) := by decide +kernel
theorem dX7_delete_17 : decode cX7_delete 17 = .ok (.getfield 13, 3) := by decide +kernel
theorem dX7_delete_20 : decode cX7_delete 20 = .ok (.iload_n 2, 1) := by decide +kernel
theorem dX7_delete_21 : decode cX7_delete 21 = .ok (.iaload, 1) := by decide +kernel
theorem dX7_delete_22 : decode cX7_delete 22 = .ok (.iload_n 1, 1) := by decide +kernel
theorem dX7_delete_23 : decode cX7_delete 23 = .ok (.iconst 2, 1) := by decide +kernel
theorem dX7_delete_24 : decode cX7_delete 24 = .ok (.idiv, 1) := by decide +kernel
theorem dX7_delete_25 : decode cX7_delete 25 = .ok (.if_icmp .ne 16, 3) := by decide +kernel
theorem dX7_delete_28 : decode cX7_delete 28 = .ok (.aload_n 0, 1) := by decide +kernel
theorem dX7_delete_29 : decode cX7_delete 29 = .ok (.iload_n 1, 1) := by decide +kernel
theorem dX7_delete_30 : decode cX7_delete 30 = .ok (.iload_n 2, 1) := by decide +kernel
theorem dX7_delete_31 : decode cX7_delete 31 = .ok (.invokevirtual 105, 3) := by decide +kernel
theorem dX7_delete_34 : decode cX7_delete 34 = .ok (.ifCond .eq 7, 3) := by decide +kernel
theorem dX7_delete_37 : decode cX7_delete 37 = .ok (.iconst 0, 1) := by decide +kernel
theorem dX7_delete_38 : decode cX7_delete 38 = .ok (.goto 4, 3) := by decide +kernel
theorem dX7_delete_41 : decode cX7_delete 41 = .ok (.iconst 2, 1) := by decide +kernel
theorem dX7_delete_42 : decode cX7_delete 42 = .ok (.invokevirtual 69, 3) := by decide +kernel
theorem dX7_delete_45 : decode cX7_delete 45 = .ok (.ifCond .eq 5, 3) := by decide +kernel
theorem dX7_delete_48 : decode cX7_delete 48 = .ok (.iconst 0, 1) := by decide +kernel
theorem dX7_delete_49 : decode cX7_delete 49 = .ok (.ireturn, 1) := by decide +kernel
theorem dX7_delete_50 : decode cX7_delete 50 = .ok (.aload_n 0, 1) := by decide +kernel
theorem dX7_delete_51 : decode cX7_delete 51 = .ok (.getfield 7, 3) := by decide +kernel
theorem dX7_delete_54 : decode cX7_delete 54 = .ok (.iload_n 1, 1) := by decide +kernel
theorem dX7_delete_55 : decode cX7_delete 55 = .ok (.dup2, 1) := by decide +kernel
theorem dX7_delete_56 : decode cX7_delete 56 = .ok (.iaload, 1) := by decide +kernel
theorem dX7_delete_57 : decode cX7_delete 57 = .ok (.iconst 1, 1) := by decide +kernel
theorem dX7_delete_58 : decode cX7_delete 58 = .ok (.iadd, 1) := by decide +kernel
theorem dX7_delete_59 : decode cX7_delete 59 = .ok (.iastore, 1) := by decide +kernel
theorem dX7_delete_60 : decode cX7_delete 60 = .ok (.aload_n 0, 1) := by decide +kernel
theorem dX7_delete_61 : decode cX7_delete 61 = .ok (.getfield 38, 3) := by decide +kernel
theorem dX7_delete_64 : decode cX7_delete 64 = .ok (.aload_n 0, 1) := by decide +kernel
theorem dX7_delete_65 : decode cX7_delete 65 = .ok (.getfield 90, 3) := by decide +kernel
theorem dX7_delete_68 : decode cX7_delete 68 = .ok (.iload_n 2, 1) := by decide +kernel
theorem dX7_delete_69 : decode cX7_delete 69 = .ok (.iastore, 1) := by decide +kernel
theorem dX7_delete_70 : decode cX7_delete 70 = .ok (.iconst 0, 1) := by decide +kernel
theorem dX7_delete_71 : decode cX7_delete 71 = .ok (.istore 4, 2) := by decide +kernel
theorem dX7_delete_73 : decode cX7_delete 73 = .ok (.iload 4, 2) := by decide +kernel
theorem dX7_delete_75 : decode cX7_delete 75 = .ok (.bipush 24, 2) := by decide +kernel
theorem dX7_delete_77 : decode cX7_delete 77 = .ok (.if_icmp .ge 40, 3) := by decide +kernel
theorem dX7_delete_80 : decode cX7_delete 80 = .ok (.aload_n 0, 1) := by decide +kernel
theorem dX7_delete_81 : decode cX7_delete 81 = .ok (.getfield 41, 3) := by decide +kernel
theorem dX7_delete_84 : decode cX7_delete 84 = .ok (.bipush 24, 2) := by decide +kernel
theorem dX7_delete_86 : decode cX7_delete 86 = .ok (.aload_n 0, 1) := by decide +kernel
theorem dX7_delete_87 : decode cX7_delete 87 = .ok (.getfield 90, 3) := by decide +kernel
theorem dX7_delete_90 : decode cX7_delete 90 = .ok (.imul, 1) := by decide +kernel
theorem dX7_delete_91 : decode cX7_delete 91 = .ok (.iload 4, 2) := by decide +kernel
theorem dX7_delete_93 : decode cX7_delete 93 = .ok (.iadd, 1) := by decide +kernel
theorem dX7_delete_94 : decode cX7_delete 94 = .ok (.aload_n 0, 1) := by decide +kernel
theorem dX7_delete_95 : decode cX7_delete 95 = .ok (.getfield 29, 3) := by decide +kernel
theorem dX7_delete_98 : decode cX7_delete 98 = .ok (.bipush 24, 2) := by decide +kernel
theorem dX7_delete_100 : decode cX7_delete 100 = .ok (.iload_n 1, 1) := by decide +kernel
theorem dX7_delete_101 : decode cX7_delete 101 = .ok (.iload_n 2, 1) := by decide +kernel
theorem dX7_delete_102 : decode cX7_delete 102 = .ok (.invokestatic 65, 3) := by decide +kernel
theorem dX7_delete_105 : decode cX7_delete 105 = .ok (.imul, 1) := by decide +kernel
theorem dX7_delete_106 : decode cX7_delete 106 = .ok (.iload 4, 2) := by decide +kernel
theorem dX7_delete_108 : decode cX7_delete 108 = .ok (.iadd, 1) := by decide +kernel
theorem dX7_delete_109 : decode cX7_delete 109 = .ok (.iaload, 1) := by decide +kernel
theorem dX7_delete_110 : decode cX7_delete 110 = .ok (.iastore, 1) := by decide +kernel
theorem dX7_delete_111 : decode cX7_delete 111 = .ok (.iinc 4 1, 3) := by decide +kernel
theorem dX7_delete_114 : decode cX7_delete 114 = .ok (.goto (-41), 3) := by decide +kernel
theorem dX7_delete_117 : decode cX7_delete 117 = .ok (.aload_n 0, 1) := by decide +kernel
theorem dX7_delete_118 : decode cX7_delete 118 = .ok (.getfield 44, 3) := by decide +kernel
theorem dX7_delete_121 : decode cX7_delete 121 = .ok (.bipush 6, 2) := by decide +kernel
theorem dX7_delete_123 : decode cX7_delete 123 = .ok (.aload_n 0, 1) := by decide +kernel
theorem dX7_delete_124 : decode cX7_delete 124 = .ok (.getfield 90, 3) := by decide +kernel
theorem dX7_delete_127 : decode cX7_delete 127 = .ok (.imul, 1) := by decide +kernel
theorem dX7_delete_128 : decode cX7_delete 128 = .ok (.iload_n 1, 1) := by decide +kernel
theorem dX7_delete_129 : decode cX7_delete 129 = .ok (.iadd, 1) := by decide +kernel
theorem dX7_delete_130 : decode cX7_delete 130 = .ok (.aload_n 0, 1) := by decide +kernel
theorem dX7_delete_131 : decode cX7_delete 131 = .ok (.getfield 108, 3) := by decide +kernel
theorem dX7_delete_134 : decode cX7_delete 134 = .ok (.iconst 1, 1) := by decide +kernel
theorem dX7_delete_135 : decode cX7_delete 135 = .ok (.iadd, 1) := by decide +kernel
theorem dX7_delete_136 : decode cX7_delete 136 = .ok (.iastore, 1) := by decide +kernel
theorem dX7_delete_137 : decode cX7_delete 137 = .ok (.aload_n 0, 1) := by decide +kernel
theorem dX7_delete_138 : decode cX7_delete 138 = .ok (.dup, 1) := by decide +kernel
theorem dX7_delete_139 : decode cX7_delete 139 = .ok (.getfield 90, 3) := by decide +kernel
theorem dX7_delete_142 : decode cX7_delete 142 = .ok (.iconst 1, 1) := by decide +kernel
theorem dX7_delete_143 : decode cX7_delete 143 = .ok (.iadd, 1) := by decide +kernel
theorem dX7_delete_144 : decode cX7_delete 144 = .ok (.putfield 90, 3) := by decide +kernel
theorem dX7_delete_147 : decode cX7_delete 147 = .ok (.aload_n 0, 1) := by decide +kernel
theorem dX7_delete_148 : decode cX7_delete 148 = .ok (.iload_n 1, 1) := by decide +kernel
theorem dX7_delete_149 : decode cX7_delete 149 = .ok (.iload_n 2, 1) := by decide +kernel
theorem dX7_delete_150 : decode cX7_delete 150 = .ok (.invokevirtual 99, 3) := by decide +kernel
theorem dX7_delete_153 : decode cX7_delete 153 = .ok (.ireturn, 1) := by decide +kernel
theorem dX7_share_0 : decode cX7_share 0 = .ok (.aload_n 0, 1) := by decide +kernel
theorem dX7_share_1 : decode cX7_share 1 = .ok (.iload_n 1, 1) := by decide +kernel
theorem dX7_share_2 : decode cX7_share 2 = .ok (.iload_n 2, 1) := by decide +kernel
theorem dX7_share_3 : decode cX7_share 3 = .ok (.invokevirtual 80, 3) := by decide +kernel
theorem dX7_share_6 : decode cX7_share 6 = .ok (.ifCond .eq 16, 3) := by decide +kernel
theorem dX7_share_9 : decode cX7_share 9 = .ok (.iload_n 3, 1) := by decide +kernel
theorem dX7_share_10 : decode cX7_share 10 = .ok (.iconst 0, 1) := by decide +kernel
theorem dX7_share_11 : decode cX7_share 11 = .ok (.iconst 2, 1) := by decide +kernel
theorem dX7_share_12 : decode cX7_share 12 = .ok (.invokestatic 51, 3) := by decide +kernel
theorem dX7_share_15 : decode cX7_share 15 = .ok (.ifCond .eq 7, 3) := by decide +kernel
theorem dX7_share_18 : decode cX7_share 18 = .ok (.iconst 1, 1) := by decide +kernel
theorem dX7_share_19 : decode cX7_share 19 = .ok (.goto 4, 3) := by decide +kernel
theorem dX7_share_22 : decode cX7_share 22 = .ok (.iconst 0, 1) := by decide +kernel
theorem dX7_share_23 : decode cX7_share 23 = .ok (.istore 5, 2) := by decide +kernel
theorem dX7_share_25 : decode cX7_share 25 = .ok (.iload 4, 2) := by decide +kernel
theorem dX7_share_27 : decode cX7_share 27 = .ok (.iconst 0, 1) := by decide +kernel
theorem dX7_share_28 : decode cX7_share 28 = .ok (.bipush 15, 2) := by decide +kernel
theorem dX7_share_30 : decode cX7_share 30 = .ok (.invokestatic 51, 3) := by decide +kernel
theorem dX7_share_33 : decode cX7_share 33 = .ok (.istore 6, 2) := by decide +kernel
theorem dX7_share_35 : decode cX7_share 35 = .ok (.aload_n 0, 1) := by decide +kernel
theorem dX7_share_36 : decode cX7_share 36 = .ok (.iload 5, 2) := by decide +kernel
theorem dX7_share_38 : decode cX7_share 38 = .ok (.ifCond .ne 7, 3) := by decide +kernel
theorem dX7_share_41 : decode cX7_share 41 = .ok (.iconst 1, 1) := by decide +kernel
theorem dX7_share_42 : decode cX7_share 42 = .ok (.goto 39, 3) := by decide +kernel
theorem dX7_share_45 : decode cX7_share 45 = .ok (.iload 6, 2) := by decide +kernel
theorem dX7_share_47 : decode cX7_share 47 = .ok (.ifCond .ne 7, 3) := by decide +kernel
theorem dX7_share_50 : decode cX7_share 50 = .ok (.iconst 2, 1) := by decide +kernel
theorem dX7_share_51 : decode cX7_share 51 = .ok (.goto 30, 3) := by decide +kernel
theorem dX7_share_54 : decode cX7_share 54 = .ok (.aload_n 0, 1) := by decide +kernel
theorem dX7_share_55 : decode cX7_share 55 = .ok (.getfield 13, 3) := by decide +kernel
theorem dX7_share_58 : decode cX7_share 58 = .ok (.iload_n 2, 1) := by decide +kernel
theorem dX7_share_59 : decode cX7_share 59 = .ok (.iaload, 1) := by decide +kernel
theorem dX7_share_60 : decode cX7_share 60 = .ok (.iload_n 1, 1) := by decide +kernel
theorem dX7_share_61 : decode cX7_share 61 = .ok (.iconst 2, 1) := by decide +kernel
theorem dX7_share_62 : decode cX7_share 62 = .ok (.idiv, 1) := by decide +kernel
theorem dX7_share_63 : decode cX7_share 63 = .ok (.if_icmp .ne 13, 3) := by decide +kernel
theorem dX7_share_66 : decode cX7_share 66 = .ok (.iload_n 3, 1) := by decide +kernel
theorem dX7_share_67 : decode cX7_share 67 = .ok (.aload_n 0, 1) := by decide +kernel
theorem dX7_share_68 : decode cX7_share 68 = .ok (.getfield 13, 3) := by decide +kernel
theorem dX7_share_71 : decode cX7_share 71 = .ok (.iload_n 2, 1) := by decide +kernel
theorem dX7_share_72 : decode cX7_share 72 = .ok (.iaload, 1) := by decide +kernel
theorem dX7_share_73 : decode cX7_share 73 = .ok (.if_icmp .ne 7, 3) := by decide +kernel
theorem dX7_share_76 : decode cX7_share 76 = .ok (.iconst 3, 1) := by decide +kernel
theorem dX7_share_77 : decode cX7_share 77 = .ok (.goto 4, 3) := by decide +kernel
theorem dX7_share_80 : decode cX7_share 80 = .ok (.iconst 0, 1) := by decide +kernel
theorem dX7_share_81 : decode cX7_share 81 = .ok (.invokevirtual 69, 3) := by decide +kernel
theorem dX7_share_84 : decode cX7_share 84 = .ok (.ifCond .eq 5, 3) := by decide +kernel
theorem dX7_share_87 : decode cX7_share 87 = .ok (.iconst 0, 1) := by decide +kernel
theorem dX7_share_88 : decode cX7_share 88 = .ok (.ireturn, 1) := by decide +kernel
theorem dX7_share_89 : decode cX7_share 89 = .ok (.aload_n 0, 1) := by decide +kernel
theorem dX7_share_90 : decode cX7_share 90 = .ok (.getfield 16, 3) := by decide +kernel
theorem dX7_share_93 : decode cX7_share 93 = .ok (.iconst 3, 1) := by decide +kernel
theorem dX7_share_94 : decode cX7_share 94 = .ok (.iload_n 2, 1) := by decide +kernel
theorem dX7_share_95 : decode cX7_share 95 = .ok (.imul, 1) := by decide +kernel
theorem dX7_share_96 : decode cX7_share 96 = .ok (.iload_n 3, 1) := by decide +kernel
theorem dX7_share_97 : decode cX7_share 97 = .ok (.iadd, 1) := by decide +kernel
theorem dX7_share_98 : decode cX7_share 98 = .ok (.iaload, 1) := by decide +kernel
theorem dX7_share_99 : decode cX7_share 99 = .ok (.istore 7, 2) := by decide +kernel
theorem dX7_share_101 : decode cX7_share 101 = .ok (.aload_n 0, 1) := by decide +kernel
theorem dX7_share_102 : decode cX7_share 102 = .ok (.getfield 16, 3) := by decide +kernel
theorem dX7_share_105 : decode cX7_share 105 = .ok (.iconst 3, 1) := by decide +kernel
theorem dX7_share_106 : decode cX7_share 106 = .ok (.iload_n 2, 1) := by decide +kernel
theorem dX7_share_107 : decode cX7_share 107 = .ok (.imul, 1) := by decide +kernel
theorem dX7_share_108 : decode cX7_share 108 = .ok (.iload_n 3, 1) := by decide +kernel
theorem dX7_share_109 : decode cX7_share 109 = .ok (.iadd, 1) := by decide +kernel
theorem dX7_share_110 : decode cX7_share 110 = .ok (.iload 4, 2) := by decide +kernel
theorem dX7_share_112 : decode cX7_share 112 = .ok (.iastore, 1) := by decide +kernel
theorem dX7_share_113 : decode cX7_share 113 = .ok (.iconst 2, 1) := by decide +kernel
theorem dX7_share_114 : decode cX7_share 114 = .ok (.iload_n 3, 1) := by decide +kernel
theorem dX7_share_115 : decode cX7_share 115 = .ok (.imul, 1) := by decide +kernel
theorem dX7_share_116 : decode cX7_share 116 = .ok (.istore 8, 2) := by decide +kernel
theorem dX7_share_118 : decode cX7_share 118 = .ok (.iload 8, 2) := by decide +kernel
theorem dX7_share_120 : decode cX7_share 120 = .ok (.iconst 2, 1) := by decide +kernel
theorem dX7_share_121 : decode cX7_share 121 = .ok (.iload_n 3, 1) := by decide +kernel
theorem dX7_share_122 : decode cX7_share 122 = .ok (.imul, 1) := by decide +kernel
theorem dX7_share_123 : decode cX7_share 123 = .ok (.iconst 2, 1) := by decide +kernel
theorem dX7_share_124 : decode cX7_share 124 = .ok (.iadd, 1) := by decide +kernel
theorem dX7_share_125 : decode cX7_share 125 = .ok (.if_icmp .ge 74, 3) := by decide +kernel
theorem dX7_share_128 : decode cX7_share 128 = .ok (.iconst 0, 1) := by decide +kernel
theorem dX7_share_129 : decode cX7_share 129 = .ok (.istore 9, 2) := by decide +kernel
theorem dX7_share_131 : decode cX7_share 131 = .ok (.iload 9, 2) := by decide +kernel
theorem dX7_share_133 : decode cX7_share 133 = .ok (.bipush 24, 2) := by decide +kernel
theorem dX7_share_135 : decode cX7_share 135 = .ok (.if_icmp .ge 58, 3) := by decide +kernel
theorem dX7_share_138 : decode cX7_share 138 = .ok (.iload 4, 2) := by decide +kernel
theorem dX7_share_140 : decode cX7_share 140 = .ok (.iload 9, 2) := by decide +kernel
theorem dX7_share_142 : decode cX7_share 142 = .ok (.bipush 6, 2) := by decide +kernel
theorem dX7_share_144 : decode cX7_share 144 = .ok (.idiv, 1) := by decide +kernel
theorem dX7_share_145 : decode cX7_share 145 = .ok (.ishr, 1) := by decide +kernel
theorem dX7_share_146 : decode cX7_share 146 = .ok (.iconst 1, 1) := by decide +kernel
theorem dX7_share_147 : decode cX7_share 147 = .ok (.iand, 1) := by decide +kernel
theorem dX7_share_148 : decode cX7_share 148 = .ok (.ifCond .ne 39, 3) := by decide +kernel
theorem dX7_share_151 : decode cX7_share 151 = .ok (.aload_n 0, 1) := by decide +kernel
theorem dX7_share_152 : decode cX7_share 152 = .ok (.getfield 23, 3) := by decide +kernel
theorem dX7_share_155 : decode cX7_share 155 = .ok (.bipush 24, 2) := by decide +kernel
theorem dX7_share_157 : decode cX7_share 157 = .ok (.iload 8, 2) := by decide +kernel
theorem dX7_share_159 : decode cX7_share 159 = .ok (.iload_n 2, 1) := by decide +kernel
theorem dX7_share_160 : decode cX7_share 160 = .ok (.invokestatic 65, 3) := by decide +kernel
theorem dX7_share_163 : decode cX7_share 163 = .ok (.imul, 1) := by decide +kernel
theorem dX7_share_164 : decode cX7_share 164 = .ok (.iload 9, 2) := by decide +kernel
theorem dX7_share_166 : decode cX7_share 166 = .ok (.iadd, 1) := by decide +kernel
theorem dX7_share_167 : decode cX7_share 167 = .ok (.iconst 0, 1) := by decide +kernel
theorem dX7_share_168 : decode cX7_share 168 = .ok (.iastore, 1) := by decide +kernel
theorem dX7_share_169 : decode cX7_share 169 = .ok (.aload_n 0, 1) := by decide +kernel
theorem dX7_share_170 : decode cX7_share 170 = .ok (.getfield 29, 3) := by decide +kernel
theorem dX7_share_173 : decode cX7_share 173 = .ok (.bipush 24, 2) := by decide +kernel
theorem dX7_share_175 : decode cX7_share 175 = .ok (.iload 8, 2) := by decide +kernel
theorem dX7_share_177 : decode cX7_share 177 = .ok (.iload_n 2, 1) := by decide +kernel
theorem dX7_share_178 : decode cX7_share 178 = .ok (.invokestatic 65, 3) := by decide +kernel
theorem dX7_share_181 : decode cX7_share 181 = .ok (.imul, 1) := by decide +kernel
theorem dX7_share_182 : decode cX7_share 182 = .ok (.iload 9, 2) := by decide +kernel
theorem dX7_share_184 : decode cX7_share 184 = .ok (.iadd, 1) := by decide +kernel
theorem dX7_share_185 : decode cX7_share 185 = .ok (.iconst 0, 1) := by decide +kernel
theorem dX7_share_186 : decode cX7_share 186 = .ok (.iastore, 1) := by decide +kernel
theorem dX7_share_187 : decode cX7_share 187 = .ok (.iinc 9 1, 3) := by decide +kernel
theorem dX7_share_190 : decode cX7_share 190 = .ok (.goto (-59), 3) := by decide +kernel
theorem dX7_share_193 : decode cX7_share 193 = .ok (.iinc 8 1, 3) := by decide +kernel
theorem dX7_share_196 : decode cX7_share 196 = .ok (.goto (-78), 3) := by decide +kernel
theorem dX7_share_199 : decode cX7_share 199 = .ok (.iload 7, 2) := by decide +kernel
theorem dX7_share_201 : decode cX7_share 201 = .ok (.ireturn, 1) := by decide +kernel
theorem dX7_greater_0 : decode cX7_greater 0 = .ok (.iload_n 0, 1) := by decide +kernel
theorem dX7_greater_1 : decode cX7_greater 1 = .ok (.iload_n 1, 1) := by decide +kernel
theorem dX7_greater_2 : decode cX7_greater 2 = .ok (.if_icmp .le 7, 3) := by decide +kernel
theorem dX7_greater_5 : decode cX7_greater 5 = .ok (.iload_n 0, 1) := by decide +kernel
theorem dX7_greater_6 : decode cX7_greater 6 = .ok (.goto 4, 3) := by decide +kernel
theorem dX7_greater_9 : decode cX7_greater 9 = .ok (.iload_n 1, 1) := by decide +kernel
theorem dX7_greater_10 : decode cX7_greater 10 = .ok (.ireturn, 1) := by decide +kernel
theorem dX7_forgets_0 : decode cX7_forgets 0 = .ok (.bipush 24, 2) := by decide +kernel
theorem dX7_forgets_2 : decode cX7_forgets 2 = .ok (.iload_n 1, 1) := by decide +kernel
theorem dX7_forgets_3 : decode cX7_forgets 3 = .ok (.iload_n 2, 1) := by decide +kernel
theorem dX7_forgets_4 : decode cX7_forgets 4 = .ok (.invokestatic 65, 3) := by decide +kernel
theorem dX7_forgets_7 : decode cX7_forgets 7 = .ok (.imul, 1) := by decide +kernel
theorem dX7_forgets_8 : decode cX7_forgets 8 = .ok (.istore_n 3, 1) := by decide +kernel
theorem dX7_forgets_9 : decode cX7_forgets 9 = .ok (.iconst 0, 1) := by decide +kernel
theorem dX7_forgets_10 : decode cX7_forgets 10 = .ok (.istore 4, 2) := by decide +kernel
theorem dX7_forgets_12 : decode cX7_forgets 12 = .ok (.iload 4, 2) := by decide +kernel
theorem dX7_forgets_14 : decode cX7_forgets 14 = .ok (.bipush 24, 2) := by decide +kernel
theorem dX7_forgets_16 : decode cX7_forgets 16 = .ok (.if_icmp .ge 59, 3) := by decide +kernel
theorem dX7_forgets_19 : decode cX7_forgets 19 = .ok (.aload_n 0, 1) := by decide +kernel
theorem dX7_forgets_20 : decode cX7_forgets 20 = .ok (.getfield 35, 3) := by decide +kernel
theorem dX7_forgets_23 : decode cX7_forgets 23 = .ok (.iload_n 3, 1) := by decide +kernel
theorem dX7_forgets_24 : decode cX7_forgets 24 = .ok (.iload 4, 2) := by decide +kernel
theorem dX7_forgets_26 : decode cX7_forgets 26 = .ok (.iadd, 1) := by decide +kernel
theorem dX7_forgets_27 : decode cX7_forgets 27 = .ok (.aload_n 0, 1) := by decide +kernel
theorem dX7_forgets_28 : decode cX7_forgets 28 = .ok (.getfield 35, 3) := by decide +kernel
theorem dX7_forgets_31 : decode cX7_forgets 31 = .ok (.iload_n 3, 1) := by decide +kernel
theorem dX7_forgets_32 : decode cX7_forgets 32 = .ok (.iload 4, 2) := by decide +kernel
theorem dX7_forgets_34 : decode cX7_forgets 34 = .ok (.iadd, 1) := by decide +kernel
theorem dX7_forgets_35 : decode cX7_forgets 35 = .ok (.iaload, 1) := by decide +kernel
theorem dX7_forgets_36 : decode cX7_forgets 36 = .ok (.aload_n 0, 1) := by decide +kernel
theorem dX7_forgets_37 : decode cX7_forgets 37 = .ok (.getfield 29, 3) := by decide +kernel
theorem dX7_forgets_40 : decode cX7_forgets 40 = .ok (.iload_n 3, 1) := by decide +kernel
theorem dX7_forgets_41 : decode cX7_forgets 41 = .ok (.iload 4, 2) := by decide +kernel
theorem dX7_forgets_43 : decode cX7_forgets 43 = .ok (.iadd, 1) := by decide +kernel
theorem dX7_forgets_44 : decode cX7_forgets 44 = .ok (.iaload, 1) := by decide +kernel
theorem dX7_forgets_45 : decode cX7_forgets 45 = .ok (.invokestatic 111, 3) := by decide +kernel
theorem dX7_forgets_48 : decode cX7_forgets 48 = .ok (.iastore, 1) := by decide +kernel
theorem dX7_forgets_49 : decode cX7_forgets 49 = .ok (.aload_n 0, 1) := by decide +kernel
theorem dX7_forgets_50 : decode cX7_forgets 50 = .ok (.getfield 23, 3) := by decide +kernel
theorem dX7_forgets_53 : decode cX7_forgets 53 = .ok (.iload_n 3, 1) := by decide +kernel
theorem dX7_forgets_54 : decode cX7_forgets 54 = .ok (.iload 4, 2) := by decide +kernel
theorem dX7_forgets_56 : decode cX7_forgets 56 = .ok (.iadd, 1) := by decide +kernel
theorem dX7_forgets_57 : decode cX7_forgets 57 = .ok (.iconst 0, 1) := by decide +kernel
theorem dX7_forgets_58 : decode cX7_forgets 58 = .ok (.iastore, 1) := by decide +kernel
theorem dX7_forgets_59 : decode cX7_forgets 59 = .ok (.aload_n 0, 1) := by decide +kernel
theorem dX7_forgets_60 : decode cX7_forgets 60 = .ok (.getfield 29, 3) := by decide +kernel
theorem dX7_forgets_63 : decode cX7_forgets 63 = .ok (.iload_n 3, 1) := by decide +kernel
theorem dX7_forgets_64 : decode cX7_forgets 64 = .ok (.iload 4, 2) := by decide +kernel
theorem dX7_forgets_66 : decode cX7_forgets 66 = .ok (.iadd, 1) := by decide +kernel
theorem dX7_forgets_67 : decode cX7_forgets 67 = .ok (.iconst 0, 1) := by decide +kernel
theorem dX7_forgets_68 : decode cX7_forgets 68 = .ok (.iastore, 1) := by decide +kernel
theorem dX7_forgets_69 : decode cX7_forgets 69 = .ok (.iinc 4 1, 3) := by decide +kernel
theorem dX7_forgets_72 : decode cX7_forgets 72 = .ok (.goto (-60), 3) := by decide +kernel
theorem dX7_forgets_75 : decode cX7_forgets 75 = .ok (.iconst 0, 1) := by decide +kernel
theorem dX7_forgets_76 : decode cX7_forgets 76 = .ok (.istore 4, 2) := by decide +kernel
theorem dX7_forgets_78 : decode cX7_forgets 78 = .ok (.iload 4, 2) := by decide +kernel
theorem dX7_forgets_80 : decode cX7_forgets 80 = .ok (.aload_n 0, 1) := by decide +kernel
theorem dX7_forgets_81 : decode cX7_forgets 81 = .ok (.getfield 90, 3) := by decide +kernel
theorem dX7_forgets_84 : decode cX7_forgets 84 = .ok (.if_icmp .ge 93, 3) := by decide +kernel
theorem dX7_forgets_87 : decode cX7_forgets 87 = .ok (.aload_n 0, 1) := by decide +kernel
theorem dX7_forgets_88 : decode cX7_forgets 88 = .ok (.getfield 38, 3) := by decide +kernel
theorem dX7_forgets_91 : decode cX7_forgets 91 = .ok (.iload 4, 2) := by decide +kernel
theorem dX7_forgets_93 : decode cX7_forgets 93 = .ok (.iaload, 1) := by decide +kernel
theorem dX7_forgets_94 : decode cX7_forgets 94 = .ok (.iload_n 2, 1) := by decide +kernel
theorem dX7_forgets_95 : decode cX7_forgets 95 = .ok (.if_icmp .ne 76, 3) := by decide +kernel
theorem dX7_forgets_98 : decode cX7_forgets 98 = .ok (.aload_n 0, 1) := by decide +kernel
theorem dX7_forgets_99 : decode cX7_forgets 99 = .ok (.iload_n 1, 1) := by decide +kernel
theorem dX7_forgets_100 : decode cX7_forgets 100 = .ok (.iload 4, 2) := by decide +kernel
theorem dX7_forgets_102 : decode cX7_forgets 102 = .ok (.invokevirtual 93, 3) := by decide +kernel
theorem dX7_forgets_105 : decode cX7_forgets 105 = .ok (.ifCond .eq 66, 3) := by decide +kernel
theorem dX7_forgets_108 : decode cX7_forgets 108 = .ok (.iconst 0, 1) := by decide +kernel
theorem dX7_forgets_109 : decode cX7_forgets 109 = .ok (.istore 5, 2) := by decide +kernel
theorem dX7_forgets_111 : decode cX7_forgets 111 = .ok (.iload 5, 2) := by decide +kernel
theorem dX7_forgets_113 : decode cX7_forgets 113 = .ok (.bipush 24, 2) := by decide +kernel
theorem dX7_forgets_115 : decode cX7_forgets 115 = .ok (.if_icmp .ge 43, 3) := by decide +kernel
theorem dX7_forgets_118 : decode cX7_forgets 118 = .ok (.aload_n 0, 1) := by decide +kernel
theorem dX7_forgets_119 : decode cX7_forgets 119 = .ok (.getfield 35, 3) := by decide +kernel
theorem dX7_forgets_122 : decode cX7_forgets 122 = .ok (.iload_n 3, 1) := by decide +kernel
theorem dX7_forgets_123 : decode cX7_forgets 123 = .ok (.iload 5, 2) := by decide +kernel
theorem dX7_forgets_125 : decode cX7_forgets 125 = .ok (.iadd, 1) := by decide +kernel
theorem dX7_forgets_126 : decode cX7_forgets 126 = .ok (.aload_n 0, 1) := by decide +kernel
theorem dX7_forgets_127 : decode cX7_forgets 127 = .ok (.getfield 35, 3) := by decide +kernel
theorem dX7_forgets_130 : decode cX7_forgets 130 = .ok (.iload_n 3, 1) := by decide +kernel
theorem dX7_forgets_131 : decode cX7_forgets 131 = .ok (.iload 5, 2) := by decide +kernel
theorem dX7_forgets_133 : decode cX7_forgets 133 = .ok (.iadd, 1) := by decide +kernel
theorem dX7_forgets_134 : decode cX7_forgets 134 = .ok (.iaload, 1) := by decide +kernel
theorem dX7_forgets_135 : decode cX7_forgets 135 = .ok (.aload_n 0, 1) := by decide +kernel
theorem dX7_forgets_136 : decode cX7_forgets 136 = .ok (.getfield 41, 3) := by decide +kernel
theorem dX7_forgets_139 : decode cX7_forgets 139 = .ok (.bipush 24, 2) := by decide +kernel
theorem dX7_forgets_141 : decode cX7_forgets 141 = .ok (.iload 4, 2) := by decide +kernel
theorem dX7_forgets_143 : decode cX7_forgets 143 = .ok (.imul, 1) := by decide +kernel
theorem dX7_forgets_144 : decode cX7_forgets 144 = .ok (.iload 5, 2) := by decide +kernel
theorem dX7_forgets_146 : decode cX7_forgets 146 = .ok (.iadd, 1) := by decide +kernel
theorem dX7_forgets_147 : decode cX7_forgets 147 = .ok (.iaload, 1) := by decide +kernel
theorem dX7_forgets_148 : decode cX7_forgets 148 = .ok (.invokestatic 111, 3) := by decide +kernel
theorem dX7_forgets_151 : decode cX7_forgets 151 = .ok (.iastore, 1) := by decide +kernel
theorem dX7_forgets_152 : decode cX7_forgets 152 = .ok (.iinc 5 1, 3) := by decide +kernel
theorem dX7_forgets_155 : decode cX7_forgets 155 = .ok (.goto (-44), 3) := by decide +kernel
theorem dX7_forgets_158 : decode cX7_forgets 158 = .ok (.aload_n 0, 1) := by decide +kernel
theorem dX7_forgets_159 : decode cX7_forgets 159 = .ok (.getfield 44, 3) := by decide +kernel
theorem dX7_forgets_162 : decode cX7_forgets 162 = .ok (.bipush 6, 2) := by decide +kernel
theorem dX7_forgets_164 : decode cX7_forgets 164 = .ok (.iload 4, 2) := by decide +kernel
theorem dX7_forgets_166 : decode cX7_forgets 166 = .ok (.imul, 1) := by decide +kernel
theorem dX7_forgets_167 : decode cX7_forgets 167 = .ok (.iload_n 1, 1) := by decide +kernel
theorem dX7_forgets_168 : decode cX7_forgets 168 = .ok (.iadd, 1) := by decide +kernel
theorem dX7_forgets_169 : decode cX7_forgets 169 = .ok (.iconst 0, 1) := by decide +kernel
theorem dX7_forgets_170 : decode cX7_forgets 170 = .ok (.iastore, 1) := by decide +kernel
theorem dX7_forgets_171 : decode cX7_forgets 171 = .ok (.iinc 4 1, 3) := by decide +kernel
theorem dX7_forgets_174 : decode cX7_forgets 174 = .ok (.goto (-96), 3) := by decide +kernel
theorem dX7_forgets_177 : decode cX7_forgets 177 = .ok (.aload_n 0, 1) := by decide +kernel
theorem dX7_forgets_178 : decode cX7_forgets 178 = .ok (.getfield 32, 3) := by decide +kernel
theorem dX7_forgets_181 : decode cX7_forgets 181 = .ok (.iload_n 1, 1) := by decide +kernel
theorem dX7_forgets_182 : decode cX7_forgets 182 = .ok (.iload_n 2, 1) := by decide +kernel
theorem dX7_forgets_183 : decode cX7_forgets 183 = .ok (.invokestatic 65, 3) := by decide +kernel
theorem dX7_forgets_186 : decode cX7_forgets 186 = .ok (.iconst 1, 1) := by decide +kernel
theorem dX7_forgets_187 : decode cX7_forgets 187 = .ok (.bastore, 1) := by decide +kernel
theorem dX7_forgets_188 : decode cX7_forgets 188 = .ok (.aload_n 0, 1) := by decide +kernel
theorem dX7_forgets_189 : decode cX7_forgets 189 = .ok (.getfield 19, 3) := by decide +kernel
theorem dX7_forgets_192 : decode cX7_forgets 192 = .ok (.iload_n 1, 1) := by decide +kernel
theorem dX7_forgets_193 : decode cX7_forgets 193 = .ok (.iload_n 2, 1) := by decide +kernel
theorem dX7_forgets_194 : decode cX7_forgets 194 = .ok (.invokestatic 65, 3) := by decide +kernel
theorem dX7_forgets_197 : decode cX7_forgets 197 = .ok (.iconst 0, 1) := by decide +kernel
theorem dX7_forgets_198 : decode cX7_forgets 198 = .ok (.bastore, 1) := by decide +kernel
theorem dX7_forgets_199 : decode cX7_forgets 199 = .ok (.return_, 1) := by decide +kernel
theorem dX7_isOld_0 : decode cX7_isOld 0 = .ok (.aload_n 0, 1) := by decide +kernel
theorem dX7_isOld_1 : decode cX7_isOld 1 = .ok (.getfield 32, 3) := by decide +kernel
theorem dX7_isOld_4 : decode cX7_isOld 4 = .ok (.iload_n 1, 1) := by decide +kernel
theorem dX7_isOld_5 : decode cX7_isOld 5 = .ok (.iload_n 3, 1) := by decide +kernel
theorem dX7_isOld_6 : decode cX7_isOld 6 = .ok (.invokestatic 65, 3) := by decide +kernel
theorem dX7_isOld_9 : decode cX7_isOld 9 = .ok (.baload, 1) := by decide +kernel
theorem dX7_isOld_10 : decode cX7_isOld 10 = .ok (.istore 4, 2) := by decide +kernel
theorem dX7_isOld_12 : decode cX7_isOld 12 = .ok (.iconst 0, 1) := by decide +kernel
theorem dX7_isOld_13 : decode cX7_isOld 13 = .ok (.istore 5, 2) := by decide +kernel
theorem dX7_isOld_15 : decode cX7_isOld 15 = .ok (.iload 5, 2) := by decide +kernel
theorem dX7_isOld_17 : decode cX7_isOld 17 = .ok (.bipush 24, 2) := by decide +kernel
theorem dX7_isOld_19 : decode cX7_isOld 19 = .ok (.if_icmp .ge 56, 3) := by decide +kernel
theorem dX7_isOld_22 : decode cX7_isOld 22 = .ok (.iload 4, 2) := by decide +kernel
theorem dX7_isOld_24 : decode cX7_isOld 24 = .ok (.ifCond .eq 42, 3) := by decide +kernel
theorem dX7_isOld_27 : decode cX7_isOld 27 = .ok (.aload_n 0, 1) := by decide +kernel
theorem dX7_isOld_28 : decode cX7_isOld 28 = .ok (.getfield 23, 3) := by decide +kernel
theorem dX7_isOld_31 : decode cX7_isOld 31 = .ok (.bipush 24, 2) := by decide +kernel
theorem dX7_isOld_33 : decode cX7_isOld 33 = .ok (.iload_n 2, 1) := by decide +kernel
theorem dX7_isOld_34 : decode cX7_isOld 34 = .ok (.iload_n 3, 1) := by decide +kernel
theorem dX7_isOld_35 : decode cX7_isOld 35 = .ok (.invokestatic 65, 3) := by decide +kernel
theorem dX7_isOld_38 : decode cX7_isOld 38 = .ok (.imul, 1) := by decide +kernel
theorem dX7_isOld_39 : decode cX7_isOld 39 = .ok (.iload 5, 2) := by decide +kernel
theorem dX7_isOld_41 : decode cX7_isOld 41 = .ok (.iadd, 1) := by decide +kernel
theorem dX7_isOld_42 : decode cX7_isOld 42 = .ok (.iaload, 1) := by decide +kernel
theorem dX7_isOld_43 : decode cX7_isOld 43 = .ok (.aload_n 0, 1) := by decide +kernel
theorem dX7_isOld_44 : decode cX7_isOld 44 = .ok (.getfield 35, 3) := by decide +kernel
theorem dX7_isOld_47 : decode cX7_isOld 47 = .ok (.bipush 24, 2) := by decide +kernel
theorem dX7_isOld_49 : decode cX7_isOld 49 = .ok (.iload_n 1, 1) := by decide +kernel
theorem dX7_isOld_50 : decode cX7_isOld 50 = .ok (.iload_n 3, 1) := by decide +kernel
theorem dX7_isOld_51 : decode cX7_isOld 51 = .ok (.invokestatic 65, 3) := by decide +kernel
theorem dX7_isOld_54 : decode cX7_isOld 54 = .ok (.imul, 1) := by decide +kernel
theorem dX7_isOld_55 : decode cX7_isOld 55 = .ok (.iload 5, 2) := by decide +kernel
theorem dX7_isOld_57 : decode cX7_isOld 57 = .ok (.iadd, 1) := by decide +kernel
theorem dX7_isOld_58 : decode cX7_isOld 58 = .ok (.iaload, 1) := by decide +kernel
theorem dX7_isOld_59 : decode cX7_isOld 59 = .ok (.if_icmp .gt 7, 3) := by decide +kernel
theorem dX7_isOld_62 : decode cX7_isOld 62 = .ok (.iconst 1, 1) := by decide +kernel
theorem dX7_isOld_63 : decode cX7_isOld 63 = .ok (.goto 4, 3) := by decide +kernel
theorem dX7_isOld_66 : decode cX7_isOld 66 = .ok (.iconst 0, 1) := by decide +kernel
theorem dX7_isOld_67 : decode cX7_isOld 67 = .ok (.istore 4, 2) := by decide +kernel
theorem dX7_isOld_69 : decode cX7_isOld 69 = .ok (.iinc 5 1, 3) := by decide +kernel
theorem dX7_isOld_72 : decode cX7_isOld 72 = .ok (.goto (-57), 3) := by decide +kernel
theorem dX7_isOld_75 : decode cX7_isOld 75 = .ok (.iload 4, 2) := by decide +kernel
theorem dX7_isOld_77 : decode cX7_isOld 77 = .ok (.ireturn, 1) := by decide +kernel
theorem dX7_areShared_0 : decode cX7_areShared 0 = .ok (.iconst 0, 1) := by decide +kernel
theorem dX7_areShared_1 : decode cX7_areShared 1 = .ok (.istore 4, 2) := by decide +kernel
theorem dX7_areShared_3 : decode cX7_areShared 3 = .ok (.iconst 0, 1) := by decide +kernel
theorem dX7_areShared_4 : decode cX7_areShared 4 = .ok (.istore 5, 2) := by decide +kernel
theorem dX7_areShared_6 : decode cX7_areShared 6 = .ok (.iload 5, 2) := by decide +kernel
theorem dX7_areShared_8 : decode cX7_areShared 8 = .ok (.iconst 4, 1) := by decide +kernel
theorem dX7_areShared_9 : decode cX7_areShared 9 = .ok (.if_icmp .ge 43, 3) := by decide +kernel
theorem dX7_areShared_12 : decode cX7_areShared 12 = .ok (.iload 4, 2) := by decide +kernel
theorem dX7_areShared_14 : decode cX7_areShared 14 = .ok (.ifCond .ne 25, 3) := by decide +kernel
theorem dX7_areShared_17 : decode cX7_areShared 17 = .ok (.aload_n 0, 1) := by decide +kernel
theorem dX7_areShared_18 : decode cX7_areShared 18 = .ok (.iload_n 1, 1) := by decide +kernel
theorem dX7_areShared_19 : decode cX7_areShared 19 = .ok (.iload_n 3, 1) := by decide +kernel
theorem dX7_areShared_20 : decode cX7_areShared 20 = .ok (.iload 5, 2) := by decide +kernel
theorem dX7_areShared_22 : decode cX7_areShared 22 = .ok (.invokevirtual 87, 3) := by decide +kernel
theorem dX7_areShared_25 : decode cX7_areShared 25 = .ok (.ifCond .eq 18, 3) := by decide +kernel
theorem dX7_areShared_28 : decode cX7_areShared 28 = .ok (.aload_n 0, 1) := by decide +kernel
theorem dX7_areShared_29 : decode cX7_areShared 29 = .ok (.iload_n 2, 1) := by decide +kernel
theorem dX7_areShared_30 : decode cX7_areShared 30 = .ok (.iload_n 3, 1) := by decide +kernel
theorem dX7_areShared_31 : decode cX7_areShared 31 = .ok (.iload 5, 2) := by decide +kernel
theorem dX7_areShared_33 : decode cX7_areShared 33 = .ok (.invokevirtual 87, 3) := by decide +kernel
theorem dX7_areShared_36 : decode cX7_areShared 36 = .ok (.ifCond .eq 7, 3) := by decide +kernel
theorem dX7_areShared_39 : decode cX7_areShared 39 = .ok (.iconst 1, 1) := by decide +kernel
theorem dX7_areShared_40 : decode cX7_areShared 40 = .ok (.goto 4, 3) := by decide +kernel
theorem dX7_areShared_43 : decode cX7_areShared 43 = .ok (.iconst 0, 1) := by decide +kernel
theorem dX7_areShared_44 : decode cX7_areShared 44 = .ok (.istore 4, 2) := by decide +kernel
theorem dX7_areShared_46 : decode cX7_areShared 46 = .ok (.iinc 5 1, 3) := by decide +kernel
theorem dX7_areShared_49 : decode cX7_areShared 49 = .ok (.goto (-43), 3) := by decide +kernel
theorem dX7_areShared_52 : decode cX7_areShared 52 = .ok (.iload 4, 2) := by decide +kernel
theorem dX7_areShared_54 : decode cX7_areShared 54 = .ok (.ireturn, 1) := by decide +kernel
theorem dX7_merges_0 : decode cX7_merges 0 = .ok (.aload_n 0, 1) := by decide +kernel
theorem dX7_merges_1 : decode cX7_merges 1 = .ok (.getfield 23, 3) := by decide +kernel
theorem dX7_merges_4 : decode cX7_merges 4 = .ok (.iload_n 1, 1) := by decide +kernel
theorem dX7_merges_5 : decode cX7_merges 5 = .ok (.iaload, 1) := by decide +kernel
theorem dX7_merges_6 : decode cX7_merges 6 = .ok (.istore_n 3, 1) := by decide +kernel
theorem dX7_merges_7 : decode cX7_merges 7 = .ok (.aload_n 0, 1) := by decide +kernel
theorem dX7_merges_8 : decode cX7_merges 8 = .ok (.getfield 23, 3) := by decide +kernel
theorem dX7_merges_11 : decode cX7_merges 11 = .ok (.iload_n 2, 1) := by decide +kernel
theorem dX7_merges_12 : decode cX7_merges 12 = .ok (.iaload, 1) := by decide +kernel
theorem dX7_merges_13 : decode cX7_merges 13 = .ok (.istore 4, 2) := by decide +kernel
theorem dX7_merges_15 : decode cX7_merges 15 = .ok (.iload_n 3, 1) := by decide +kernel
theorem dX7_merges_16 : decode cX7_merges 16 = .ok (.ifCond .le 23, 3) := by decide +kernel
theorem dX7_merges_19 : decode cX7_merges 19 = .ok (.iload_n 3, 1) := by decide +kernel
theorem dX7_merges_20 : decode cX7_merges 20 = .ok (.iload 4, 2) := by decide +kernel
theorem dX7_merges_22 : decode cX7_merges 22 = .ok (.if_icmp .eq 13, 3) := by decide +kernel
theorem dX7_merges_25 : decode cX7_merges 25 = .ok (.iload_n 3, 1) := by decide +kernel
theorem dX7_merges_26 : decode cX7_merges 26 = .ok (.aload_n 0, 1) := by decide +kernel
theorem dX7_merges_27 : decode cX7_merges 27 = .ok (.getfield 29, 3) := by decide +kernel
theorem dX7_merges_30 : decode cX7_merges 30 = .ok (.iload_n 2, 1) := by decide +kernel
theorem dX7_merges_31 : decode cX7_merges 31 = .ok (.iaload, 1) := by decide +kernel
theorem dX7_merges_32 : decode cX7_merges 32 = .ok (.if_icmp .le 7, 3) := by decide +kernel
theorem dX7_merges_35 : decode cX7_merges 35 = .ok (.iconst 1, 1) := by decide +kernel
theorem dX7_merges_36 : decode cX7_merges 36 = .ok (.goto 4, 3) := by decide +kernel
theorem dX7_merges_39 : decode cX7_merges 39 = .ok (.iconst 0, 1) := by decide +kernel
theorem dX7_merges_40 : decode cX7_merges 40 = .ok (.istore 5, 2) := by decide +kernel
theorem dX7_merges_42 : decode cX7_merges 42 = .ok (.iload 4, 2) := by decide +kernel
theorem dX7_merges_44 : decode cX7_merges 44 = .ok (.ifCond .le 24, 3) := by decide +kernel
theorem dX7_merges_47 : decode cX7_merges 47 = .ok (.iload_n 3, 1) := by decide +kernel
theorem dX7_merges_48 : decode cX7_merges 48 = .ok (.iload 4, 2) := by decide +kernel
theorem dX7_merges_50 : decode cX7_merges 50 = .ok (.if_icmp .eq 14, 3) := by decide +kernel
theorem dX7_merges_53 : decode cX7_merges 53 = .ok (.iload 4, 2) := by decide +kernel
theorem dX7_merges_55 : decode cX7_merges 55 = .ok (.aload_n 0, 1) := by decide +kernel
theorem dX7_merges_56 : decode cX7_merges 56 = .ok (.getfield 29, 3) := by decide +kernel
theorem dX7_merges_59 : decode cX7_merges 59 = .ok (.iload_n 1, 1) := by decide +kernel
theorem dX7_merges_60 : decode cX7_merges 60 = .ok (.iaload, 1) := by decide +kernel
theorem dX7_merges_61 : decode cX7_merges 61 = .ok (.if_icmp .le 7, 3) := by decide +kernel
theorem dX7_merges_64 : decode cX7_merges 64 = .ok (.iconst 1, 1) := by decide +kernel
theorem dX7_merges_65 : decode cX7_merges 65 = .ok (.goto 4, 3) := by decide +kernel
theorem dX7_merges_68 : decode cX7_merges 68 = .ok (.iconst 0, 1) := by decide +kernel
theorem dX7_merges_69 : decode cX7_merges 69 = .ok (.istore 6, 2) := by decide +kernel
theorem dX7_merges_71 : decode cX7_merges 71 = .ok (.iload 5, 2) := by decide +kernel
theorem dX7_merges_73 : decode cX7_merges 73 = .ok (.ifCond .eq 7, 3) := by decide +kernel
theorem dX7_merges_76 : decode cX7_merges 76 = .ok (.iload_n 3, 1) := by decide +kernel
theorem dX7_merges_77 : decode cX7_merges 77 = .ok (.goto 14, 3) := by decide +kernel
theorem dX7_merges_80 : decode cX7_merges 80 = .ok (.iload 6, 2) := by decide +kernel
theorem dX7_merges_82 : decode cX7_merges 82 = .ok (.ifCond .eq 8, 3) := by decide +kernel
theorem dX7_merges_85 : decode cX7_merges 85 = .ok (.iload 4, 2) := by decide +kernel
theorem dX7_merges_87 : decode cX7_merges 87 = .ok (.goto 4, 3) := by decide +kernel
theorem dX7_merges_90 : decode cX7_merges 90 = .ok (.iconst 0, 1) := by decide +kernel
theorem dX7_merges_91 : decode cX7_merges 91 = .ok (.istore 7, 2) := by decide +kernel
theorem dX7_merges_93 : decode cX7_merges 93 = .ok (.iload 5, 2) := by decide +kernel
theorem dX7_merges_95 : decode cX7_merges 95 = .ok (.ifCond .eq 12, 3) := by decide +kernel
theorem dX7_merges_98 : decode cX7_merges 98 = .ok (.aload_n 0, 1) := by decide +kernel
theorem dX7_merges_99 : decode cX7_merges 99 = .ok (.getfield 26, 3) := by decide +kernel
theorem dX7_merges_102 : decode cX7_merges 102 = .ok (.iload_n 1, 1) := by decide +kernel
theorem dX7_merges_103 : decode cX7_merges 103 = .ok (.iaload, 1) := by decide +kernel
theorem dX7_merges_104 : decode cX7_merges 104 = .ok (.goto 9, 3) := by decide +kernel
theorem dX7_merges_107 : decode cX7_merges 107 = .ok (.aload_n 0, 1) := by decide +kernel
theorem dX7_merges_108 : decode cX7_merges 108 = .ok (.getfield 26, 3) := by decide +kernel
theorem dX7_merges_111 : decode cX7_merges 111 = .ok (.iload_n 2, 1) := by decide +kernel
theorem dX7_merges_112 : decode cX7_merges 112 = .ok (.iaload, 1) := by decide +kernel
theorem dX7_merges_113 : decode cX7_merges 113 = .ok (.istore 8, 2) := by decide +kernel
theorem dX7_merges_115 : decode cX7_merges 115 = .ok (.aload_n 0, 1) := by decide +kernel
theorem dX7_merges_116 : decode cX7_merges 116 = .ok (.dup, 1) := by decide +kernel
theorem dX7_merges_117 : decode cX7_merges 117 = .ok (.getfield 114, 3) := by decide +kernel
theorem dX7_merges_120 : decode cX7_merges 120 = .ok (.iload 7, 2) := by decide +kernel
theorem dX7_merges_122 : decode cX7_merges 122 = .ok (.ifCond .le 13, 3) := by decide +kernel
theorem dX7_merges_125 : decode cX7_merges 125 = .ok (.iload 7, 2) := by decide +kernel
theorem dX7_merges_127 : decode cX7_merges 127 = .ok (.iload_n 3, 1) := by decide +kernel
theorem dX7_merges_128 : decode cX7_merges 128 = .ok (.if_icmp .eq 7, 3) := by decide +kernel
theorem dX7_merges_131 : decode cX7_merges 131 = .ok (.iconst 1, 1) := by decide +kernel
theorem dX7_merges_132 : decode cX7_merges 132 = .ok (.goto 4, 3) := by decide +kernel
theorem dX7_merges_135 : decode cX7_merges 135 = .ok (.iconst 0, 1) := by decide +kernel
theorem dX7_merges_136 : decode cX7_merges 136 = .ok (.iadd, 1) := by decide +kernel
theorem dX7_merges_137 : decode cX7_merges 137 = .ok (.putfield 114, 3) := by decide +kernel
theorem dX7_merges_140 : decode cX7_merges 140 = .ok (.aload_n 0, 1) := by decide +kernel
theorem dX7_merges_141 : decode cX7_merges 141 = .ok (.dup, 1) := by decide +kernel
theorem dX7_merges_142 : decode cX7_merges 142 = .ok (.getfield 114, 3) := by decide +kernel
theorem dX7_merges_145 : decode cX7_merges 145 = .ok (.iload 7, 2) := by decide +kernel
theorem dX7_merges_147 : decode cX7_merges 147 = .ok (.ifCond .le 14, 3) := by decide +kernel
theorem dX7_merges_150 : decode cX7_merges 150 = .ok (.iload 7, 2) := by decide +kernel
theorem dX7_merges_152 : decode cX7_merges 152 = .ok (.iload 4, 2) := by decide +kernel
theorem dX7_merges_154 : decode cX7_merges 154 = .ok (.if_icmp .eq 7, 3) := by decide +kernel
theorem dX7_merges_157 : decode cX7_merges 157 = .ok (.iconst 1, 1) := by decide +kernel
theorem dX7_merges_158 : decode cX7_merges 158 = .ok (.goto 4, 3) := by decide +kernel
theorem dX7_merges_161 : decode cX7_merges 161 = .ok (.iconst 0, 1) := by decide +kernel
theorem dX7_merges_162 : decode cX7_merges 162 = .ok (.iadd, 1) := by decide +kernel
theorem dX7_merges_163 : decode cX7_merges 163 = .ok (.putfield 114, 3) := by decide +kernel
theorem dX7_merges_166 : decode cX7_merges 166 = .ok (.aload_n 0, 1) := by decide +kernel
theorem dX7_merges_167 : decode cX7_merges 167 = .ok (.getfield 23, 3) := by decide +kernel
theorem dX7_merges_170 : decode cX7_merges 170 = .ok (.iload_n 1, 1) := by decide +kernel
theorem dX7_merges_171 : decode cX7_merges 171 = .ok (.iload 7, 2) := by decide +kernel
theorem dX7_merges_173 : decode cX7_merges 173 = .ok (.iastore, 1) := by decide +kernel
theorem dX7_merges_174 : decode cX7_merges 174 = .ok (.aload_n 0, 1) := by decide +kernel
theorem dX7_merges_175 : decode cX7_merges 175 = .ok (.getfield 23, 3) := by decide +kernel
theorem dX7_merges_178 : decode cX7_merges 178 = .ok (.iload_n 2, 1) := by decide +kernel
theorem dX7_merges_179 : decode cX7_merges 179 = .ok (.iload 7, 2) := by decide +kernel
theorem dX7_merges_181 : decode cX7_merges 181 = .ok (.iastore, 1) := by decide +kernel
theorem dX7_merges_182 : decode cX7_merges 182 = .ok (.aload_n 0, 1) := by decide +kernel
theorem dX7_merges_183 : decode cX7_merges 183 = .ok (.getfield 26, 3) := by decide +kernel
theorem dX7_merges_186 : decode cX7_merges 186 = .ok (.iload_n 1, 1) := by decide +kernel
theorem dX7_merges_187 : decode cX7_merges 187 = .ok (.iload 8, 2) := by decide +kernel
theorem dX7_merges_189 : decode cX7_merges 189 = .ok (.iastore, 1) := by decide +kernel
theorem dX7_merges_190 : decode cX7_merges 190 = .ok (.aload_n 0, 1) := by decide +kernel
theorem dX7_merges_191 : decode cX7_merges 191 = .ok (.getfield 26, 3) := by decide +kernel
theorem dX7_merges_194 : decode cX7_merges 194 = .ok (.iload_n 2, 1) := by decide +kernel
theorem dX7_merges_195 : decode cX7_merges 195 = .ok (.iload 8, 2) := by decide +kernel
theorem dX7_merges_197 : decode cX7_merges 197 = .ok (.iastore, 1) := by decide +kernel
theorem dX7_merges_198 : decode cX7_merges 198 = .ok (.aload_n 0, 1) := by decide +kernel
theorem dX7_merges_199 : decode cX7_merges 199 = .ok (.getfield 29, 3) := by decide +kernel
theorem dX7_merges_202 : decode cX7_merges 202 = .ok (.iload_n 1, 1) := by decide +kernel
theorem dX7_merges_203 : decode cX7_merges 203 = .ok (.iaload, 1) := by decide +kernel
theorem dX7_merges_204 : decode cX7_merges 204 = .ok (.aload_n 0, 1) := by decide +kernel
theorem dX7_merges_205 : decode cX7_merges 205 = .ok (.getfield 29, 3) := by decide +kernel
theorem dX7_merges_208 : decode cX7_merges 208 = .ok (.iload_n 2, 1) := by decide +kernel
theorem dX7_merges_209 : decode cX7_merges 209 = .ok (.iaload, 1) := by decide +kernel
theorem dX7_merges_210 : decode cX7_merges 210 = .ok (.invokestatic 111, 3) := by decide +kernel
theorem dX7_merges_213 : decode cX7_merges 213 = .ok (.istore 9, 2) := by decide +kernel
theorem dX7_merges_215 : decode cX7_merges 215 = .ok (.aload_n 0, 1) := by decide +kernel
theorem dX7_merges_216 : decode cX7_merges 216 = .ok (.getfield 29, 3) := by decide +kernel
theorem dX7_merges_219 : decode cX7_merges 219 = .ok (.iload_n 1, 1) := by decide +kernel
theorem dX7_merges_220 : decode cX7_merges 220 = .ok (.iload 9, 2) := by decide +kernel
theorem dX7_merges_222 : decode cX7_merges 222 = .ok (.iastore, 1) := by decide +kernel
theorem dX7_merges_223 : decode cX7_merges 223 = .ok (.aload_n 0, 1) := by decide +kernel
theorem dX7_merges_224 : decode cX7_merges 224 = .ok (.getfield 29, 3) := by decide +kernel
theorem dX7_merges_227 : decode cX7_merges 227 = .ok (.iload_n 2, 1) := by decide +kernel
theorem dX7_merges_228 : decode cX7_merges 228 = .ok (.iload 9, 2) := by decide +kernel
theorem dX7_merges_230 : decode cX7_merges 230 = .ok (.iastore, 1) := by decide +kernel
theorem dX7_merges_231 : decode cX7_merges 231 = .ok (.return_, 1) := by decide +kernel
theorem dX7_joins_0 : decode cX7_joins 0 = .ok (.aload_n 0, 1) := by decide +kernel
theorem dX7_joins_1 : decode cX7_joins 1 = .ok (.getfield 19, 3) := by decide +kernel
theorem dX7_joins_4 : decode cX7_joins 4 = .ok (.iload_n 1, 1) := by decide +kernel
theorem dX7_joins_5 : decode cX7_joins 5 = .ok (.iload_n 3, 1) := by decide +kernel
theorem dX7_joins_6 : decode cX7_joins 6 = .ok (.invokestatic 65, 3) := by decide +kernel
theorem dX7_joins_9 : decode cX7_joins 9 = .ok (.iconst 1, 1) := by decide +kernel
theorem dX7_joins_10 : decode cX7_joins 10 = .ok (.bastore, 1) := by decide +kernel
theorem dX7_joins_11 : decode cX7_joins 11 = .ok (.aload_n 0, 1) := by decide +kernel
theorem dX7_joins_12 : decode cX7_joins 12 = .ok (.getfield 19, 3) := by decide +kernel
theorem dX7_joins_15 : decode cX7_joins 15 = .ok (.iload_n 2, 1) := by decide +kernel
theorem dX7_joins_16 : decode cX7_joins 16 = .ok (.iload_n 3, 1) := by decide +kernel
theorem dX7_joins_17 : decode cX7_joins 17 = .ok (.invokestatic 65, 3) := by decide +kernel
theorem dX7_joins_20 : decode cX7_joins 20 = .ok (.iconst 1, 1) := by decide +kernel
theorem dX7_joins_21 : decode cX7_joins 21 = .ok (.bastore, 1) := by decide +kernel
theorem dX7_joins_22 : decode cX7_joins 22 = .ok (.iconst 0, 1) := by decide +kernel
theorem dX7_joins_23 : decode cX7_joins 23 = .ok (.istore 4, 2) := by decide +kernel
theorem dX7_joins_25 : decode cX7_joins 25 = .ok (.iload 4, 2) := by decide +kernel
theorem dX7_joins_27 : decode cX7_joins 27 = .ok (.iconst 4, 1) := by decide +kernel
theorem dX7_joins_28 : decode cX7_joins 28 = .ok (.if_icmp .ge 69, 3) := by decide +kernel
theorem dX7_joins_31 : decode cX7_joins 31 = .ok (.iconst 0, 1) := by decide +kernel
theorem dX7_joins_32 : decode cX7_joins 32 = .ok (.istore 5, 2) := by decide +kernel
theorem dX7_joins_34 : decode cX7_joins 34 = .ok (.iload 5, 2) := by decide +kernel
theorem dX7_joins_36 : decode cX7_joins 36 = .ok (.bipush 6, 2) := by decide +kernel
theorem dX7_joins_38 : decode cX7_joins 38 = .ok (.if_icmp .ge 53, 3) := by decide +kernel
theorem dX7_joins_41 : decode cX7_joins 41 = .ok (.aload_n 0, 1) := by decide +kernel
theorem dX7_joins_42 : decode cX7_joins 42 = .ok (.iload_n 1, 1) := by decide +kernel
theorem dX7_joins_43 : decode cX7_joins 43 = .ok (.iload_n 3, 1) := by decide +kernel
theorem dX7_joins_44 : decode cX7_joins 44 = .ok (.iload 4, 2) := by decide +kernel
theorem dX7_joins_46 : decode cX7_joins 46 = .ok (.invokevirtual 87, 3) := by decide +kernel
theorem dX7_joins_49 : decode cX7_joins 49 = .ok (.ifCond .eq 42, 3) := by decide +kernel
theorem dX7_joins_52 : decode cX7_joins 52 = .ok (.aload_n 0, 1) := by decide +kernel
theorem dX7_joins_53 : decode cX7_joins 53 = .ok (.iload_n 2, 1) := by decide +kernel
theorem dX7_joins_54 : decode cX7_joins 54 = .ok (.iload_n 3, 1) := by decide +kernel
theorem dX7_joins_55 : decode cX7_joins 55 = .ok (.iload 4, 2) := by decide +kernel
theorem dX7_joins_57 : decode cX7_joins 57 = .ok (.invokevirtual 87, 3) := by decide +kernel
theorem dX7_joins_60 : decode cX7_joins 60 = .ok (.ifCond .eq 31, 3) := by decide +kernel
theorem dX7_joins_63 : decode cX7_joins 63 = .ok (.aload_n 0, 1) := by decide +kernel
theorem dX7_joins_64 : decode cX7_joins 64 = .ok (.iload_n 1, 1) := by decide +kernel
theorem dX7_joins_65 : decode cX7_joins 65 = .ok (.iload_n 3, 1) := by decide +kernel
theorem dX7_joins_66 : decode cX7_joins 66 = .ok (.iload 4, 2) := by decide +kernel
theorem dX7_joins_68 : decode cX7_joins 68 = .ok (.iload 5, 2) := by decide +kernel
theorem dX7_joins_70 : decode cX7_joins 70 = .ok (.invokestatic 72, 3) := by decide +kernel
theorem dX7_joins_73 : decode cX7_joins 73 = .ok (.iload_n 2, 1) := by decide +kernel
theorem dX7_joins_74 : decode cX7_joins 74 = .ok (.iload_n 3, 1) := by decide +kernel
theorem dX7_joins_75 : decode cX7_joins 75 = .ok (.iload 4, 2) := by decide +kernel
theorem dX7_joins_77 : decode cX7_joins 77 = .ok (.iload 5, 2) := by decide +kernel
theorem dX7_joins_79 : decode cX7_joins 79 = .ok (.invokestatic 72, 3) := by decide +kernel
theorem dX7_joins_82 : decode cX7_joins 82 = .ok (.invokevirtual 117, 3) := by decide +kernel
theorem dX7_joins_85 : decode cX7_joins 85 = .ok (.iinc 5 1, 3) := by decide +kernel
theorem dX7_joins_88 : decode cX7_joins 88 = .ok (.goto (-54), 3) := by decide +kernel
theorem dX7_joins_91 : decode cX7_joins 91 = .ok (.iinc 4 1, 3) := by decide +kernel
theorem dX7_joins_94 : decode cX7_joins 94 = .ok (.goto (-69), 3) := by decide +kernel
theorem dX7_joins_97 : decode cX7_joins 97 = .ok (.iconst 0, 1) := by decide +kernel
theorem dX7_joins_98 : decode cX7_joins 98 = .ok (.istore 4, 2) := by decide +kernel
theorem dX7_joins_100 : decode cX7_joins 100 = .ok (.iload 4, 2) := by decide +kernel
theorem dX7_joins_102 : decode cX7_joins 102 = .ok (.aload_n 0, 1) := by decide +kernel
theorem dX7_joins_103 : decode cX7_joins 103 = .ok (.getfield 90, 3) := by decide +kernel
theorem dX7_joins_106 : decode cX7_joins 106 = .ok (.if_icmp .ge 54, 3) := by decide +kernel
theorem dX7_joins_109 : decode cX7_joins 109 = .ok (.aload_n 0, 1) := by decide +kernel
theorem dX7_joins_110 : decode cX7_joins 110 = .ok (.getfield 38, 3) := by decide +kernel
theorem dX7_joins_113 : decode cX7_joins 113 = .ok (.iload 4, 2) := by decide +kernel
theorem dX7_joins_115 : decode cX7_joins 115 = .ok (.iaload, 1) := by decide +kernel
theorem dX7_joins_116 : decode cX7_joins 116 = .ok (.iload_n 3, 1) := by decide +kernel
theorem dX7_joins_117 : decode cX7_joins 117 = .ok (.if_icmp .ne 37, 3) := by decide +kernel
theorem dX7_joins_120 : decode cX7_joins 120 = .ok (.aload_n 0, 1) := by decide +kernel
theorem dX7_joins_121 : decode cX7_joins 121 = .ok (.iload_n 1, 1) := by decide +kernel
theorem dX7_joins_122 : decode cX7_joins 122 = .ok (.iload 4, 2) := by decide +kernel
theorem dX7_joins_124 : decode cX7_joins 124 = .ok (.invokevirtual 93, 3) := by decide +kernel
theorem dX7_joins_127 : decode cX7_joins 127 = .ok (.ifCond .ne 13, 3) := by decide +kernel
theorem dX7_joins_130 : decode cX7_joins 130 = .ok (.aload_n 0, 1) := by decide +kernel
theorem dX7_joins_131 : decode cX7_joins 131 = .ok (.iload_n 2, 1) := by decide +kernel
theorem dX7_joins_132 : decode cX7_joins 132 = .ok (.iload 4, 2) := by decide +kernel
theorem dX7_joins_134 : decode cX7_joins 134 = .ok (.invokevirtual 93, 3) := by decide +kernel
theorem dX7_joins_137 : decode cX7_joins 137 = .ok (.ifCond .eq 17, 3) := by decide +kernel
theorem dX7_joins_140 : decode cX7_joins 140 = .ok (.aload_n 0, 1) := by decide +kernel
theorem dX7_joins_141 : decode cX7_joins 141 = .ok (.iload_n 1, 1) := by decide +kernel
theorem dX7_joins_142 : decode cX7_joins 142 = .ok (.iload 4, 2) := by decide +kernel
theorem dX7_joins_144 : decode cX7_joins 144 = .ok (.invokevirtual 121, 3) := by decide +kernel
theorem dX7_joins_147 : decode cX7_joins 147 = .ok (.aload_n 0, 1) := by decide +kernel
theorem dX7_joins_148 : decode cX7_joins 148 = .ok (.iload_n 2, 1) := by decide +kernel
theorem dX7_joins_149 : decode cX7_joins 149 = .ok (.iload 4, 2) := by decide +kernel
theorem dX7_joins_151 : decode cX7_joins 151 = .ok (.invokevirtual 121, 3) := by decide +kernel
theorem dX7_joins_154 : decode cX7_joins 154 = .ok (.iinc 4 1, 3) := by decide +kernel
theorem dX7_joins_157 : decode cX7_joins 157 = .ok (.goto (-57), 3) := by decide +kernel
theorem dX7_joins_160 : decode cX7_joins 160 = .ok (.return_, 1) := by decide +kernel
theorem dX7_learns_0 : decode cX7_learns 0 = .ok (.aload_n 0, 1) := by decide +kernel
theorem dX7_learns_1 : decode cX7_learns 1 = .ok (.iload_n 1, 1) := by decide +kernel
theorem dX7_learns_2 : decode cX7_learns 2 = .ok (.iload_n 2, 1) := by decide +kernel
theorem dX7_learns_3 : decode cX7_learns 3 = .ok (.invokevirtual 93, 3) := by decide +kernel
theorem dX7_learns_6 : decode cX7_learns 6 = .ok (.ifCond .ne 20, 3) := by decide +kernel
theorem dX7_learns_9 : decode cX7_learns 9 = .ok (.aload_n 0, 1) := by decide +kernel
theorem dX7_learns_10 : decode cX7_learns 10 = .ok (.getfield 44, 3) := by decide +kernel
theorem dX7_learns_13 : decode cX7_learns 13 = .ok (.bipush 6, 2) := by decide +kernel
theorem dX7_learns_15 : decode cX7_learns 15 = .ok (.iload_n 2, 1) := by decide +kernel
theorem dX7_learns_16 : decode cX7_learns 16 = .ok (.imul, 1) := by decide +kernel
theorem dX7_learns_17 : decode cX7_learns 17 = .ok (.iload_n 1, 1) := by decide +kernel
theorem dX7_learns_18 : decode cX7_learns 18 = .ok (.iadd, 1) := by decide +kernel
theorem dX7_learns_19 : decode cX7_learns 19 = .ok (.aload_n 0, 1) := by decide +kernel
theorem dX7_learns_20 : decode cX7_learns 20 = .ok (.getfield 108, 3) := by decide +kernel
theorem dX7_learns_23 : decode cX7_learns 23 = .ok (.iconst 1, 1) := by decide +kernel
theorem dX7_learns_24 : decode cX7_learns 24 = .ok (.iadd, 1) := by decide +kernel
theorem dX7_learns_25 : decode cX7_learns 25 = .ok (.iastore, 1) := by decide +kernel
theorem dX7_learns_26 : decode cX7_learns 26 = .ok (.return_, 1) := by decide +kernel
theorem dX7_notes_0 : decode cX7_notes 0 = .ok (.aload_n 0, 1) := by decide +kernel
theorem dX7_notes_1 : decode cX7_notes 1 = .ok (.getfield 32, 3) := by decide +kernel
theorem dX7_notes_4 : decode cX7_notes 4 = .ok (.iload_n 1, 1) := by decide +kernel
theorem dX7_notes_5 : decode cX7_notes 5 = .ok (.iload_n 3, 1) := by decide +kernel
theorem dX7_notes_6 : decode cX7_notes 6 = .ok (.invokestatic 65, 3) := by decide +kernel
theorem dX7_notes_9 : decode cX7_notes 9 = .ok (.baload, 1) := by decide +kernel
theorem dX7_notes_10 : decode cX7_notes 10 = .ok (.ifCond .ne 16, 3) := by decide +kernel
theorem dX7_notes_13 : decode cX7_notes 13 = .ok (.aload_n 0, 1) := by decide +kernel
theorem dX7_notes_14 : decode cX7_notes 14 = .ok (.getfield 32, 3) := by decide +kernel
theorem dX7_notes_17 : decode cX7_notes 17 = .ok (.iload_n 2, 1) := by decide +kernel
theorem dX7_notes_18 : decode cX7_notes 18 = .ok (.iload_n 3, 1) := by decide +kernel
theorem dX7_notes_19 : decode cX7_notes 19 = .ok (.invokestatic 65, 3) := by decide +kernel
theorem dX7_notes_22 : decode cX7_notes 22 = .ok (.baload, 1) := by decide +kernel
theorem dX7_notes_23 : decode cX7_notes 23 = .ok (.ifCond .eq 7, 3) := by decide +kernel
theorem dX7_notes_26 : decode cX7_notes 26 = .ok (.iconst 1, 1) := by decide +kernel
theorem dX7_notes_27 : decode cX7_notes 27 = .ok (.goto 4, 3) := by decide +kernel
theorem dX7_notes_30 : decode cX7_notes 30 = .ok (.iconst 0, 1) := by decide +kernel
theorem dX7_notes_31 : decode cX7_notes 31 = .ok (.istore 4, 2) := by decide +kernel
theorem dX7_notes_33 : decode cX7_notes 33 = .ok (.iconst 0, 1) := by decide +kernel
theorem dX7_notes_34 : decode cX7_notes 34 = .ok (.istore 5, 2) := by decide +kernel
theorem dX7_notes_36 : decode cX7_notes 36 = .ok (.iload 5, 2) := by decide +kernel
theorem dX7_notes_38 : decode cX7_notes 38 = .ok (.bipush 24, 2) := by decide +kernel
theorem dX7_notes_40 : decode cX7_notes 40 = .ok (.if_icmp .ge 87, 3) := by decide +kernel
theorem dX7_notes_43 : decode cX7_notes 43 = .ok (.iload 4, 2) := by decide +kernel
theorem dX7_notes_45 : decode cX7_notes 45 = .ok (.ifCond .eq 82, 3) := by decide +kernel
theorem dX7_notes_48 : decode cX7_notes 48 = .ok (.aload_n 0, 1) := by decide +kernel
theorem dX7_notes_49 : decode cX7_notes 49 = .ok (.getfield 35, 3) := by decide +kernel
theorem dX7_notes_52 : decode cX7_notes 52 = .ok (.bipush 24, 2) := by decide +kernel
theorem dX7_notes_54 : decode cX7_notes 54 = .ok (.iload_n 1, 1) := by decide +kernel
theorem dX7_notes_55 : decode cX7_notes 55 = .ok (.iload_n 3, 1) := by decide +kernel
theorem dX7_notes_56 : decode cX7_notes 56 = .ok (.invokestatic 65, 3) := by decide +kernel
theorem dX7_notes_59 : decode cX7_notes 59 = .ok (.imul, 1) := by decide +kernel
theorem dX7_notes_60 : decode cX7_notes 60 = .ok (.iload 5, 2) := by decide +kernel
theorem dX7_notes_62 : decode cX7_notes 62 = .ok (.iadd, 1) := by decide +kernel
theorem dX7_notes_63 : decode cX7_notes 63 = .ok (.iaload, 1) := by decide +kernel
theorem dX7_notes_64 : decode cX7_notes 64 = .ok (.aload_n 0, 1) := by decide +kernel
theorem dX7_notes_65 : decode cX7_notes 65 = .ok (.getfield 35, 3) := by decide +kernel
theorem dX7_notes_68 : decode cX7_notes 68 = .ok (.bipush 24, 2) := by decide +kernel
theorem dX7_notes_70 : decode cX7_notes 70 = .ok (.iload_n 2, 1) := by decide +kernel
theorem dX7_notes_71 : decode cX7_notes 71 = .ok (.iload_n 3, 1) := by decide +kernel
theorem dX7_notes_72 : decode cX7_notes 72 = .ok (.invokestatic 65, 3) := by decide +kernel
theorem dX7_notes_75 : decode cX7_notes 75 = .ok (.imul, 1) := by decide +kernel
theorem dX7_notes_76 : decode cX7_notes 76 = .ok (.iload 5, 2) := by decide +kernel
theorem dX7_notes_78 : decode cX7_notes 78 = .ok (.iadd, 1) := by decide +kernel
theorem dX7_notes_79 : decode cX7_notes 79 = .ok (.iaload, 1) := by decide +kernel
theorem dX7_notes_80 : decode cX7_notes 80 = .ok (.invokestatic 111, 3) := by decide +kernel
theorem dX7_notes_83 : decode cX7_notes 83 = .ok (.istore 6, 2) := by decide +kernel
theorem dX7_notes_85 : decode cX7_notes 85 = .ok (.aload_n 0, 1) := by decide +kernel
theorem dX7_notes_86 : decode cX7_notes 86 = .ok (.getfield 35, 3) := by decide +kernel
theorem dX7_notes_89 : decode cX7_notes 89 = .ok (.bipush 24, 2) := by decide +kernel
theorem dX7_notes_91 : decode cX7_notes 91 = .ok (.iload_n 1, 1) := by decide +kernel
theorem dX7_notes_92 : decode cX7_notes 92 = .ok (.iload_n 3, 1) := by decide +kernel
theorem dX7_notes_93 : decode cX7_notes 93 = .ok (.invokestatic 65, 3) := by decide +kernel
theorem dX7_notes_96 : decode cX7_notes 96 = .ok (.imul, 1) := by decide +kernel
theorem dX7_notes_97 : decode cX7_notes 97 = .ok (.iload 5, 2) := by decide +kernel
theorem dX7_notes_99 : decode cX7_notes 99 = .ok (.iadd, 1) := by decide +kernel
theorem dX7_notes_100 : decode cX7_notes 100 = .ok (.iload 6, 2) := by decide +kernel
theorem dX7_notes_102 : decode cX7_notes 102 = .ok (.iastore, 1) := by decide +kernel
theorem dX7_notes_103 : decode cX7_notes 103 = .ok (.aload_n 0, 1) := by decide +kernel
theorem dX7_notes_104 : decode cX7_notes 104 = .ok (.getfield 35, 3) := by decide +kernel
theorem dX7_notes_107 : decode cX7_notes 107 = .ok (.bipush 24, 2) := by decide +kernel
theorem dX7_notes_109 : decode cX7_notes 109 = .ok (.iload_n 2, 1) := by decide +kernel
theorem dX7_notes_110 : decode cX7_notes 110 = .ok (.iload_n 3, 1) := by decide +kernel
theorem dX7_notes_111 : decode cX7_notes 111 = .ok (.invokestatic 65, 3) := by decide +kernel
theorem dX7_notes_114 : decode cX7_notes 114 = .ok (.imul, 1) := by decide +kernel
theorem dX7_notes_115 : decode cX7_notes 115 = .ok (.iload 5, 2) := by decide +kernel
theorem dX7_notes_117 : decode cX7_notes 117 = .ok (.iadd, 1) := by decide +kernel
theorem dX7_notes_118 : decode cX7_notes 118 = .ok (.iload 6, 2) := by decide +kernel
theorem dX7_notes_120 : decode cX7_notes 120 = .ok (.iastore, 1) := by decide +kernel
theorem dX7_notes_121 : decode cX7_notes 121 = .ok (.iinc 5 1, 3) := by decide +kernel
theorem dX7_notes_124 : decode cX7_notes 124 = .ok (.goto (-88), 3) := by decide +kernel
theorem dX7_notes_127 : decode cX7_notes 127 = .ok (.aload_n 0, 1) := by decide +kernel
theorem dX7_notes_128 : decode cX7_notes 128 = .ok (.getfield 32, 3) := by decide +kernel
theorem dX7_notes_131 : decode cX7_notes 131 = .ok (.iload_n 1, 1) := by decide +kernel
theorem dX7_notes_132 : decode cX7_notes 132 = .ok (.iload_n 3, 1) := by decide +kernel
theorem dX7_notes_133 : decode cX7_notes 133 = .ok (.invokestatic 65, 3) := by decide +kernel
theorem dX7_notes_136 : decode cX7_notes 136 = .ok (.iload 4, 2) := by decide +kernel
theorem dX7_notes_138 : decode cX7_notes 138 = .ok (.bastore, 1) := by decide +kernel
theorem dX7_notes_139 : decode cX7_notes 139 = .ok (.aload_n 0, 1) := by decide +kernel
theorem dX7_notes_140 : decode cX7_notes 140 = .ok (.getfield 32, 3) := by decide +kernel
theorem dX7_notes_143 : decode cX7_notes 143 = .ok (.iload_n 2, 1) := by decide +kernel
theorem dX7_notes_144 : decode cX7_notes 144 = .ok (.iload_n 3, 1) := by decide +kernel
theorem dX7_notes_145 : decode cX7_notes 145 = .ok (.invokestatic 65, 3) := by decide +kernel
theorem dX7_notes_148 : decode cX7_notes 148 = .ok (.iload 4, 2) := by decide +kernel
theorem dX7_notes_150 : decode cX7_notes 150 = .ok (.bastore, 1) := by decide +kernel
theorem dX7_notes_151 : decode cX7_notes 151 = .ok (.return_, 1) := by decide +kernel
theorem dX7_merge_0 : decode cX7_merge 0 = .ok (.iload_n 1, 1) := by decide +kernel
theorem dX7_merge_1 : decode cX7_merge 1 = .ok (.invokestatic 58, 3) := by decide +kernel
theorem dX7_merge_4 : decode cX7_merge 4 = .ok (.ifCond .eq 14, 3) := by decide +kernel
theorem dX7_merge_7 : decode cX7_merge 7 = .ok (.iload_n 2, 1) := by decide +kernel
theorem dX7_merge_8 : decode cX7_merge 8 = .ok (.invokestatic 58, 3) := by decide +kernel
theorem dX7_merge_11 : decode cX7_merge 11 = .ok (.ifCond .eq 7, 3) := by decide +kernel
theorem dX7_merge_14 : decode cX7_merge 14 = .ok (.iconst 1, 1) := by decide +kernel
theorem dX7_merge_15 : decode cX7_merge 15 = .ok (.goto 4, 3) := by decide +kernel
theorem dX7_merge_18 : decode cX7_merge 18 = .ok (.iconst 0, 1) := by decide +kernel
theorem dX7_merge_19 : decode cX7_merge 19 = .ok (.istore_n 3, 1) := by decide +kernel
theorem dX7_merge_20 : decode cX7_merge 20 = .ok (.aload_n 0, 1) := by decide +kernel
theorem dX7_merge_21 : decode cX7_merge 21 = .ok (.iload_n 3, 1) := by decide +kernel
theorem dX7_merge_22 : decode cX7_merge 22 = .ok (.ifCond .ne 7, 3) := by decide +kernel
theorem dX7_merge_25 : decode cX7_merge 25 = .ok (.iconst 1, 1) := by decide +kernel
theorem dX7_merge_26 : decode cX7_merge 26 = .ok (.goto 13, 3) := by decide +kernel
theorem dX7_merge_29 : decode cX7_merge 29 = .ok (.iload_n 1, 1) := by decide +kernel
theorem dX7_merge_30 : decode cX7_merge 30 = .ok (.iload_n 2, 1) := by decide +kernel
theorem dX7_merge_31 : decode cX7_merge 31 = .ok (.if_icmp .ne 7, 3) := by decide +kernel
theorem dX7_merge_34 : decode cX7_merge 34 = .ok (.iconst 2, 1) := by decide +kernel
theorem dX7_merge_35 : decode cX7_merge 35 = .ok (.goto 4, 3) := by decide +kernel
theorem dX7_merge_38 : decode cX7_merge 38 = .ok (.iconst 0, 1) := by decide +kernel
theorem dX7_merge_39 : decode cX7_merge 39 = .ok (.invokevirtual 69, 3) := by decide +kernel
theorem dX7_merge_42 : decode cX7_merge 42 = .ok (.ifCond .eq 5, 3) := by decide +kernel
theorem dX7_merge_45 : decode cX7_merge 45 = .ok (.iconst 0, 1) := by decide +kernel
theorem dX7_merge_46 : decode cX7_merge 46 = .ok (.ireturn, 1) := by decide +kernel
theorem dX7_merge_47 : decode cX7_merge 47 = .ok (.aload_n 0, 1) := by decide +kernel
theorem dX7_merge_48 : decode cX7_merge 48 = .ok (.iconst 0, 1) := by decide +kernel
theorem dX7_merge_49 : decode cX7_merge 49 = .ok (.putfield 114, 3) := by decide +kernel
theorem dX7_merge_52 : decode cX7_merge 52 = .ok (.iconst 0, 1) := by decide +kernel
theorem dX7_merge_53 : decode cX7_merge 53 = .ok (.istore 4, 2) := by decide +kernel
theorem dX7_merge_55 : decode cX7_merge 55 = .ok (.iconst 0, 1) := by decide +kernel
theorem dX7_merge_56 : decode cX7_merge 56 = .ok (.istore 5, 2) := by decide +kernel
theorem dX7_merge_58 : decode cX7_merge 58 = .ok (.iload 5, 2) := by decide +kernel
theorem dX7_merge_60 : decode cX7_merge 60 = .ok (.aload_n 0, 1) := by decide +kernel
theorem dX7_merge_61 : decode cX7_merge 61 = .ok (.getfield 55, 3) := by decide +kernel
theorem dX7_merge_64 : decode cX7_merge 64 = .ok (.if_icmp .ge 168, 3) := by decide +kernel
theorem dX7_merge_67 : decode cX7_merge 67 = .ok (.aload_n 0, 1) := by decide +kernel
theorem dX7_merge_68 : decode cX7_merge 68 = .ok (.iload_n 1, 1) := by decide +kernel
theorem dX7_merge_69 : decode cX7_merge 69 = .ok (.iload_n 2, 1) := by decide +kernel
theorem dX7_merge_70 : decode cX7_merge 70 = .ok (.iload 5, 2) := by decide +kernel
theorem dX7_merge_72 : decode cX7_merge 72 = .ok (.invokevirtual 124, 3) := by decide +kernel
theorem dX7_merge_75 : decode cX7_merge 75 = .ok (.ifCond .eq 151, 3) := by decide +kernel
theorem dX7_merge_78 : decode cX7_merge 78 = .ok (.aload_n 0, 1) := by decide +kernel
theorem dX7_merge_79 : decode cX7_merge 79 = .ok (.getfield 19, 3) := by decide +kernel
theorem dX7_merge_82 : decode cX7_merge 82 = .ok (.iload_n 1, 1) := by decide +kernel
theorem dX7_merge_83 : decode cX7_merge 83 = .ok (.iload 5, 2) := by decide +kernel
theorem dX7_merge_85 : decode cX7_merge 85 = .ok (.invokestatic 65, 3) := by decide +kernel
theorem dX7_merge_88 : decode cX7_merge 88 = .ok (.baload, 1) := by decide +kernel
theorem dX7_merge_89 : decode cX7_merge 89 = .ok (.istore 6, 2) := by decide +kernel
theorem dX7_merge_91 : decode cX7_merge 91 = .ok (.aload_n 0, 1) := by decide +kernel
theorem dX7_merge_92 : decode cX7_merge 92 = .ok (.getfield 19, 3) := by decide +kernel
theorem dX7_merge_95 : decode cX7_merge 95 = .ok (.iload_n 2, 1) := by decide +kernel
theorem dX7_merge_96 : decode cX7_merge 96 = .ok (.iload 5, 2) := by decide +kernel
theorem dX7_merge_98 : decode cX7_merge 98 = .ok (.invokestatic 65, 3) := by decide +kernel
theorem dX7_merge_101 : decode cX7_merge 101 = .ok (.baload, 1) := by decide +kernel
theorem dX7_merge_102 : decode cX7_merge 102 = .ok (.istore 7, 2) := by decide +kernel
theorem dX7_merge_104 : decode cX7_merge 104 = .ok (.iload 6, 2) := by decide +kernel
theorem dX7_merge_106 : decode cX7_merge 106 = .ok (.ifCond .eq 32, 3) := by decide +kernel
theorem dX7_merge_109 : decode cX7_merge 109 = .ok (.iload 7, 2) := by decide +kernel
theorem dX7_merge_111 : decode cX7_merge 111 = .ok (.ifCond .ne 27, 3) := by decide +kernel
theorem dX7_merge_114 : decode cX7_merge 114 = .ok (.aload_n 0, 1) := by decide +kernel
theorem dX7_merge_115 : decode cX7_merge 115 = .ok (.iload_n 2, 1) := by decide +kernel
theorem dX7_merge_116 : decode cX7_merge 116 = .ok (.iload_n 1, 1) := by decide +kernel
theorem dX7_merge_117 : decode cX7_merge 117 = .ok (.iload 5, 2) := by decide +kernel
theorem dX7_merge_119 : decode cX7_merge 119 = .ok (.invokevirtual 127, 3) := by decide +kernel
theorem dX7_merge_122 : decode cX7_merge 122 = .ok (.ifCond .eq 16, 3) := by decide +kernel
theorem dX7_merge_125 : decode cX7_merge 125 = .ok (.aload_n 0, 1) := by decide +kernel
theorem dX7_merge_126 : decode cX7_merge 126 = .ok (.iload_n 1, 1) := by decide +kernel
theorem dX7_merge_127 : decode cX7_merge 127 = .ok (.iload 5, 2) := by decide +kernel
theorem dX7_merge_129 : decode cX7_merge 129 = .ok (.invokevirtual 130, 3) := by decide +kernel
theorem dX7_merge_132 : decode cX7_merge 132 = .ok (.iinc 4 1, 3) := by decide +kernel
theorem dX7_merge_135 : decode cX7_merge 135 = .ok (.goto 55, 3) := by decide +kernel
theorem dX7_merge_138 : decode cX7_merge 138 = .ok (.iload 7, 2) := by decide +kernel
theorem dX7_merge_140 : decode cX7_merge 140 = .ok (.ifCond .eq 32, 3) := by decide +kernel
theorem dX7_merge_143 : decode cX7_merge 143 = .ok (.iload 6, 2) := by decide +kernel
theorem dX7_merge_145 : decode cX7_merge 145 = .ok (.ifCond .ne 27, 3) := by decide +kernel
theorem dX7_merge_148 : decode cX7_merge 148 = .ok (.aload_n 0, 1) := by decide +kernel
theorem dX7_merge_149 : decode cX7_merge 149 = .ok (.iload_n 1, 1) := by decide +kernel
theorem dX7_merge_150 : decode cX7_merge 150 = .ok (.iload_n 2, 1) := by decide +kernel
theorem dX7_merge_151 : decode cX7_merge 151 = .ok (.iload 5, 2) := by decide +kernel
theorem dX7_merge_153 : decode cX7_merge 153 = .ok (.invokevirtual 127, 3) := by decide +kernel
theorem dX7_merge_156 : decode cX7_merge 156 = .ok (.ifCond .eq 16, 3) := by decide +kernel
theorem dX7_merge_159 : decode cX7_merge 159 = .ok (.aload_n 0, 1) := by decide +kernel
theorem dX7_merge_160 : decode cX7_merge 160 = .ok (.iload_n 2, 1) := by decide +kernel
theorem dX7_merge_161 : decode cX7_merge 161 = .ok (.iload 5, 2) := by decide +kernel
theorem dX7_merge_163 : decode cX7_merge 163 = .ok (.invokevirtual 130, 3) := by decide +kernel
theorem dX7_merge_166 : decode cX7_merge 166 = .ok (.iinc 4 1, 3) := by decide +kernel
theorem dX7_merge_169 : decode cX7_merge 169 = .ok (.goto 21, 3) := by decide +kernel
theorem dX7_merge_172 : decode cX7_merge 172 = .ok (.iload 6, 2) := by decide +kernel
theorem dX7_merge_174 : decode cX7_merge 174 = .ok (.ifCond .ne 8, 3) := by decide +kernel
theorem dX7_merge_177 : decode cX7_merge 177 = .ok (.iload 7, 2) := by decide +kernel
theorem dX7_merge_179 : decode cX7_merge 179 = .ok (.ifCond .eq 11, 3) := by decide +kernel
theorem dX7_merge_182 : decode cX7_merge 182 = .ok (.aload_n 0, 1) := by decide +kernel
theorem dX7_merge_183 : decode cX7_merge 183 = .ok (.iload_n 1, 1) := by decide +kernel
theorem dX7_merge_184 : decode cX7_merge 184 = .ok (.iload_n 2, 1) := by decide +kernel
theorem dX7_merge_185 : decode cX7_merge 185 = .ok (.iload 5, 2) := by decide +kernel
theorem dX7_merge_187 : decode cX7_merge 187 = .ok (.invokevirtual 133, 3) := by decide +kernel
theorem dX7_merge_190 : decode cX7_merge 190 = .ok (.aload_n 0, 1) := by decide +kernel
theorem dX7_merge_191 : decode cX7_merge 191 = .ok (.getfield 19, 3) := by decide +kernel
theorem dX7_merge_194 : decode cX7_merge 194 = .ok (.iload_n 1, 1) := by decide +kernel
theorem dX7_merge_195 : decode cX7_merge 195 = .ok (.iload 5, 2) := by decide +kernel
theorem dX7_merge_197 : decode cX7_merge 197 = .ok (.invokestatic 65, 3) := by decide +kernel
theorem dX7_merge_200 : decode cX7_merge 200 = .ok (.baload, 1) := by decide +kernel
theorem dX7_merge_201 : decode cX7_merge 201 = .ok (.ifCond .ne 25, 3) := by decide +kernel
theorem dX7_merge_204 : decode cX7_merge 204 = .ok (.aload_n 0, 1) := by decide +kernel
theorem dX7_merge_205 : decode cX7_merge 205 = .ok (.getfield 19, 3) := by decide +kernel
theorem dX7_merge_208 : decode cX7_merge 208 = .ok (.iload_n 2, 1) := by decide +kernel
theorem dX7_merge_209 : decode cX7_merge 209 = .ok (.iload 5, 2) := by decide +kernel
theorem dX7_merge_211 : decode cX7_merge 211 = .ok (.invokestatic 65, 3) := by decide +kernel
theorem dX7_merge_214 : decode cX7_merge 214 = .ok (.baload, 1) := by decide +kernel
theorem dX7_merge_215 : decode cX7_merge 215 = .ok (.ifCond .ne 11, 3) := by decide +kernel
theorem dX7_merge_218 : decode cX7_merge 218 = .ok (.aload_n 0, 1) := by decide +kernel
theorem dX7_merge_219 : decode cX7_merge 219 = .ok (.iload_n 1, 1) := by decide +kernel
theorem dX7_merge_220 : decode cX7_merge 220 = .ok (.iload_n 2, 1) := by decide +kernel
theorem dX7_merge_221 : decode cX7_merge 221 = .ok (.iload 5, 2) := by decide +kernel
theorem dX7_merge_223 : decode cX7_merge 223 = .ok (.invokevirtual 137, 3) := by decide +kernel
theorem dX7_merge_226 : decode cX7_merge 226 = .ok (.iinc 5 1, 3) := by decide +kernel
theorem dX7_merge_229 : decode cX7_merge 229 = .ok (.goto (-171), 3) := by decide +kernel
theorem dX7_merge_232 : decode cX7_merge 232 = .ok (.bipush 100, 2) := by decide +kernel
theorem dX7_merge_234 : decode cX7_merge 234 = .ok (.iload 4, 2) := by decide +kernel
theorem dX7_merge_236 : decode cX7_merge 236 = .ok (.imul, 1) := by decide +kernel
theorem dX7_merge_237 : decode cX7_merge 237 = .ok (.aload_n 0, 1) := by decide +kernel
theorem dX7_merge_238 : decode cX7_merge 238 = .ok (.getfield 114, 3) := by decide +kernel
theorem dX7_merge_241 : decode cX7_merge 241 = .ok (.iadd, 1) := by decide +kernel
theorem dX7_merge_242 : decode cX7_merge 242 = .ok (.ireturn, 1) := by decide +kernel
theorem dX7_isAged_0 : decode cX7_isAged 0 = .ok (.iconst 0, 1) := by decide +kernel
theorem dX7_isAged_1 : decode cX7_isAged 1 = .ok (.istore_n 3, 1) := by decide +kernel
theorem dX7_isAged_2 : decode cX7_isAged 2 = .ok (.iconst 1, 1) := by decide +kernel
theorem dX7_isAged_3 : decode cX7_isAged 3 = .ok (.istore 4, 2) := by decide +kernel
theorem dX7_isAged_5 : decode cX7_isAged 5 = .ok (.iconst 0, 1) := by decide +kernel
theorem dX7_isAged_6 : decode cX7_isAged 6 = .ok (.istore 5, 2) := by decide +kernel
theorem dX7_isAged_8 : decode cX7_isAged 8 = .ok (.iload 5, 2) := by decide +kernel
theorem dX7_isAged_10 : decode cX7_isAged 10 = .ok (.aload_n 0, 1) := by decide +kernel
theorem dX7_isAged_11 : decode cX7_isAged 11 = .ok (.getfield 90, 3) := by decide +kernel
theorem dX7_isAged_14 : decode cX7_isAged 14 = .ok (.if_icmp .ge 69, 3) := by decide +kernel
theorem dX7_isAged_17 : decode cX7_isAged 17 = .ok (.aload_n 0, 1) := by decide +kernel
theorem dX7_isAged_18 : decode cX7_isAged 18 = .ok (.getfield 38, 3) := by decide +kernel
theorem dX7_isAged_21 : decode cX7_isAged 21 = .ok (.iload 5, 2) := by decide +kernel
theorem dX7_isAged_23 : decode cX7_isAged 23 = .ok (.iaload, 1) := by decide +kernel
theorem dX7_isAged_24 : decode cX7_isAged 24 = .ok (.iload_n 2, 1) := by decide +kernel
theorem dX7_isAged_25 : decode cX7_isAged 25 = .ok (.if_icmp .ne 52, 3) := by decide +kernel
theorem dX7_isAged_28 : decode cX7_isAged 28 = .ok (.aload_n 0, 1) := by decide +kernel
theorem dX7_isAged_29 : decode cX7_isAged 29 = .ok (.iload_n 1, 1) := by decide +kernel
theorem dX7_isAged_30 : decode cX7_isAged 30 = .ok (.iload 5, 2) := by decide +kernel
theorem dX7_isAged_32 : decode cX7_isAged 32 = .ok (.invokevirtual 93, 3) := by decide +kernel
theorem dX7_isAged_35 : decode cX7_isAged 35 = .ok (.ifCond .eq 42, 3) := by decide +kernel
theorem dX7_isAged_38 : decode cX7_isAged 38 = .ok (.iinc 3 1, 3) := by decide +kernel
theorem dX7_isAged_41 : decode cX7_isAged 41 = .ok (.iload 4, 2) := by decide +kernel
theorem dX7_isAged_43 : decode cX7_isAged 43 = .ok (.ifCond .eq 31, 3) := by decide +kernel
theorem dX7_isAged_46 : decode cX7_isAged 46 = .ok (.aload_n 0, 1) := by decide +kernel
theorem dX7_isAged_47 : decode cX7_isAged 47 = .ok (.getfield 108, 3) := by decide +kernel
theorem dX7_isAged_50 : decode cX7_isAged 50 = .ok (.iconst 1, 1) := by decide +kernel
theorem dX7_isAged_51 : decode cX7_isAged 51 = .ok (.iadd, 1) := by decide +kernel
theorem dX7_isAged_52 : decode cX7_isAged 52 = .ok (.aload_n 0, 1) := by decide +kernel
theorem dX7_isAged_53 : decode cX7_isAged 53 = .ok (.getfield 44, 3) := by decide +kernel
theorem dX7_isAged_56 : decode cX7_isAged 56 = .ok (.bipush 6, 2) := by decide +kernel
theorem dX7_isAged_58 : decode cX7_isAged 58 = .ok (.iload 5, 2) := by decide +kernel
theorem dX7_isAged_60 : decode cX7_isAged 60 = .ok (.imul, 1) := by decide +kernel
theorem dX7_isAged_61 : decode cX7_isAged 61 = .ok (.iload_n 1, 1) := by decide +kernel
theorem dX7_isAged_62 : decode cX7_isAged 62 = .ok (.iadd, 1) := by decide +kernel
theorem dX7_isAged_63 : decode cX7_isAged 63 = .ok (.iaload, 1) := by decide +kernel
theorem dX7_isAged_64 : decode cX7_isAged 64 = .ok (.isub, 1) := by decide +kernel
theorem dX7_isAged_65 : decode cX7_isAged 65 = .ok (.bipush 12, 2) := by decide +kernel
theorem dX7_isAged_67 : decode cX7_isAged 67 = .ok (.if_icmp .le 7, 3) := by decide +kernel
theorem dX7_isAged_70 : decode cX7_isAged 70 = .ok (.iconst 1, 1) := by decide +kernel
theorem dX7_isAged_71 : decode cX7_isAged 71 = .ok (.goto 4, 3) := by decide +kernel
theorem dX7_isAged_74 : decode cX7_isAged 74 = .ok (.iconst 0, 1) := by decide +kernel
theorem dX7_isAged_75 : decode cX7_isAged 75 = .ok (.istore 4, 2) := by decide +kernel
theorem dX7_isAged_77 : decode cX7_isAged 77 = .ok (.iinc 5 1, 3) := by decide +kernel
theorem dX7_isAged_80 : decode cX7_isAged 80 = .ok (.goto (-72), 3) := by decide +kernel
theorem dX7_isAged_83 : decode cX7_isAged 83 = .ok (.iload 4, 2) := by decide +kernel
theorem dX7_isAged_85 : decode cX7_isAged 85 = .ok (.ifCond .eq 11, 3) := by decide +kernel
theorem dX7_isAged_88 : decode cX7_isAged 88 = .ok (.iload_n 3, 1) := by decide +kernel
theorem dX7_isAged_89 : decode cX7_isAged 89 = .ok (.ifCond .le 7, 3) := by decide +kernel
theorem dX7_isAged_92 : decode cX7_isAged 92 = .ok (.iconst 1, 1) := by decide +kernel
theorem dX7_isAged_93 : decode cX7_isAged 93 = .ok (.goto 4, 3) := by decide +kernel
theorem dX7_isAged_96 : decode cX7_isAged 96 = .ok (.iconst 0, 1) := by decide +kernel
theorem dX7_isAged_97 : decode cX7_isAged 97 = .ok (.ireturn, 1) := by decide +kernel
theorem dX7_pass_0 : decode cX7_pass 0 = .ok (.aload_n 0, 1) := by decide +kernel
theorem dX7_pass_1 : decode cX7_pass 1 = .ok (.iload_n 1, 1) := by decide +kernel
theorem dX7_pass_2 : decode cX7_pass 2 = .ok (.iconst 1, 1) := by decide +kernel
theorem dX7_pass_3 : decode cX7_pass 3 = .ok (.bipush 24, 2) := by decide +kernel
theorem dX7_pass_5 : decode cX7_pass 5 = .ok (.invokestatic 51, 3) := by decide +kernel
theorem dX7_pass_8 : decode cX7_pass 8 = .ok (.ifCond .eq 7, 3) := by decide +kernel
theorem dX7_pass_11 : decode cX7_pass 11 = .ok (.iconst 0, 1) := by decide +kernel
theorem dX7_pass_12 : decode cX7_pass 12 = .ok (.goto 4, 3) := by decide +kernel
theorem dX7_pass_15 : decode cX7_pass 15 = .ok (.iconst 1, 1) := by decide +kernel
theorem dX7_pass_16 : decode cX7_pass 16 = .ok (.invokevirtual 69, 3) := by decide +kernel
theorem dX7_pass_19 : decode cX7_pass 19 = .ok (.ifCond .eq 5, 3) := by decide +kernel
theorem dX7_pass_22 : decode cX7_pass 22 = .ok (.iconst 0, 1) := by decide +kernel
theorem dX7_pass_23 : decode cX7_pass 23 = .ok (.ireturn, 1) := by decide +kernel
theorem dX7_pass_24 : decode cX7_pass 24 = .ok (.aload_n 0, 1) := by decide +kernel
theorem dX7_pass_25 : decode cX7_pass 25 = .ok (.dup, 1) := by decide +kernel
theorem dX7_pass_26 : decode cX7_pass 26 = .ok (.getfield 108, 3) := by decide +kernel
theorem dX7_pass_29 : decode cX7_pass 29 = .ok (.iload_n 1, 1) := by decide +kernel
theorem dX7_pass_30 : decode cX7_pass 30 = .ok (.iadd, 1) := by decide +kernel
theorem dX7_pass_31 : decode cX7_pass 31 = .ok (.putfield 108, 3) := by decide +kernel
theorem dX7_pass_34 : decode cX7_pass 34 = .ok (.iconst 0, 1) := by decide +kernel
theorem dX7_pass_35 : decode cX7_pass 35 = .ok (.istore_n 2, 1) := by decide +kernel
theorem dX7_pass_36 : decode cX7_pass 36 = .ok (.iconst 0, 1) := by decide +kernel
theorem dX7_pass_37 : decode cX7_pass 37 = .ok (.istore_n 3, 1) := by decide +kernel
theorem dX7_pass_38 : decode cX7_pass 38 = .ok (.iload_n 3, 1) := by decide +kernel
theorem dX7_pass_39 : decode cX7_pass 39 = .ok (.bipush 6, 2) := by decide +kernel
theorem dX7_pass_41 : decode cX7_pass 41 = .ok (.if_icmp .ge 71, 3) := by decide +kernel
theorem dX7_pass_44 : decode cX7_pass 44 = .ok (.iconst 0, 1) := by decide +kernel
theorem dX7_pass_45 : decode cX7_pass 45 = .ok (.istore 4, 2) := by decide +kernel
theorem dX7_pass_47 : decode cX7_pass 47 = .ok (.iload 4, 2) := by decide +kernel
theorem dX7_pass_49 : decode cX7_pass 49 = .ok (.aload_n 0, 1) := by decide +kernel
theorem dX7_pass_50 : decode cX7_pass 50 = .ok (.getfield 55, 3) := by decide +kernel
theorem dX7_pass_53 : decode cX7_pass 53 = .ok (.if_icmp .ge 53, 3) := by decide +kernel
theorem dX7_pass_56 : decode cX7_pass 56 = .ok (.aload_n 0, 1) := by decide +kernel
theorem dX7_pass_57 : decode cX7_pass 57 = .ok (.getfield 19, 3) := by decide +kernel
theorem dX7_pass_60 : decode cX7_pass 60 = .ok (.iload_n 3, 1) := by decide +kernel
theorem dX7_pass_61 : decode cX7_pass 61 = .ok (.iload 4, 2) := by decide +kernel
theorem dX7_pass_63 : decode cX7_pass 63 = .ok (.invokestatic 65, 3) := by decide +kernel
theorem dX7_pass_66 : decode cX7_pass 66 = .ok (.baload, 1) := by decide +kernel
theorem dX7_pass_67 : decode cX7_pass 67 = .ok (.ifCond .eq 33, 3) := by decide +kernel
theorem dX7_pass_70 : decode cX7_pass 70 = .ok (.aload_n 0, 1) := by decide +kernel
theorem dX7_pass_71 : decode cX7_pass 71 = .ok (.iload_n 3, 1) := by decide +kernel
theorem dX7_pass_72 : decode cX7_pass 72 = .ok (.iload 4, 2) := by decide +kernel
theorem dX7_pass_74 : decode cX7_pass 74 = .ok (.invokevirtual 105, 3) := by decide +kernel
theorem dX7_pass_77 : decode cX7_pass 77 = .ok (.ifCond .ne 23, 3) := by decide +kernel
theorem dX7_pass_80 : decode cX7_pass 80 = .ok (.aload_n 0, 1) := by decide +kernel
theorem dX7_pass_81 : decode cX7_pass 81 = .ok (.iload_n 3, 1) := by decide +kernel
theorem dX7_pass_82 : decode cX7_pass 82 = .ok (.iload 4, 2) := by decide +kernel
theorem dX7_pass_84 : decode cX7_pass 84 = .ok (.invokevirtual 140, 3) := by decide +kernel
theorem dX7_pass_87 : decode cX7_pass 87 = .ok (.ifCond .eq 13, 3) := by decide +kernel
theorem dX7_pass_90 : decode cX7_pass 90 = .ok (.aload_n 0, 1) := by decide +kernel
theorem dX7_pass_91 : decode cX7_pass 91 = .ok (.iload_n 3, 1) := by decide +kernel
theorem dX7_pass_92 : decode cX7_pass 92 = .ok (.iload 4, 2) := by decide +kernel
theorem dX7_pass_94 : decode cX7_pass 94 = .ok (.invokevirtual 130, 3) := by decide +kernel
theorem dX7_pass_97 : decode cX7_pass 97 = .ok (.iinc 2 1, 3) := by decide +kernel
theorem dX7_pass_100 : decode cX7_pass 100 = .ok (.iinc 4 1, 3) := by decide +kernel
theorem dX7_pass_103 : decode cX7_pass 103 = .ok (.goto (-56), 3) := by decide +kernel
theorem dX7_pass_106 : decode cX7_pass 106 = .ok (.iinc 3 1, 3) := by decide +kernel
theorem dX7_pass_109 : decode cX7_pass 109 = .ok (.goto (-71), 3) := by decide +kernel
theorem dX7_pass_112 : decode cX7_pass 112 = .ok (.iload_n 2, 1) := by decide +kernel
theorem dX7_pass_113 : decode cX7_pass 113 = .ok (.ireturn, 1) := by decide +kernel
theorem dX7_state_0 : decode cX7_state 0 = .ok (.iload_n 1, 1) := by decide +kernel
theorem dX7_state_1 : decode cX7_state 1 = .ok (.invokestatic 58, 3) := by decide +kernel
theorem dX7_state_4 : decode cX7_state 4 = .ok (.ifCond .eq 15, 3) := by decide +kernel
theorem dX7_state_7 : decode cX7_state 7 = .ok (.aload_n 0, 1) := by decide +kernel
theorem dX7_state_8 : decode cX7_state 8 = .ok (.iload_n 2, 1) := by decide +kernel
theorem dX7_state_9 : decode cX7_state 9 = .ok (.invokevirtual 62, 3) := by decide +kernel
theorem dX7_state_12 : decode cX7_state 12 = .ok (.ifCond .eq 7, 3) := by decide +kernel
theorem dX7_state_15 : decode cX7_state 15 = .ok (.iconst 1, 1) := by decide +kernel
theorem dX7_state_16 : decode cX7_state 16 = .ok (.goto 4, 3) := by decide +kernel
theorem dX7_state_19 : decode cX7_state 19 = .ok (.iconst 0, 1) := by decide +kernel
theorem dX7_state_20 : decode cX7_state 20 = .ok (.istore_n 3, 1) := by decide +kernel
theorem dX7_state_21 : decode cX7_state 21 = .ok (.aload_n 0, 1) := by decide +kernel
theorem dX7_state_22 : decode cX7_state 22 = .ok (.iload_n 3, 1) := by decide +kernel
theorem dX7_state_23 : decode cX7_state 23 = .ok (.ifCond .eq 7, 3) := by decide +kernel
theorem dX7_state_26 : decode cX7_state 26 = .ok (.iconst 0, 1) := by decide +kernel
theorem dX7_state_27 : decode cX7_state 27 = .ok (.goto 4, 3) := by decide +kernel
theorem dX7_state_30 : decode cX7_state 30 = .ok (.iconst 1, 1) := by decide +kernel
theorem dX7_state_31 : decode cX7_state 31 = .ok (.invokevirtual 69, 3) := by decide +kernel
theorem dX7_state_34 : decode cX7_state 34 = .ok (.ifCond .ne 16, 3) := by decide +kernel
theorem dX7_state_37 : decode cX7_state 37 = .ok (.aload_n 0, 1) := by decide +kernel
theorem dX7_state_38 : decode cX7_state 38 = .ok (.getfield 19, 3) := by decide +kernel
theorem dX7_state_41 : decode cX7_state 41 = .ok (.iload_n 1, 1) := by decide +kernel
theorem dX7_state_42 : decode cX7_state 42 = .ok (.iload_n 2, 1) := by decide +kernel
theorem dX7_state_43 : decode cX7_state 43 = .ok (.invokestatic 65, 3) := by decide +kernel
theorem dX7_state_46 : decode cX7_state 46 = .ok (.baload, 1) := by decide +kernel
theorem dX7_state_47 : decode cX7_state 47 = .ok (.ifCond .ne 5, 3) := by decide +kernel
theorem dX7_state_50 : decode cX7_state 50 = .ok (.iconst 0, 1) := by decide +kernel
theorem dX7_state_51 : decode cX7_state 51 = .ok (.ireturn, 1) := by decide +kernel
theorem dX7_state_52 : decode cX7_state 52 = .ok (.aload_n 0, 1) := by decide +kernel
theorem dX7_state_53 : decode cX7_state 53 = .ok (.iload_n 1, 1) := by decide +kernel
theorem dX7_state_54 : decode cX7_state 54 = .ok (.iload_n 2, 1) := by decide +kernel
theorem dX7_state_55 : decode cX7_state 55 = .ok (.invokevirtual 105, 3) := by decide +kernel
theorem dX7_state_58 : decode cX7_state 58 = .ok (.ifCond .eq 7, 3) := by decide +kernel
theorem dX7_state_61 : decode cX7_state 61 = .ok (.iconst 1, 1) := by decide +kernel
theorem dX7_state_62 : decode cX7_state 62 = .ok (.goto 17, 3) := by decide +kernel
theorem dX7_state_65 : decode cX7_state 65 = .ok (.aload_n 0, 1) := by decide +kernel
theorem dX7_state_66 : decode cX7_state 66 = .ok (.iload_n 1, 1) := by decide +kernel
theorem dX7_state_67 : decode cX7_state 67 = .ok (.iload_n 2, 1) := by decide +kernel
theorem dX7_state_68 : decode cX7_state 68 = .ok (.invokevirtual 102, 3) := by decide +kernel
theorem dX7_state_71 : decode cX7_state 71 = .ok (.ifCond .eq 7, 3) := by decide +kernel
theorem dX7_state_74 : decode cX7_state 74 = .ok (.iconst 2, 1) := by decide +kernel
theorem dX7_state_75 : decode cX7_state 75 = .ok (.goto 4, 3) := by decide +kernel
theorem dX7_state_78 : decode cX7_state 78 = .ok (.iconst 3, 1) := by decide +kernel
theorem dX7_state_79 : decode cX7_state 79 = .ok (.ireturn, 1) := by decide +kernel
theorem dX7_teller_0 : decode cX7_teller 0 = .ok (.iload 4, 2) := by decide +kernel
theorem dX7_teller_2 : decode cX7_teller 2 = .ok (.istore 5, 2) := by decide +kernel
theorem dX7_teller_4 : decode cX7_teller 4 = .ok (.iconst 0, 1) := by decide +kernel
theorem dX7_teller_5 : decode cX7_teller 5 = .ok (.istore 6, 2) := by decide +kernel
theorem dX7_teller_7 : decode cX7_teller 7 = .ok (.iload 6, 2) := by decide +kernel
theorem dX7_teller_9 : decode cX7_teller 9 = .ok (.bipush 6, 2) := by decide +kernel
theorem dX7_teller_11 : decode cX7_teller 11 = .ok (.if_icmp .ge 36, 3) := by decide +kernel
theorem dX7_teller_14 : decode cX7_teller 14 = .ok (.aload_n 0, 1) := by decide +kernel
theorem dX7_teller_15 : decode cX7_teller 15 = .ok (.getfield 23, 3) := by decide +kernel
theorem dX7_teller_18 : decode cX7_teller 18 = .ok (.iload_n 1, 1) := by decide +kernel
theorem dX7_teller_19 : decode cX7_teller 19 = .ok (.iload_n 2, 1) := by decide +kernel
theorem dX7_teller_20 : decode cX7_teller 20 = .ok (.iload_n 3, 1) := by decide +kernel
theorem dX7_teller_21 : decode cX7_teller 21 = .ok (.iload 6, 2) := by decide +kernel
theorem dX7_teller_23 : decode cX7_teller 23 = .ok (.invokestatic 72, 3) := by decide +kernel
theorem dX7_teller_26 : decode cX7_teller 26 = .ok (.iaload, 1) := by decide +kernel
theorem dX7_teller_27 : decode cX7_teller 27 = .ok (.ifCond .le 14, 3) := by decide +kernel
theorem dX7_teller_30 : decode cX7_teller 30 = .ok (.iload 5, 2) := by decide +kernel
theorem dX7_teller_32 : decode cX7_teller 32 = .ok (.ifCond .ne 6, 3) := by decide +kernel
theorem dX7_teller_35 : decode cX7_teller 35 = .ok (.iload 6, 2) := by decide +kernel
theorem dX7_teller_37 : decode cX7_teller 37 = .ok (.ireturn, 1) := by decide +kernel
theorem dX7_teller_38 : decode cX7_teller 38 = .ok (.iinc 5 (-1), 3) := by decide +kernel
theorem dX7_teller_41 : decode cX7_teller 41 = .ok (.iinc 6 1, 3) := by decide +kernel
theorem dX7_teller_44 : decode cX7_teller 44 = .ok (.goto (-37), 3) := by decide +kernel
theorem dX7_teller_47 : decode cX7_teller 47 = .ok (.bipush 6, 2) := by decide +kernel
theorem dX7_teller_49 : decode cX7_teller 49 = .ok (.ireturn, 1) := by decide +kernel
theorem dX7_valueOf_0 : decode cX7_valueOf 0 = .ok (.aload_n 0, 1) := by decide +kernel
theorem dX7_valueOf_1 : decode cX7_valueOf 1 = .ok (.iload_n 1, 1) := by decide +kernel
theorem dX7_valueOf_2 : decode cX7_valueOf 2 = .ok (.iload_n 2, 1) := by decide +kernel
theorem dX7_valueOf_3 : decode cX7_valueOf 3 = .ok (.invokevirtual 80, 3) := by decide +kernel
theorem dX7_valueOf_6 : decode cX7_valueOf 6 = .ok (.ifCond .eq 19, 3) := by decide +kernel
theorem dX7_valueOf_9 : decode cX7_valueOf 9 = .ok (.iload_n 3, 1) := by decide +kernel
theorem dX7_valueOf_10 : decode cX7_valueOf 10 = .ok (.invokestatic 84, 3) := by decide +kernel
theorem dX7_valueOf_13 : decode cX7_valueOf 13 = .ok (.ifCond .eq 12, 3) := by decide +kernel
theorem dX7_valueOf_16 : decode cX7_valueOf 16 = .ok (.iload 4, 2) := by decide +kernel
theorem dX7_valueOf_18 : decode cX7_valueOf 18 = .ok (.ifCond .lt 7, 3) := by decide +kernel
theorem dX7_valueOf_21 : decode cX7_valueOf 21 = .ok (.iconst 1, 1) := by decide +kernel
theorem dX7_valueOf_22 : decode cX7_valueOf 22 = .ok (.goto 4, 3) := by decide +kernel
theorem dX7_valueOf_25 : decode cX7_valueOf 25 = .ok (.iconst 0, 1) := by decide +kernel
theorem dX7_valueOf_26 : decode cX7_valueOf 26 = .ok (.istore 5, 2) := by decide +kernel
theorem dX7_valueOf_28 : decode cX7_valueOf 28 = .ok (.iload 5, 2) := by decide +kernel
theorem dX7_valueOf_30 : decode cX7_valueOf 30 = .ok (.ifCond .eq 15, 3) := by decide +kernel
theorem dX7_valueOf_33 : decode cX7_valueOf 33 = .ok (.aload_n 0, 1) := by decide +kernel
theorem dX7_valueOf_34 : decode cX7_valueOf 34 = .ok (.iload_n 1, 1) := by decide +kernel
theorem dX7_valueOf_35 : decode cX7_valueOf 35 = .ok (.iload_n 2, 1) := by decide +kernel
theorem dX7_valueOf_36 : decode cX7_valueOf 36 = .ok (.iload_n 3, 1) := by decide +kernel
theorem dX7_valueOf_37 : decode cX7_valueOf 37 = .ok (.iload 4, 2) := by decide +kernel
theorem dX7_valueOf_39 : decode cX7_valueOf 39 = .ok (.invokevirtual 143, 3) := by decide +kernel
theorem dX7_valueOf_42 : decode cX7_valueOf 42 = .ok (.goto 5, 3) := by decide +kernel
theorem dX7_valueOf_45 : decode cX7_valueOf 45 = .ok (.bipush 6, 2) := by decide +kernel
theorem dX7_valueOf_47 : decode cX7_valueOf 47 = .ok (.istore 6, 2) := by decide +kernel
theorem dX7_valueOf_49 : decode cX7_valueOf 49 = .ok (.aload_n 0, 1) := by decide +kernel
theorem dX7_valueOf_50 : decode cX7_valueOf 50 = .ok (.iload 6, 2) := by decide +kernel
theorem dX7_valueOf_52 : decode cX7_valueOf 52 = .ok (.bipush 6, 2) := by decide +kernel
theorem dX7_valueOf_54 : decode cX7_valueOf 54 = .ok (.if_icmp .ge 7, 3) := by decide +kernel
theorem dX7_valueOf_57 : decode cX7_valueOf 57 = .ok (.iconst 0, 1) := by decide +kernel
theorem dX7_valueOf_58 : decode cX7_valueOf 58 = .ok (.goto 4, 3) := by decide +kernel
theorem dX7_valueOf_61 : decode cX7_valueOf 61 = .ok (.iconst 1, 1) := by decide +kernel
theorem dX7_valueOf_62 : decode cX7_valueOf 62 = .ok (.invokevirtual 69, 3) := by decide +kernel
theorem dX7_valueOf_65 : decode cX7_valueOf 65 = .ok (.ifCond .eq 7, 3) := by decide +kernel
theorem dX7_valueOf_68 : decode cX7_valueOf 68 = .ok (.iconst 0, 1) := by decide +kernel
theorem dX7_valueOf_69 : decode cX7_valueOf 69 = .ok (.goto 16, 3) := by decide +kernel
theorem dX7_valueOf_72 : decode cX7_valueOf 72 = .ok (.aload_n 0, 1) := by decide +kernel
theorem dX7_valueOf_73 : decode cX7_valueOf 73 = .ok (.getfield 26, 3) := by decide +kernel
theorem dX7_valueOf_76 : decode cX7_valueOf 76 = .ok (.iload_n 1, 1) := by decide +kernel
theorem dX7_valueOf_77 : decode cX7_valueOf 77 = .ok (.iload_n 2, 1) := by decide +kernel
theorem dX7_valueOf_78 : decode cX7_valueOf 78 = .ok (.iload_n 3, 1) := by decide +kernel
theorem dX7_valueOf_79 : decode cX7_valueOf 79 = .ok (.iload 6, 2) := by decide +kernel
theorem dX7_valueOf_81 : decode cX7_valueOf 81 = .ok (.invokestatic 72, 3) := by decide +kernel
theorem dX7_valueOf_84 : decode cX7_valueOf 84 = .ok (.iaload, 1) := by decide +kernel
theorem dX7_valueOf_85 : decode cX7_valueOf 85 = .ok (.ireturn, 1) := by decide +kernel
theorem dX7_value_0 : decode cX7_value 0 = .ok (.aload_n 0, 1) := by decide +kernel
theorem dX7_value_1 : decode cX7_value 1 = .ok (.iload_n 1, 1) := by decide +kernel
theorem dX7_value_2 : decode cX7_value 2 = .ok (.iload_n 2, 1) := by decide +kernel
theorem dX7_value_3 : decode cX7_value 3 = .ok (.iload_n 3, 1) := by decide +kernel
theorem dX7_value_4 : decode cX7_value 4 = .ok (.iload 4, 2) := by decide +kernel
theorem dX7_value_6 : decode cX7_value 6 = .ok (.invokevirtual 146, 3) := by decide +kernel
theorem dX7_value_9 : decode cX7_value 9 = .ok (.ireturn, 1) := by decide +kernel
theorem dX7_valueAnew_0 : decode cX7_valueAnew 0 = .ok (.aload_n 0, 1) := by decide +kernel
theorem dX7_valueAnew_1 : decode cX7_valueAnew 1 = .ok (.iload_n 1, 1) := by decide +kernel
theorem dX7_valueAnew_2 : decode cX7_valueAnew 2 = .ok (.iload_n 2, 1) := by decide +kernel
theorem dX7_valueAnew_3 : decode cX7_valueAnew 3 = .ok (.iload_n 3, 1) := by decide +kernel
theorem dX7_valueAnew_4 : decode cX7_valueAnew 4 = .ok (.iload 4, 2) := by decide +kernel
theorem dX7_valueAnew_6 : decode cX7_valueAnew 6 = .ok (.invokevirtual 146, 3) := by decide +kernel
theorem dX7_valueAnew_9 : decode cX7_valueAnew 9 = .ok (.ireturn, 1) := by decide +kernel
theorem dX7_values_0 : decode cX7_values 0 = .ok (.aload_n 0, 1) := by decide +kernel
theorem dX7_values_1 : decode cX7_values 1 = .ok (.iload_n 1, 1) := by decide +kernel
theorem dX7_values_2 : decode cX7_values 2 = .ok (.iload_n 2, 1) := by decide +kernel
theorem dX7_values_3 : decode cX7_values 3 = .ok (.invokevirtual 80, 3) := by decide +kernel
theorem dX7_values_6 : decode cX7_values 6 = .ok (.ifCond .eq 14, 3) := by decide +kernel
theorem dX7_values_9 : decode cX7_values 9 = .ok (.iload_n 3, 1) := by decide +kernel
theorem dX7_values_10 : decode cX7_values 10 = .ok (.invokestatic 84, 3) := by decide +kernel
theorem dX7_values_13 : decode cX7_values 13 = .ok (.ifCond .eq 7, 3) := by decide +kernel
theorem dX7_values_16 : decode cX7_values 16 = .ok (.iconst 1, 1) := by decide +kernel
theorem dX7_values_17 : decode cX7_values 17 = .ok (.goto 4, 3) := by decide +kernel
theorem dX7_values_20 : decode cX7_values 20 = .ok (.iconst 0, 1) := by decide +kernel
theorem dX7_values_21 : decode cX7_values 21 = .ok (.istore 4, 2) := by decide +kernel
theorem dX7_values_23 : decode cX7_values 23 = .ok (.aload_n 0, 1) := by decide +kernel
theorem dX7_values_24 : decode cX7_values 24 = .ok (.iload 4, 2) := by decide +kernel
theorem dX7_values_26 : decode cX7_values 26 = .ok (.ifCond .eq 7, 3) := by decide +kernel
theorem dX7_values_29 : decode cX7_values 29 = .ok (.iconst 0, 1) := by decide +kernel
theorem dX7_values_30 : decode cX7_values 30 = .ok (.goto 4, 3) := by decide +kernel
theorem dX7_values_33 : decode cX7_values 33 = .ok (.iconst 1, 1) := by decide +kernel
theorem dX7_values_34 : decode cX7_values 34 = .ok (.invokevirtual 69, 3) := by decide +kernel
theorem dX7_values_37 : decode cX7_values 37 = .ok (.ifCond .eq 7, 3) := by decide +kernel
theorem dX7_values_40 : decode cX7_values 40 = .ok (.iconst 0, 1) := by decide +kernel
theorem dX7_values_41 : decode cX7_values 41 = .ok (.goto 10, 3) := by decide +kernel
theorem dX7_values_44 : decode cX7_values 44 = .ok (.aload_n 0, 1) := by decide +kernel
theorem dX7_values_45 : decode cX7_values 45 = .ok (.iload_n 1, 1) := by decide +kernel
theorem dX7_values_46 : decode cX7_values 46 = .ok (.iload_n 2, 1) := by decide +kernel
theorem dX7_values_47 : decode cX7_values 47 = .ok (.iload_n 3, 1) := by decide +kernel
theorem dX7_values_48 : decode cX7_values 48 = .ok (.invokevirtual 76, 3) := by decide +kernel
theorem dX7_values_51 : decode cX7_values 51 = .ok (.ireturn, 1) := by decide +kernel
theorem dX7_seen_0 : decode cX7_seen 0 = .ok (.aload_n 0, 1) := by decide +kernel
theorem dX7_seen_1 : decode cX7_seen 1 = .ok (.iload_n 1, 1) := by decide +kernel
theorem dX7_seen_2 : decode cX7_seen 2 = .ok (.iload_n 2, 1) := by decide +kernel
theorem dX7_seen_3 : decode cX7_seen 3 = .ok (.invokevirtual 80, 3) := by decide +kernel
theorem dX7_seen_6 : decode cX7_seen 6 = .ok (.ifCond .eq 22, 3) := by decide +kernel
theorem dX7_seen_9 : decode cX7_seen 9 = .ok (.iload_n 3, 1) := by decide +kernel
theorem dX7_seen_10 : decode cX7_seen 10 = .ok (.invokestatic 84, 3) := by decide +kernel
theorem dX7_seen_13 : decode cX7_seen 13 = .ok (.ifCond .eq 15, 3) := by decide +kernel
theorem dX7_seen_16 : decode cX7_seen 16 = .ok (.iload 4, 2) := by decide +kernel
theorem dX7_seen_18 : decode cX7_seen 18 = .ok (.invokestatic 58, 3) := by decide +kernel
theorem dX7_seen_21 : decode cX7_seen 21 = .ok (.ifCond .eq 7, 3) := by decide +kernel
theorem dX7_seen_24 : decode cX7_seen 24 = .ok (.iconst 1, 1) := by decide +kernel
theorem dX7_seen_25 : decode cX7_seen 25 = .ok (.goto 4, 3) := by decide +kernel
theorem dX7_seen_28 : decode cX7_seen 28 = .ok (.iconst 0, 1) := by decide +kernel
theorem dX7_seen_29 : decode cX7_seen 29 = .ok (.istore 5, 2) := by decide +kernel
theorem dX7_seen_31 : decode cX7_seen 31 = .ok (.aload_n 0, 1) := by decide +kernel
theorem dX7_seen_32 : decode cX7_seen 32 = .ok (.iload 5, 2) := by decide +kernel
theorem dX7_seen_34 : decode cX7_seen 34 = .ok (.ifCond .eq 7, 3) := by decide +kernel
theorem dX7_seen_37 : decode cX7_seen 37 = .ok (.iconst 0, 1) := by decide +kernel
theorem dX7_seen_38 : decode cX7_seen 38 = .ok (.goto 4, 3) := by decide +kernel
theorem dX7_seen_41 : decode cX7_seen 41 = .ok (.iconst 1, 1) := by decide +kernel
theorem dX7_seen_42 : decode cX7_seen 42 = .ok (.invokevirtual 69, 3) := by decide +kernel
theorem dX7_seen_45 : decode cX7_seen 45 = .ok (.ifCond .eq 7, 3) := by decide +kernel
theorem dX7_seen_48 : decode cX7_seen 48 = .ok (.iconst 0, 1) := by decide +kernel
theorem dX7_seen_49 : decode cX7_seen 49 = .ok (.goto 16, 3) := by decide +kernel
theorem dX7_seen_52 : decode cX7_seen 52 = .ok (.aload_n 0, 1) := by decide +kernel
theorem dX7_seen_53 : decode cX7_seen 53 = .ok (.getfield 29, 3) := by decide +kernel
theorem dX7_seen_56 : decode cX7_seen 56 = .ok (.iload_n 1, 1) := by decide +kernel
theorem dX7_seen_57 : decode cX7_seen 57 = .ok (.iload_n 2, 1) := by decide +kernel
theorem dX7_seen_58 : decode cX7_seen 58 = .ok (.iload_n 3, 1) := by decide +kernel
theorem dX7_seen_59 : decode cX7_seen 59 = .ok (.iload 4, 2) := by decide +kernel
theorem dX7_seen_61 : decode cX7_seen 61 = .ok (.invokestatic 72, 3) := by decide +kernel
theorem dX7_seen_64 : decode cX7_seen 64 = .ok (.iaload, 1) := by decide +kernel
theorem dX7_seen_65 : decode cX7_seen 65 = .ok (.ireturn, 1) := by decide +kernel
theorem dX7_marks_0 : decode cX7_marks 0 = .ok (.aload_n 0, 1) := by decide +kernel
theorem dX7_marks_1 : decode cX7_marks 1 = .ok (.aload_n 0, 1) := by decide +kernel
theorem dX7_marks_2 : decode cX7_marks 2 = .ok (.iload_n 1, 1) := by decide +kernel
theorem dX7_marks_3 : decode cX7_marks 3 = .ok (.iload_n 2, 1) := by decide +kernel
theorem dX7_marks_4 : decode cX7_marks 4 = .ok (.invokevirtual 80, 3) := by decide +kernel
theorem dX7_marks_7 : decode cX7_marks 7 = .ok (.ifCond .eq 7, 3) := by decide +kernel
theorem dX7_marks_10 : decode cX7_marks 10 = .ok (.iconst 0, 1) := by decide +kernel
theorem dX7_marks_11 : decode cX7_marks 11 = .ok (.goto 4, 3) := by decide +kernel
theorem dX7_marks_14 : decode cX7_marks 14 = .ok (.iconst 1, 1) := by decide +kernel
theorem dX7_marks_15 : decode cX7_marks 15 = .ok (.invokevirtual 69, 3) := by decide +kernel
theorem dX7_marks_18 : decode cX7_marks 18 = .ok (.ifCond .eq 5, 3) := by decide +kernel
theorem dX7_marks_21 : decode cX7_marks 21 = .ok (.iconst 0, 1) := by decide +kernel
theorem dX7_marks_22 : decode cX7_marks 22 = .ok (.ireturn, 1) := by decide +kernel
theorem dX7_marks_23 : decode cX7_marks 23 = .ok (.iconst 0, 1) := by decide +kernel
theorem dX7_marks_24 : decode cX7_marks 24 = .ok (.istore_n 3, 1) := by decide +kernel
theorem dX7_marks_25 : decode cX7_marks 25 = .ok (.iconst 0, 1) := by decide +kernel
theorem dX7_marks_26 : decode cX7_marks 26 = .ok (.istore 4, 2) := by decide +kernel
theorem dX7_marks_28 : decode cX7_marks 28 = .ok (.iconst 0, 1) := by decide +kernel
theorem dX7_marks_29 : decode cX7_marks 29 = .ok (.istore 5, 2) := by decide +kernel
theorem dX7_marks_31 : decode cX7_marks 31 = .ok (.iload 5, 2) := by decide +kernel
theorem dX7_marks_33 : decode cX7_marks 33 = .ok (.aload_n 0, 1) := by decide +kernel
theorem dX7_marks_34 : decode cX7_marks 34 = .ok (.getfield 90, 3) := by decide +kernel
theorem dX7_marks_37 : decode cX7_marks 37 = .ok (.if_icmp .ge 52, 3) := by decide +kernel
theorem dX7_marks_40 : decode cX7_marks 40 = .ok (.aload_n 0, 1) := by decide +kernel
theorem dX7_marks_41 : decode cX7_marks 41 = .ok (.getfield 38, 3) := by decide +kernel
theorem dX7_marks_44 : decode cX7_marks 44 = .ok (.iload 5, 2) := by decide +kernel
theorem dX7_marks_46 : decode cX7_marks 46 = .ok (.iaload, 1) := by decide +kernel
theorem dX7_marks_47 : decode cX7_marks 47 = .ok (.iload_n 2, 1) := by decide +kernel
theorem dX7_marks_48 : decode cX7_marks 48 = .ok (.if_icmp .ne 35, 3) := by decide +kernel
theorem dX7_marks_51 : decode cX7_marks 51 = .ok (.aload_n 0, 1) := by decide +kernel
theorem dX7_marks_52 : decode cX7_marks 52 = .ok (.iload_n 1, 1) := by decide +kernel
theorem dX7_marks_53 : decode cX7_marks 53 = .ok (.iload 5, 2) := by decide +kernel
theorem dX7_marks_55 : decode cX7_marks 55 = .ok (.invokevirtual 93, 3) := by decide +kernel
theorem dX7_marks_58 : decode cX7_marks 58 = .ok (.ifCond .eq 25, 3) := by decide +kernel
theorem dX7_marks_61 : decode cX7_marks 61 = .ok (.iinc 3 1, 3) := by decide +kernel
theorem dX7_marks_64 : decode cX7_marks 64 = .ok (.iload 4, 2) := by decide +kernel
theorem dX7_marks_66 : decode cX7_marks 66 = .ok (.aload_n 0, 1) := by decide +kernel
theorem dX7_marks_67 : decode cX7_marks 67 = .ok (.getfield 44, 3) := by decide +kernel
theorem dX7_marks_70 : decode cX7_marks 70 = .ok (.bipush 6, 2) := by decide +kernel
theorem dX7_marks_72 : decode cX7_marks 72 = .ok (.iload 5, 2) := by decide +kernel
theorem dX7_marks_74 : decode cX7_marks 74 = .ok (.imul, 1) := by decide +kernel
theorem dX7_marks_75 : decode cX7_marks 75 = .ok (.iload_n 1, 1) := by decide +kernel
theorem dX7_marks_76 : decode cX7_marks 76 = .ok (.iadd, 1) := by decide +kernel
theorem dX7_marks_77 : decode cX7_marks 77 = .ok (.iaload, 1) := by decide +kernel
theorem dX7_marks_78 : decode cX7_marks 78 = .ok (.invokestatic 111, 3) := by decide +kernel
theorem dX7_marks_81 : decode cX7_marks 81 = .ok (.istore 4, 2) := by decide +kernel
theorem dX7_marks_83 : decode cX7_marks 83 = .ok (.iinc 5 1, 3) := by decide +kernel
theorem dX7_marks_86 : decode cX7_marks 86 = .ok (.goto (-55), 3) := by decide +kernel
theorem dX7_marks_89 : decode cX7_marks 89 = .ok (.aload_n 0, 1) := by decide +kernel
theorem dX7_marks_90 : decode cX7_marks 90 = .ok (.getfield 108, 3) := by decide +kernel
theorem dX7_marks_93 : decode cX7_marks 93 = .ok (.iconst 1, 1) := by decide +kernel
theorem dX7_marks_94 : decode cX7_marks 94 = .ok (.iadd, 1) := by decide +kernel
theorem dX7_marks_95 : decode cX7_marks 95 = .ok (.iload 4, 2) := by decide +kernel
theorem dX7_marks_97 : decode cX7_marks 97 = .ok (.isub, 1) := by decide +kernel
theorem dX7_marks_98 : decode cX7_marks 98 = .ok (.istore 5, 2) := by decide +kernel
theorem dX7_marks_100 : decode cX7_marks 100 = .ok (.iload_n 3, 1) := by decide +kernel
theorem dX7_marks_101 : decode cX7_marks 101 = .ok (.ifCond .ne 7, 3) := by decide +kernel
theorem dX7_marks_104 : decode cX7_marks 104 = .ok (.iconst 0, 1) := by decide +kernel
theorem dX7_marks_105 : decode cX7_marks 105 = .ok (.goto 22, 3) := by decide +kernel
theorem dX7_marks_108 : decode cX7_marks 108 = .ok (.bipush 100, 2) := by decide +kernel
theorem dX7_marks_110 : decode cX7_marks 110 = .ok (.iload_n 3, 1) := by decide +kernel
theorem dX7_marks_111 : decode cX7_marks 111 = .ok (.imul, 1) := by decide +kernel
theorem dX7_marks_112 : decode cX7_marks 112 = .ok (.iload 5, 2) := by decide +kernel
theorem dX7_marks_114 : decode cX7_marks 114 = .ok (.bipush 99, 2) := by decide +kernel
theorem dX7_marks_116 : decode cX7_marks 116 = .ok (.if_icmp .le 8, 3) := by decide +kernel
theorem dX7_marks_119 : decode cX7_marks 119 = .ok (.bipush 99, 2) := by decide +kernel
theorem dX7_marks_121 : decode cX7_marks 121 = .ok (.goto 5, 3) := by decide +kernel
theorem dX7_marks_124 : decode cX7_marks 124 = .ok (.iload 5, 2) := by decide +kernel
theorem dX7_marks_126 : decode cX7_marks 126 = .ok (.iadd, 1) := by decide +kernel
theorem dX7_marks_127 : decode cX7_marks 127 = .ok (.ireturn, 1) := by decide +kernel
theorem dX7_clashes_0 : decode cX7_clashes 0 = .ok (.aload_n 0, 1) := by decide +kernel
theorem dX7_clashes_1 : decode cX7_clashes 1 = .ok (.iload_n 1, 1) := by decide +kernel
theorem dX7_clashes_2 : decode cX7_clashes 2 = .ok (.invokestatic 58, 3) := by decide +kernel
theorem dX7_clashes_5 : decode cX7_clashes 5 = .ok (.ifCond .eq 7, 3) := by decide +kernel
theorem dX7_clashes_8 : decode cX7_clashes 8 = .ok (.iconst 0, 1) := by decide +kernel
theorem dX7_clashes_9 : decode cX7_clashes 9 = .ok (.goto 4, 3) := by decide +kernel
theorem dX7_clashes_12 : decode cX7_clashes 12 = .ok (.iconst 1, 1) := by decide +kernel
theorem dX7_clashes_13 : decode cX7_clashes 13 = .ok (.invokevirtual 69, 3) := by decide +kernel
theorem dX7_clashes_16 : decode cX7_clashes 16 = .ok (.ifCond .eq 5, 3) := by decide +kernel
theorem dX7_clashes_19 : decode cX7_clashes 19 = .ok (.iconst 0, 1) := by decide +kernel
theorem dX7_clashes_20 : decode cX7_clashes 20 = .ok (.ireturn, 1) := by decide +kernel
theorem dX7_clashes_21 : decode cX7_clashes 21 = .ok (.iconst 0, 1) := by decide +kernel
theorem dX7_clashes_22 : decode cX7_clashes 22 = .ok (.istore_n 2, 1) := by decide +kernel
theorem dX7_clashes_23 : decode cX7_clashes 23 = .ok (.iconst 0, 1) := by decide +kernel
theorem dX7_clashes_24 : decode cX7_clashes 24 = .ok (.istore_n 3, 1) := by decide +kernel
theorem dX7_clashes_25 : decode cX7_clashes 25 = .ok (.iload_n 3, 1) := by decide +kernel
theorem dX7_clashes_26 : decode cX7_clashes 26 = .ok (.aload_n 0, 1) := by decide +kernel
theorem dX7_clashes_27 : decode cX7_clashes 27 = .ok (.getfield 55, 3) := by decide +kernel
theorem dX7_clashes_30 : decode cX7_clashes 30 = .ok (.if_icmp .ge 53, 3) := by decide +kernel
theorem dX7_clashes_33 : decode cX7_clashes 33 = .ok (.iconst 0, 1) := by decide +kernel
theorem dX7_clashes_34 : decode cX7_clashes 34 = .ok (.istore 4, 2) := by decide +kernel
theorem dX7_clashes_36 : decode cX7_clashes 36 = .ok (.iload 4, 2) := by decide +kernel
theorem dX7_clashes_38 : decode cX7_clashes 38 = .ok (.iconst 4, 1) := by decide +kernel
theorem dX7_clashes_39 : decode cX7_clashes 39 = .ok (.if_icmp .ge 38, 3) := by decide +kernel
theorem dX7_clashes_42 : decode cX7_clashes 42 = .ok (.iload_n 2, 1) := by decide +kernel
theorem dX7_clashes_43 : decode cX7_clashes 43 = .ok (.aload_n 0, 1) := by decide +kernel
theorem dX7_clashes_44 : decode cX7_clashes 44 = .ok (.iload_n 1, 1) := by decide +kernel
theorem dX7_clashes_45 : decode cX7_clashes 45 = .ok (.iload_n 3, 1) := by decide +kernel
theorem dX7_clashes_46 : decode cX7_clashes 46 = .ok (.invokevirtual 105, 3) := by decide +kernel
theorem dX7_clashes_49 : decode cX7_clashes 49 = .ok (.ifCond .eq 19, 3) := by decide +kernel
theorem dX7_clashes_52 : decode cX7_clashes 52 = .ok (.aload_n 0, 1) := by decide +kernel
theorem dX7_clashes_53 : decode cX7_clashes 53 = .ok (.iload_n 1, 1) := by decide +kernel
theorem dX7_clashes_54 : decode cX7_clashes 54 = .ok (.iload_n 3, 1) := by decide +kernel
theorem dX7_clashes_55 : decode cX7_clashes 55 = .ok (.iload 4, 2) := by decide +kernel
theorem dX7_clashes_57 : decode cX7_clashes 57 = .ok (.invokevirtual 76, 3) := by decide +kernel
theorem dX7_clashes_60 : decode cX7_clashes 60 = .ok (.iconst 1, 1) := by decide +kernel
theorem dX7_clashes_61 : decode cX7_clashes 61 = .ok (.if_icmp .le 7, 3) := by decide +kernel
theorem dX7_clashes_64 : decode cX7_clashes 64 = .ok (.iconst 1, 1) := by decide +kernel
theorem dX7_clashes_65 : decode cX7_clashes 65 = .ok (.goto 4, 3) := by decide +kernel
theorem dX7_clashes_68 : decode cX7_clashes 68 = .ok (.iconst 0, 1) := by decide +kernel
theorem dX7_clashes_69 : decode cX7_clashes 69 = .ok (.iadd, 1) := by decide +kernel
theorem dX7_clashes_70 : decode cX7_clashes 70 = .ok (.istore_n 2, 1) := by decide +kernel
theorem dX7_clashes_71 : decode cX7_clashes 71 = .ok (.iinc 4 1, 3) := by decide +kernel
theorem dX7_clashes_74 : decode cX7_clashes 74 = .ok (.goto (-38), 3) := by decide +kernel
theorem dX7_clashes_77 : decode cX7_clashes 77 = .ok (.iinc 3 1, 3) := by decide +kernel
theorem dX7_clashes_80 : decode cX7_clashes 80 = .ok (.goto (-55), 3) := by decide +kernel
theorem dX7_clashes_83 : decode cX7_clashes 83 = .ok (.iload_n 2, 1) := by decide +kernel
theorem dX7_clashes_84 : decode cX7_clashes 84 = .ok (.ireturn, 1) := by decide +kernel
theorem dX7_areSame_0 : decode cX7_areSame 0 = .ok (.iconst 1, 1) := by decide +kernel
theorem dX7_areSame_1 : decode cX7_areSame 1 = .ok (.istore 5, 2) := by decide +kernel
theorem dX7_areSame_3 : decode cX7_areSame 3 = .ok (.iconst 0, 1) := by decide +kernel
theorem dX7_areSame_4 : decode cX7_areSame 4 = .ok (.istore 6, 2) := by decide +kernel
theorem dX7_areSame_6 : decode cX7_areSame 6 = .ok (.iload 6, 2) := by decide +kernel
theorem dX7_areSame_8 : decode cX7_areSame 8 = .ok (.bipush 6, 2) := by decide +kernel
theorem dX7_areSame_10 : decode cX7_areSame 10 = .ok (.if_icmp .ge 52, 3) := by decide +kernel
theorem dX7_areSame_13 : decode cX7_areSame 13 = .ok (.iload 5, 2) := by decide +kernel
theorem dX7_areSame_15 : decode cX7_areSame 15 = .ok (.ifCond .eq 38, 3) := by decide +kernel
theorem dX7_areSame_18 : decode cX7_areSame 18 = .ok (.aload_n 0, 1) := by decide +kernel
theorem dX7_areSame_19 : decode cX7_areSame 19 = .ok (.getfield 23, 3) := by decide +kernel
theorem dX7_areSame_22 : decode cX7_areSame 22 = .ok (.iload_n 1, 1) := by decide +kernel
theorem dX7_areSame_23 : decode cX7_areSame 23 = .ok (.iload_n 3, 1) := by decide +kernel
theorem dX7_areSame_24 : decode cX7_areSame 24 = .ok (.iload 4, 2) := by decide +kernel
theorem dX7_areSame_26 : decode cX7_areSame 26 = .ok (.iload 6, 2) := by decide +kernel
theorem dX7_areSame_28 : decode cX7_areSame 28 = .ok (.invokestatic 72, 3) := by decide +kernel
theorem dX7_areSame_31 : decode cX7_areSame 31 = .ok (.iaload, 1) := by decide +kernel
theorem dX7_areSame_32 : decode cX7_areSame 32 = .ok (.aload_n 0, 1) := by decide +kernel
theorem dX7_areSame_33 : decode cX7_areSame 33 = .ok (.getfield 23, 3) := by decide +kernel
theorem dX7_areSame_36 : decode cX7_areSame 36 = .ok (.iload_n 2, 1) := by decide +kernel
theorem dX7_areSame_37 : decode cX7_areSame 37 = .ok (.iload_n 3, 1) := by decide +kernel
theorem dX7_areSame_38 : decode cX7_areSame 38 = .ok (.iload 4, 2) := by decide +kernel
theorem dX7_areSame_40 : decode cX7_areSame 40 = .ok (.iload 6, 2) := by decide +kernel
theorem dX7_areSame_42 : decode cX7_areSame 42 = .ok (.invokestatic 72, 3) := by decide +kernel
theorem dX7_areSame_45 : decode cX7_areSame 45 = .ok (.iaload, 1) := by decide +kernel
theorem dX7_areSame_46 : decode cX7_areSame 46 = .ok (.if_icmp .ne 7, 3) := by decide +kernel
theorem dX7_areSame_49 : decode cX7_areSame 49 = .ok (.iconst 1, 1) := by decide +kernel
theorem dX7_areSame_50 : decode cX7_areSame 50 = .ok (.goto 4, 3) := by decide +kernel
theorem dX7_areSame_53 : decode cX7_areSame 53 = .ok (.iconst 0, 1) := by decide +kernel
theorem dX7_areSame_54 : decode cX7_areSame 54 = .ok (.istore 5, 2) := by decide +kernel
theorem dX7_areSame_56 : decode cX7_areSame 56 = .ok (.iinc 6 1, 3) := by decide +kernel
theorem dX7_areSame_59 : decode cX7_areSame 59 = .ok (.goto (-53), 3) := by decide +kernel
theorem dX7_areSame_62 : decode cX7_areSame 62 = .ok (.iload 5, 2) := by decide +kernel
theorem dX7_areSame_64 : decode cX7_areSame 64 = .ok (.ireturn, 1) := by decide +kernel
theorem dX7_agreement_0 : decode cX7_agreement 0 = .ok (.iload_n 1, 1) := by decide +kernel
theorem dX7_agreement_1 : decode cX7_agreement 1 = .ok (.invokestatic 58, 3) := by decide +kernel
theorem dX7_agreement_4 : decode cX7_agreement 4 = .ok (.ifCond .eq 14, 3) := by decide +kernel
theorem dX7_agreement_7 : decode cX7_agreement 7 = .ok (.iload_n 2, 1) := by decide +kernel
theorem dX7_agreement_8 : decode cX7_agreement 8 = .ok (.invokestatic 58, 3) := by decide +kernel
theorem dX7_agreement_11 : decode cX7_agreement 11 = .ok (.ifCond .eq 7, 3) := by decide +kernel
theorem dX7_agreement_14 : decode cX7_agreement 14 = .ok (.iconst 1, 1) := by decide +kernel
theorem dX7_agreement_15 : decode cX7_agreement 15 = .ok (.goto 4, 3) := by decide +kernel
theorem dX7_agreement_18 : decode cX7_agreement 18 = .ok (.iconst 0, 1) := by decide +kernel
theorem dX7_agreement_19 : decode cX7_agreement 19 = .ok (.istore_n 3, 1) := by decide +kernel
theorem dX7_agreement_20 : decode cX7_agreement 20 = .ok (.aload_n 0, 1) := by decide +kernel
theorem dX7_agreement_21 : decode cX7_agreement 21 = .ok (.iload_n 3, 1) := by decide +kernel
theorem dX7_agreement_22 : decode cX7_agreement 22 = .ok (.ifCond .eq 7, 3) := by decide +kernel
theorem dX7_agreement_25 : decode cX7_agreement 25 = .ok (.iconst 0, 1) := by decide +kernel
theorem dX7_agreement_26 : decode cX7_agreement 26 = .ok (.goto 4, 3) := by decide +kernel
theorem dX7_agreement_29 : decode cX7_agreement 29 = .ok (.iconst 1, 1) := by decide +kernel
theorem dX7_agreement_30 : decode cX7_agreement 30 = .ok (.invokevirtual 69, 3) := by decide +kernel
theorem dX7_agreement_33 : decode cX7_agreement 33 = .ok (.ifCond .eq 5, 3) := by decide +kernel
theorem dX7_agreement_36 : decode cX7_agreement 36 = .ok (.fconst 0, 1) := by decide +kernel
theorem dX7_agreement_37 : decode cX7_agreement 37 = .ok (.freturn, 1) := by decide +kernel
theorem dX7_agreement_38 : decode cX7_agreement 38 = .ok (.iconst 0, 1) := by decide +kernel
theorem dX7_agreement_39 : decode cX7_agreement 39 = .ok (.istore 4, 2) := by decide +kernel
theorem dX7_agreement_41 : decode cX7_agreement 41 = .ok (.iconst 0, 1) := by decide +kernel
theorem dX7_agreement_42 : decode cX7_agreement 42 = .ok (.istore 5, 2) := by decide +kernel
theorem dX7_agreement_44 : decode cX7_agreement 44 = .ok (.iconst 0, 1) := by decide +kernel
theorem dX7_agreement_45 : decode cX7_agreement 45 = .ok (.istore 6, 2) := by decide +kernel
theorem dX7_agreement_47 : decode cX7_agreement 47 = .ok (.iload 6, 2) := by decide +kernel
theorem dX7_agreement_49 : decode cX7_agreement 49 = .ok (.aload_n 0, 1) := by decide +kernel
theorem dX7_agreement_50 : decode cX7_agreement 50 = .ok (.getfield 55, 3) := by decide +kernel
theorem dX7_agreement_53 : decode cX7_agreement 53 = .ok (.if_icmp .ge 94, 3) := by decide +kernel
theorem dX7_agreement_56 : decode cX7_agreement 56 = .ok (.iconst 0, 1) := by decide +kernel
theorem dX7_agreement_57 : decode cX7_agreement 57 = .ok (.istore 7, 2) := by decide +kernel
theorem dX7_agreement_59 : decode cX7_agreement 59 = .ok (.iload 7, 2) := by decide +kernel
theorem dX7_agreement_61 : decode cX7_agreement 61 = .ok (.iconst 4, 1) := by decide +kernel
theorem dX7_agreement_62 : decode cX7_agreement 62 = .ok (.if_icmp .ge 79, 3) := by decide +kernel
theorem dX7_agreement_65 : decode cX7_agreement 65 = .ok (.aload_n 0, 1) := by decide +kernel
theorem dX7_agreement_66 : decode cX7_agreement 66 = .ok (.iload_n 1, 1) := by decide +kernel
theorem dX7_agreement_67 : decode cX7_agreement 67 = .ok (.iload 6, 2) := by decide +kernel
theorem dX7_agreement_69 : decode cX7_agreement 69 = .ok (.iload 7, 2) := by decide +kernel
theorem dX7_agreement_71 : decode cX7_agreement 71 = .ok (.invokevirtual 87, 3) := by decide +kernel
theorem dX7_agreement_74 : decode cX7_agreement 74 = .ok (.ifCond .eq 61, 3) := by decide +kernel
theorem dX7_agreement_77 : decode cX7_agreement 77 = .ok (.aload_n 0, 1) := by decide +kernel
theorem dX7_agreement_78 : decode cX7_agreement 78 = .ok (.iload_n 2, 1) := by decide +kernel
theorem dX7_agreement_79 : decode cX7_agreement 79 = .ok (.iload 6, 2) := by decide +kernel
theorem dX7_agreement_81 : decode cX7_agreement 81 = .ok (.iload 7, 2) := by decide +kernel
theorem dX7_agreement_83 : decode cX7_agreement 83 = .ok (.invokevirtual 87, 3) := by decide +kernel
theorem dX7_agreement_86 : decode cX7_agreement 86 = .ok (.ifCond .eq 49, 3) := by decide +kernel
theorem dX7_agreement_89 : decode cX7_agreement 89 = .ok (.aload_n 0, 1) := by decide +kernel
theorem dX7_agreement_90 : decode cX7_agreement 90 = .ok (.iload_n 1, 1) := by decide +kernel
theorem dX7_agreement_91 : decode cX7_agreement 91 = .ok (.iload 6, 2) := by decide +kernel
theorem dX7_agreement_93 : decode cX7_agreement 93 = .ok (.invokevirtual 105, 3) := by decide +kernel
theorem dX7_agreement_96 : decode cX7_agreement 96 = .ok (.ifCond .ne 13, 3) := by decide +kernel
theorem dX7_agreement_99 : decode cX7_agreement 99 = .ok (.aload_n 0, 1) := by decide +kernel
theorem dX7_agreement_100 : decode cX7_agreement 100 = .ok (.iload_n 2, 1) := by decide +kernel
theorem dX7_agreement_101 : decode cX7_agreement 101 = .ok (.iload 6, 2) := by decide +kernel
theorem dX7_agreement_103 : decode cX7_agreement 103 = .ok (.invokevirtual 105, 3) := by decide +kernel
theorem dX7_agreement_106 : decode cX7_agreement 106 = .ok (.ifCond .eq 29, 3) := by decide +kernel
theorem dX7_agreement_109 : decode cX7_agreement 109 = .ok (.iinc 4 1, 3) := by decide +kernel
theorem dX7_agreement_112 : decode cX7_agreement 112 = .ok (.iload 5, 2) := by decide +kernel
theorem dX7_agreement_114 : decode cX7_agreement 114 = .ok (.aload_n 0, 1) := by decide +kernel
theorem dX7_agreement_115 : decode cX7_agreement 115 = .ok (.iload_n 1, 1) := by decide +kernel
theorem dX7_agreement_116 : decode cX7_agreement 116 = .ok (.iload_n 2, 1) := by decide +kernel
theorem dX7_agreement_117 : decode cX7_agreement 117 = .ok (.iload 6, 2) := by decide +kernel
theorem dX7_agreement_119 : decode cX7_agreement 119 = .ok (.iload 7, 2) := by decide +kernel
theorem dX7_agreement_121 : decode cX7_agreement 121 = .ok (.invokevirtual 149, 3) := by decide +kernel
theorem dX7_agreement_124 : decode cX7_agreement 124 = .ok (.ifCond .eq 7, 3) := by decide +kernel
theorem dX7_agreement_127 : decode cX7_agreement 127 = .ok (.iconst 1, 1) := by decide +kernel
theorem dX7_agreement_128 : decode cX7_agreement 128 = .ok (.goto 4, 3) := by decide +kernel
theorem dX7_agreement_131 : decode cX7_agreement 131 = .ok (.iconst 0, 1) := by decide +kernel
theorem dX7_agreement_132 : decode cX7_agreement 132 = .ok (.iadd, 1) := by decide +kernel
theorem dX7_agreement_133 : decode cX7_agreement 133 = .ok (.istore 5, 2) := by decide +kernel
theorem dX7_agreement_135 : decode cX7_agreement 135 = .ok (.iinc 7 1, 3) := by decide +kernel
theorem dX7_agreement_138 : decode cX7_agreement 138 = .ok (.goto (-79), 3) := by decide +kernel
theorem dX7_agreement_141 : decode cX7_agreement 141 = .ok (.iinc 6 1, 3) := by decide +kernel
theorem dX7_agreement_144 : decode cX7_agreement 144 = .ok (.goto (-97), 3) := by decide +kernel
theorem dX7_agreement_147 : decode cX7_agreement 147 = .ok (.iload 4, 2) := by decide +kernel
theorem dX7_agreement_149 : decode cX7_agreement 149 = .ok (.ifCond .ne 7, 3) := by decide +kernel
theorem dX7_agreement_152 : decode cX7_agreement 152 = .ok (.fconst 1, 1) := by decide +kernel
theorem dX7_agreement_153 : decode cX7_agreement 153 = .ok (.goto 10, 3) := by decide +kernel
theorem dX7_agreement_156 : decode cX7_agreement 156 = .ok (.iload 5, 2) := by decide +kernel
theorem dX7_agreement_158 : decode cX7_agreement 158 = .ok (.i2f, 1) := by decide +kernel
theorem dX7_agreement_159 : decode cX7_agreement 159 = .ok (.iload 4, 2) := by decide +kernel
theorem dX7_agreement_161 : decode cX7_agreement 161 = .ok (.i2f, 1) := by decide +kernel
theorem dX7_agreement_162 : decode cX7_agreement 162 = .ok (.fdiv, 1) := by decide +kernel
theorem dX7_agreement_163 : decode cX7_agreement 163 = .ok (.freturn, 1) := by decide +kernel
end
section
theorem dL_entry_0 : decode cL_entry 0 = .ok (.aload_n 2, 1) := by decide +kernel
theorem dL_entry_1 : decode cL_entry 1 = .ok (.iconst 0, 1) := by decide +kernel
theorem dL_entry_2 : decode cL_entry 2 = .ok (.aload_n 0, 1) := by decide +kernel
theorem dL_entry_3 : decode cL_entry 3 = .ok (.iload_n 1, 1) := by decide +kernel
theorem dL_entry_4 : decode cL_entry 4 = .ok (.invokevirtual 7, 3) := by decide +kernel
theorem dL_entry_7 : decode cL_entry 7 = .ok (.i2l, 1) := by decide +kernel
theorem dL_entry_8 : decode cL_entry 8 = .ok (.lastore, 1) := by decide +kernel
theorem dL_entry_9 : decode cL_entry 9 = .ok (.goto 9, 3) := by decide +kernel
theorem dL_entry_12 : decode cL_entry 12 = .ok (.astore_n 3, 1) := by decide +kernel
theorem dL_entry_13 : decode cL_entry 13 = .ok (.iconst 1, 1) := by decide +kernel
theorem dL_entry_14 : decode cL_entry 14 = .ok (.ireturn, 1) := by decide +kernel
theorem dL_entry_15 : decode cL_entry 15 = .ok (.astore_n 3, 1) := by decide +kernel
theorem dL_entry_16 : decode cL_entry 16 = .ok (.iconst 2, 1) := by decide +kernel
theorem dL_entry_17 : decode cL_entry 17 = .ok (.ireturn, 1) := by decide +kernel
theorem dL_entry_18 : decode cL_entry 18 = .ok (.iconst 0, 1) := by decide +kernel
theorem dL_entry_19 : decode cL_entry 19 = .ok (.ireturn, 1) := by decide +kernel
theorem dL_tell_0 : decode cL_tell 0 = .ok (.aload 5, 2) := by decide +kernel
theorem dL_tell_2 : decode cL_tell 2 = .ok (.iconst 0, 1) := by decide +kernel
theorem dL_tell_3 : decode cL_tell 3 = .ok (.aload_n 0, 1) := by decide +kernel
theorem dL_tell_4 : decode cL_tell 4 = .ok (.iload_n 1, 1) := by decide +kernel
theorem dL_tell_5 : decode cL_tell 5 = .ok (.iload_n 2, 1) := by decide +kernel
theorem dL_tell_6 : decode cL_tell 6 = .ok (.iload_n 3, 1) := by decide +kernel
theorem dL_tell_7 : decode cL_tell 7 = .ok (.iload 4, 2) := by decide +kernel
theorem dL_tell_9 : decode cL_tell 9 = .ok (.invokevirtual 17, 3) := by decide +kernel
theorem dL_tell_12 : decode cL_tell 12 = .ok (.i2l, 1) := by decide +kernel
theorem dL_tell_13 : decode cL_tell 13 = .ok (.lastore, 1) := by decide +kernel
theorem dL_tell_14 : decode cL_tell 14 = .ok (.goto 15, 3) := by decide +kernel
theorem dL_tell_17 : decode cL_tell 17 = .ok (.astore 6, 2) := by decide +kernel
theorem dL_tell_19 : decode cL_tell 19 = .ok (.iconst 1, 1) := by decide +kernel
theorem dL_tell_20 : decode cL_tell 20 = .ok (.ireturn, 1) := by decide +kernel
theorem dL_tell_21 : decode cL_tell 21 = .ok (.astore 6, 2) := by decide +kernel
theorem dL_tell_23 : decode cL_tell 23 = .ok (.iconst 2, 1) := by decide +kernel
theorem dL_tell_24 : decode cL_tell 24 = .ok (.ireturn, 1) := by decide +kernel
theorem dL_tell_25 : decode cL_tell 25 = .ok (.astore 6, 2) := by decide +kernel
theorem dL_tell_27 : decode cL_tell 27 = .ok (.iconst 3, 1) := by decide +kernel
theorem dL_tell_28 : decode cL_tell 28 = .ok (.ireturn, 1) := by decide +kernel
theorem dL_tell_29 : decode cL_tell 29 = .ok (.iconst 0, 1) := by decide +kernel
theorem dL_tell_30 : decode cL_tell 30 = .ok (.ireturn, 1) := by decide +kernel
theorem dL_delete_0 : decode cL_delete 0 = .ok (.aload_n 3, 1) := by decide +kernel
theorem dL_delete_1 : decode cL_delete 1 = .ok (.iconst 0, 1) := by decide +kernel
theorem dL_delete_2 : decode cL_delete 2 = .ok (.aload_n 0, 1) := by decide +kernel
theorem dL_delete_3 : decode cL_delete 3 = .ok (.iload_n 1, 1) := by decide +kernel
theorem dL_delete_4 : decode cL_delete 4 = .ok (.iload_n 2, 1) := by decide +kernel
theorem dL_delete_5 : decode cL_delete 5 = .ok (.invokevirtual 23, 3) := by decide +kernel
theorem dL_delete_8 : decode cL_delete 8 = .ok (.i2l, 1) := by decide +kernel
theorem dL_delete_9 : decode cL_delete 9 = .ok (.lastore, 1) := by decide +kernel
theorem dL_delete_10 : decode cL_delete 10 = .ok (.goto 11, 3) := by decide +kernel
theorem dL_delete_13 : decode cL_delete 13 = .ok (.astore 4, 2) := by decide +kernel
theorem dL_delete_15 : decode cL_delete 15 = .ok (.iconst 1, 1) := by decide +kernel
theorem dL_delete_16 : decode cL_delete 16 = .ok (.ireturn, 1) := by decide +kernel
theorem dL_delete_17 : decode cL_delete 17 = .ok (.astore 4, 2) := by decide +kernel
theorem dL_delete_19 : decode cL_delete 19 = .ok (.iconst 2, 1) := by decide +kernel
theorem dL_delete_20 : decode cL_delete 20 = .ok (.ireturn, 1) := by decide +kernel
theorem dL_delete_21 : decode cL_delete 21 = .ok (.iconst 0, 1) := by decide +kernel
theorem dL_delete_22 : decode cL_delete 22 = .ok (.ireturn, 1) := by decide +kernel
theorem dL_share_0 : decode cL_share 0 = .ok (.aload 5, 2) := by decide +kernel
theorem dL_share_2 : decode cL_share 2 = .ok (.iconst 0, 1) := by decide +kernel
theorem dL_share_3 : decode cL_share 3 = .ok (.aload_n 0, 1) := by decide +kernel
theorem dL_share_4 : decode cL_share 4 = .ok (.iload_n 1, 1) := by decide +kernel
theorem dL_share_5 : decode cL_share 5 = .ok (.iload_n 2, 1) := by decide +kernel
theorem dL_share_6 : decode cL_share 6 = .ok (.iload_n 3, 1) := by decide +kernel
theorem dL_share_7 : decode cL_share 7 = .ok (.iload 4, 2) := by decide +kernel
theorem dL_share_9 : decode cL_share 9 = .ok (.invokevirtual 27, 3) := by decide +kernel
theorem dL_share_12 : decode cL_share 12 = .ok (.i2l, 1) := by decide +kernel
theorem dL_share_13 : decode cL_share 13 = .ok (.lastore, 1) := by decide +kernel
theorem dL_share_14 : decode cL_share 14 = .ok (.goto 15, 3) := by decide +kernel
theorem dL_share_17 : decode cL_share 17 = .ok (.astore 6, 2) := by decide +kernel
theorem dL_share_19 : decode cL_share 19 = .ok (.iconst 1, 1) := by decide +kernel
theorem dL_share_20 : decode cL_share 20 = .ok (.ireturn, 1) := by decide +kernel
theorem dL_share_21 : decode cL_share 21 = .ok (.astore 6, 2) := by decide +kernel
theorem dL_share_23 : decode cL_share 23 = .ok (.iconst 2, 1) := by decide +kernel
theorem dL_share_24 : decode cL_share 24 = .ok (.ireturn, 1) := by decide +kernel
theorem dL_share_25 : decode cL_share 25 = .ok (.astore 6, 2) := by decide +kernel
theorem dL_share_27 : decode cL_share 27 = .ok (.iconst 3, 1) := by decide +kernel
theorem dL_share_28 : decode cL_share 28 = .ok (.ireturn, 1) := by decide +kernel
theorem dL_share_29 : decode cL_share 29 = .ok (.iconst 0, 1) := by decide +kernel
theorem dL_share_30 : decode cL_share 30 = .ok (.ireturn, 1) := by decide +kernel
theorem dL_merge_0 : decode cL_merge 0 = .ok (.aload_n 3, 1) := by decide +kernel
theorem dL_merge_1 : decode cL_merge 1 = .ok (.iconst 0, 1) := by decide +kernel
theorem dL_merge_2 : decode cL_merge 2 = .ok (.aload_n 0, 1) := by decide +kernel
theorem dL_merge_3 : decode cL_merge 3 = .ok (.iload_n 1, 1) := by decide +kernel
theorem dL_merge_4 : decode cL_merge 4 = .ok (.iload_n 2, 1) := by decide +kernel
theorem dL_merge_5 : decode cL_merge 5 = .ok (.invokevirtual 30, 3) := by decide +kernel
theorem dL_merge_8 : decode cL_merge 8 = .ok (.i2l, 1) := by decide +kernel
theorem dL_merge_9 : decode cL_merge 9 = .ok (.lastore, 1) := by decide +kernel
theorem dL_merge_10 : decode cL_merge 10 = .ok (.goto 11, 3) := by decide +kernel
theorem dL_merge_13 : decode cL_merge 13 = .ok (.astore 4, 2) := by decide +kernel
theorem dL_merge_15 : decode cL_merge 15 = .ok (.iconst 1, 1) := by decide +kernel
theorem dL_merge_16 : decode cL_merge 16 = .ok (.ireturn, 1) := by decide +kernel
theorem dL_merge_17 : decode cL_merge 17 = .ok (.astore 4, 2) := by decide +kernel
theorem dL_merge_19 : decode cL_merge 19 = .ok (.iconst 2, 1) := by decide +kernel
theorem dL_merge_20 : decode cL_merge 20 = .ok (.ireturn, 1) := by decide +kernel
theorem dL_merge_21 : decode cL_merge 21 = .ok (.iconst 0, 1) := by decide +kernel
theorem dL_merge_22 : decode cL_merge 22 = .ok (.ireturn, 1) := by decide +kernel
theorem dL_pass_0 : decode cL_pass 0 = .ok (.aload_n 2, 1) := by decide +kernel
theorem dL_pass_1 : decode cL_pass 1 = .ok (.iconst 0, 1) := by decide +kernel
theorem dL_pass_2 : decode cL_pass 2 = .ok (.aload_n 0, 1) := by decide +kernel
theorem dL_pass_3 : decode cL_pass 3 = .ok (.iload_n 1, 1) := by decide +kernel
theorem dL_pass_4 : decode cL_pass 4 = .ok (.invokevirtual 33, 3) := by decide +kernel
theorem dL_pass_7 : decode cL_pass 7 = .ok (.i2l, 1) := by decide +kernel
theorem dL_pass_8 : decode cL_pass 8 = .ok (.lastore, 1) := by decide +kernel
theorem dL_pass_9 : decode cL_pass 9 = .ok (.goto 6, 3) := by decide +kernel
theorem dL_pass_12 : decode cL_pass 12 = .ok (.astore_n 3, 1) := by decide +kernel
theorem dL_pass_13 : decode cL_pass 13 = .ok (.iconst 1, 1) := by decide +kernel
theorem dL_pass_14 : decode cL_pass 14 = .ok (.ireturn, 1) := by decide +kernel
theorem dL_pass_15 : decode cL_pass 15 = .ok (.iconst 0, 1) := by decide +kernel
theorem dL_pass_16 : decode cL_pass 16 = .ok (.ireturn, 1) := by decide +kernel
theorem dL_state_0 : decode cL_state 0 = .ok (.aload_n 3, 1) := by decide +kernel
theorem dL_state_1 : decode cL_state 1 = .ok (.iconst 0, 1) := by decide +kernel
theorem dL_state_2 : decode cL_state 2 = .ok (.aload_n 0, 1) := by decide +kernel
theorem dL_state_3 : decode cL_state 3 = .ok (.iload_n 1, 1) := by decide +kernel
theorem dL_state_4 : decode cL_state 4 = .ok (.iload_n 2, 1) := by decide +kernel
theorem dL_state_5 : decode cL_state 5 = .ok (.invokevirtual 36, 3) := by decide +kernel
theorem dL_state_8 : decode cL_state 8 = .ok (.i2l, 1) := by decide +kernel
theorem dL_state_9 : decode cL_state 9 = .ok (.lastore, 1) := by decide +kernel
theorem dL_state_10 : decode cL_state 10 = .ok (.goto 7, 3) := by decide +kernel
theorem dL_state_13 : decode cL_state 13 = .ok (.astore 4, 2) := by decide +kernel
theorem dL_state_15 : decode cL_state 15 = .ok (.iconst 1, 1) := by decide +kernel
theorem dL_state_16 : decode cL_state 16 = .ok (.ireturn, 1) := by decide +kernel
theorem dL_state_17 : decode cL_state 17 = .ok (.iconst 0, 1) := by decide +kernel
theorem dL_state_18 : decode cL_state 18 = .ok (.ireturn, 1) := by decide +kernel
theorem dL_value_0 : decode cL_value 0 = .ok (.aload 5, 2) := by decide +kernel
theorem dL_value_2 : decode cL_value 2 = .ok (.iconst 0, 1) := by decide +kernel
theorem dL_value_3 : decode cL_value 3 = .ok (.aload_n 0, 1) := by decide +kernel
theorem dL_value_4 : decode cL_value 4 = .ok (.iload_n 1, 1) := by decide +kernel
theorem dL_value_5 : decode cL_value 5 = .ok (.iload_n 2, 1) := by decide +kernel
theorem dL_value_6 : decode cL_value 6 = .ok (.iload_n 3, 1) := by decide +kernel
theorem dL_value_7 : decode cL_value 7 = .ok (.iload 4, 2) := by decide +kernel
theorem dL_value_9 : decode cL_value 9 = .ok (.invokevirtual 39, 3) := by decide +kernel
theorem dL_value_12 : decode cL_value 12 = .ok (.i2l, 1) := by decide +kernel
theorem dL_value_13 : decode cL_value 13 = .ok (.lastore, 1) := by decide +kernel
theorem dL_value_14 : decode cL_value 14 = .ok (.goto 7, 3) := by decide +kernel
theorem dL_value_17 : decode cL_value 17 = .ok (.astore 6, 2) := by decide +kernel
theorem dL_value_19 : decode cL_value 19 = .ok (.iconst 1, 1) := by decide +kernel
theorem dL_value_20 : decode cL_value 20 = .ok (.ireturn, 1) := by decide +kernel
theorem dL_value_21 : decode cL_value 21 = .ok (.iconst 0, 1) := by decide +kernel
theorem dL_value_22 : decode cL_value 22 = .ok (.ireturn, 1) := by decide +kernel
theorem dL_valueAnew_0 : decode cL_valueAnew 0 = .ok (.aload 5, 2) := by decide +kernel
theorem dL_valueAnew_2 : decode cL_valueAnew 2 = .ok (.iconst 0, 1) := by decide +kernel
theorem dL_valueAnew_3 : decode cL_valueAnew 3 = .ok (.aload_n 0, 1) := by decide +kernel
theorem dL_valueAnew_4 : decode cL_valueAnew 4 = .ok (.iload_n 1, 1) := by decide +kernel
theorem dL_valueAnew_5 : decode cL_valueAnew 5 = .ok (.iload_n 2, 1) := by decide +kernel
theorem dL_valueAnew_6 : decode cL_valueAnew 6 = .ok (.iload_n 3, 1) := by decide +kernel
theorem dL_valueAnew_7 : decode cL_valueAnew 7 = .ok (.iload 4, 2) := by decide +kernel
theorem dL_valueAnew_9 : decode cL_valueAnew 9 = .ok (.invokevirtual 42, 3) := by decide +kernel
theorem dL_valueAnew_12 : decode cL_valueAnew 12 = .ok (.i2l, 1) := by decide +kernel
theorem dL_valueAnew_13 : decode cL_valueAnew 13 = .ok (.lastore, 1) := by decide +kernel
theorem dL_valueAnew_14 : decode cL_valueAnew 14 = .ok (.goto 7, 3) := by decide +kernel
theorem dL_valueAnew_17 : decode cL_valueAnew 17 = .ok (.astore 6, 2) := by decide +kernel
theorem dL_valueAnew_19 : decode cL_valueAnew 19 = .ok (.iconst 1, 1) := by decide +kernel
theorem dL_valueAnew_20 : decode cL_valueAnew 20 = .ok (.ireturn, 1) := by decide +kernel
theorem dL_valueAnew_21 : decode cL_valueAnew 21 = .ok (.iconst 0, 1) := by decide +kernel
theorem dL_valueAnew_22 : decode cL_valueAnew 22 = .ok (.ireturn, 1) := by decide +kernel
theorem dL_values_0 : decode cL_values 0 = .ok (.aload 4, 2) := by decide +kernel
theorem dL_values_2 : decode cL_values 2 = .ok (.iconst 0, 1) := by decide +kernel
theorem dL_values_3 : decode cL_values 3 = .ok (.aload_n 0, 1) := by decide +kernel
theorem dL_values_4 : decode cL_values 4 = .ok (.iload_n 1, 1) := by decide +kernel
theorem dL_values_5 : decode cL_values 5 = .ok (.iload_n 2, 1) := by decide +kernel
theorem dL_values_6 : decode cL_values 6 = .ok (.iload_n 3, 1) := by decide +kernel
theorem dL_values_7 : decode cL_values 7 = .ok (.invokevirtual 45, 3) := by decide +kernel
theorem dL_values_10 : decode cL_values 10 = .ok (.i2l, 1) := by decide +kernel
theorem dL_values_11 : decode cL_values 11 = .ok (.lastore, 1) := by decide +kernel
theorem dL_values_12 : decode cL_values 12 = .ok (.goto 7, 3) := by decide +kernel
theorem dL_values_15 : decode cL_values 15 = .ok (.astore 5, 2) := by decide +kernel
theorem dL_values_17 : decode cL_values 17 = .ok (.iconst 1, 1) := by decide +kernel
theorem dL_values_18 : decode cL_values 18 = .ok (.ireturn, 1) := by decide +kernel
theorem dL_values_19 : decode cL_values 19 = .ok (.iconst 0, 1) := by decide +kernel
theorem dL_values_20 : decode cL_values 20 = .ok (.ireturn, 1) := by decide +kernel
theorem dL_seen_0 : decode cL_seen 0 = .ok (.aload 5, 2) := by decide +kernel
theorem dL_seen_2 : decode cL_seen 2 = .ok (.iconst 0, 1) := by decide +kernel
theorem dL_seen_3 : decode cL_seen 3 = .ok (.aload_n 0, 1) := by decide +kernel
theorem dL_seen_4 : decode cL_seen 4 = .ok (.iload_n 1, 1) := by decide +kernel
theorem dL_seen_5 : decode cL_seen 5 = .ok (.iload_n 2, 1) := by decide +kernel
theorem dL_seen_6 : decode cL_seen 6 = .ok (.iload_n 3, 1) := by decide +kernel
theorem dL_seen_7 : decode cL_seen 7 = .ok (.iload 4, 2) := by decide +kernel
theorem dL_seen_9 : decode cL_seen 9 = .ok (.invokevirtual 49, 3) := by decide +kernel
theorem dL_seen_12 : decode cL_seen 12 = .ok (.i2l, 1) := by decide +kernel
theorem dL_seen_13 : decode cL_seen 13 = .ok (.lastore, 1) := by decide +kernel
theorem dL_seen_14 : decode cL_seen 14 = .ok (.goto 7, 3) := by decide +kernel
theorem dL_seen_17 : decode cL_seen 17 = .ok (.astore 6, 2) := by decide +kernel
theorem dL_seen_19 : decode cL_seen 19 = .ok (.iconst 1, 1) := by decide +kernel
theorem dL_seen_20 : decode cL_seen 20 = .ok (.ireturn, 1) := by decide +kernel
theorem dL_seen_21 : decode cL_seen 21 = .ok (.iconst 0, 1) := by decide +kernel
theorem dL_seen_22 : decode cL_seen 22 = .ok (.ireturn, 1) := by decide +kernel
theorem dL_marks_0 : decode cL_marks 0 = .ok (.aload_n 3, 1) := by decide +kernel
theorem dL_marks_1 : decode cL_marks 1 = .ok (.iconst 0, 1) := by decide +kernel
theorem dL_marks_2 : decode cL_marks 2 = .ok (.aload_n 0, 1) := by decide +kernel
theorem dL_marks_3 : decode cL_marks 3 = .ok (.iload_n 1, 1) := by decide +kernel
theorem dL_marks_4 : decode cL_marks 4 = .ok (.iload_n 2, 1) := by decide +kernel
theorem dL_marks_5 : decode cL_marks 5 = .ok (.invokevirtual 52, 3) := by decide +kernel
theorem dL_marks_8 : decode cL_marks 8 = .ok (.i2l, 1) := by decide +kernel
theorem dL_marks_9 : decode cL_marks 9 = .ok (.lastore, 1) := by decide +kernel
theorem dL_marks_10 : decode cL_marks 10 = .ok (.goto 7, 3) := by decide +kernel
theorem dL_marks_13 : decode cL_marks 13 = .ok (.astore 4, 2) := by decide +kernel
theorem dL_marks_15 : decode cL_marks 15 = .ok (.iconst 1, 1) := by decide +kernel
theorem dL_marks_16 : decode cL_marks 16 = .ok (.ireturn, 1) := by decide +kernel
theorem dL_marks_17 : decode cL_marks 17 = .ok (.iconst 0, 1) := by decide +kernel
theorem dL_marks_18 : decode cL_marks 18 = .ok (.ireturn, 1) := by decide +kernel
theorem dL_clashes_0 : decode cL_clashes 0 = .ok (.aload_n 2, 1) := by decide +kernel
theorem dL_clashes_1 : decode cL_clashes 1 = .ok (.iconst 0, 1) := by decide +kernel
theorem dL_clashes_2 : decode cL_clashes 2 = .ok (.aload_n 0, 1) := by decide +kernel
theorem dL_clashes_3 : decode cL_clashes 3 = .ok (.iload_n 1, 1) := by decide +kernel
theorem dL_clashes_4 : decode cL_clashes 4 = .ok (.invokevirtual 55, 3) := by decide +kernel
theorem dL_clashes_7 : decode cL_clashes 7 = .ok (.i2l, 1) := by decide +kernel
theorem dL_clashes_8 : decode cL_clashes 8 = .ok (.lastore, 1) := by decide +kernel
theorem dL_clashes_9 : decode cL_clashes 9 = .ok (.goto 6, 3) := by decide +kernel
theorem dL_clashes_12 : decode cL_clashes 12 = .ok (.astore_n 3, 1) := by decide +kernel
theorem dL_clashes_13 : decode cL_clashes 13 = .ok (.iconst 1, 1) := by decide +kernel
theorem dL_clashes_14 : decode cL_clashes 14 = .ok (.ireturn, 1) := by decide +kernel
theorem dL_clashes_15 : decode cL_clashes 15 = .ok (.iconst 0, 1) := by decide +kernel
theorem dL_clashes_16 : decode cL_clashes 16 = .ok (.ireturn, 1) := by decide +kernel
theorem dL_agreement_0 : decode cL_agreement 0 = .ok (.aload_n 3, 1) := by decide +kernel
theorem dL_agreement_1 : decode cL_agreement 1 = .ok (.iconst 0, 1) := by decide +kernel
theorem dL_agreement_2 : decode cL_agreement 2 = .ok (.aload_n 0, 1) := by decide +kernel
theorem dL_agreement_3 : decode cL_agreement 3 = .ok (.iload_n 1, 1) := by decide +kernel
theorem dL_agreement_4 : decode cL_agreement 4 = .ok (.iload_n 2, 1) := by decide +kernel
theorem dL_agreement_5 : decode cL_agreement 5 = .ok (.invokevirtual 58, 3) := by decide +kernel
theorem dL_agreement_8 : decode cL_agreement 8 = .ok (.f2d, 1) := by decide +kernel
theorem dL_agreement_9 : decode cL_agreement 9 = .ok (.dastore, 1) := by decide +kernel
theorem dL_agreement_10 : decode cL_agreement 10 = .ok (.goto 7, 3) := by decide +kernel
theorem dL_agreement_13 : decode cL_agreement 13 = .ok (.astore 4, 2) := by decide +kernel
theorem dL_agreement_15 : decode cL_agreement 15 = .ok (.iconst 1, 1) := by decide +kernel
theorem dL_agreement_16 : decode cL_agreement 16 = .ok (.ireturn, 1) := by decide +kernel
theorem dL_agreement_17 : decode cL_agreement 17 = .ok (.iconst 0, 1) := by decide +kernel
theorem dL_agreement_18 : decode cL_agreement 18 = .ok (.ireturn, 1) := by decide +kernel
theorem dL_law_0 : decode cL_law 0 = .ok (.new 8, 3) := by decide +kernel
theorem dL_law_3 : decode cL_law 3 = .ok (.dup, 1) := by decide +kernel
theorem dL_law_4 : decode cL_law 4 = .ok (.invokespecial 62, 3) := by decide +kernel
theorem dL_law_7 : decode cL_law 7 = .ok (.astore_n 1, 1) := by decide +kernel
theorem dL_law_8 : decode cL_law 8 = .ok (.new 63, 3) := by decide +kernel
theorem dL_law_11 : decode cL_law 11 = .ok (.dup, 1) := by decide +kernel
theorem dL_law_12 : decode cL_law 12 = .ok (.invokespecial 65, 3) := by decide +kernel
theorem dL_law_15 : decode cL_law 15 = .ok (.astore_n 2, 1) := by decide +kernel
theorem dL_law_16 : decode cL_law 16 = .ok (.iconst 1, 1) := by decide +kernel
theorem dL_law_17 : decode cL_law 17 = .ok (.newarray .long, 2) := by decide +kernel
theorem dL_law_19 : decode cL_law 19 = .ok (.astore_n 3, 1) := by decide +kernel
theorem dL_law_20 : decode cL_law 20 = .ok (.iconst 1, 1) := by decide +kernel
theorem dL_law_21 : decode cL_law 21 = .ok (.newarray .double, 2) := by decide +kernel
theorem dL_law_23 : decode cL_law 23 = .ok (.astore 4, 2) := by decide +kernel
theorem dL_law_25 : decode cL_law 25 = .ok (.iconst 0, 1) := by decide +kernel
theorem dL_law_26 : decode cL_law 26 = .ok (.istore 5, 2) := by decide +kernel
theorem dL_law_28 : decode cL_law 28 = .ok (.iload 5, 2) := by decide +kernel
theorem dL_law_30 : decode cL_law 30 = .ok (.aload_n 0, 1) := by decide +kernel
theorem dL_law_31 : decode cL_law 31 = .ok (.arraylength, 1) := by decide +kernel
theorem dL_law_32 : decode cL_law 32 = .ok (.iconst 5, 1) := by decide +kernel
theorem dL_law_33 : decode cL_law 33 = .ok (.isub, 1) := by decide +kernel
theorem dL_law_34 : decode cL_law 34 = .ok (.if_icmp .gt 1158, 3) := by decide +kernel
theorem dL_law_37 : decode cL_law 37 = .ok (.aload_n 0, 1) := by decide +kernel
theorem dL_law_38 : decode cL_law 38 = .ok (.iload 5, 2) := by decide +kernel
theorem dL_law_40 : decode cL_law 40 = .ok (.iaload, 1) := by decide +kernel
theorem dL_law_41 : decode cL_law 41 = .ok (.bipush 15, 2) := by decide +kernel
theorem dL_law_43 : decode cL_law 43 = .ok (.iand, 1) := by decide +kernel
theorem dL_law_44 : decode cL_law 44 = .ok (.tableswitch 1142 0 13 #[72, 128, 220, 288, 380, 448, 504, 572, 664, 756, 836, 928, 996, 1052], 72) := by decide +kernel
theorem dL_law_116 : decode cL_law 116 = .ok (.aload_n 1, 1) := by decide +kernel
theorem dL_law_117 : decode cL_law 117 = .ok (.aload_n 0, 1) := by decide +kernel
theorem dL_law_118 : decode cL_law 118 = .ok (.iload 5, 2) := by decide +kernel
theorem dL_law_120 : decode cL_law 120 = .ok (.iconst 1, 1) := by decide +kernel
theorem dL_law_121 : decode cL_law 121 = .ok (.iadd, 1) := by decide +kernel
theorem dL_law_122 : decode cL_law 122 = .ok (.iaload, 1) := by decide +kernel
theorem dL_law_123 : decode cL_law 123 = .ok (.aload_n 3, 1) := by decide +kernel
theorem dL_law_124 : decode cL_law 124 = .ok (.invokestatic 66, 3) := by decide +kernel
theorem dL_law_127 : decode cL_law 127 = .ok (.istore 6, 2) := by decide +kernel
theorem dL_law_129 : decode cL_law 129 = .ok (.aload_n 2, 1) := by decide +kernel
theorem dL_law_130 : decode cL_law 130 = .ok (.aload_n 0, 1) := by decide +kernel
theorem dL_law_131 : decode cL_law 131 = .ok (.iload 5, 2) := by decide +kernel
theorem dL_law_133 : decode cL_law 133 = .ok (.iconst 1, 1) := by decide +kernel
theorem dL_law_134 : decode cL_law 134 = .ok (.iadd, 1) := by decide +kernel
theorem dL_law_135 : decode cL_law 135 = .ok (.iaload, 1) := by decide +kernel
theorem dL_law_136 : decode cL_law 136 = .ok (.invokevirtual 71, 3) := by decide +kernel
theorem dL_law_139 : decode cL_law 139 = .ok (.istore 7, 2) := by decide +kernel
theorem dL_law_141 : decode cL_law 141 = .ok (.aload_n 2, 1) := by decide +kernel
theorem dL_law_142 : decode cL_law 142 = .ok (.invokevirtual 72, 3) := by decide +kernel
theorem dL_law_145 : decode cL_law 145 = .ok (.iload 6, 2) := by decide +kernel
theorem dL_law_147 : decode cL_law 147 = .ok (.if_icmp .eq 5, 3) := by decide +kernel
theorem dL_law_150 : decode cL_law 150 = .ok (.iconst 0, 1) := by decide +kernel
theorem dL_law_151 : decode cL_law 151 = .ok (.ireturn, 1) := by decide +kernel
theorem dL_law_152 : decode cL_law 152 = .ok (.iload 6, 2) := by decide +kernel
theorem dL_law_154 : decode cL_law 154 = .ok (.ifCond .ne 15, 3) := by decide +kernel
theorem dL_law_157 : decode cL_law 157 = .ok (.aload_n 3, 1) := by decide +kernel
theorem dL_law_158 : decode cL_law 158 = .ok (.iconst 0, 1) := by decide +kernel
theorem dL_law_159 : decode cL_law 159 = .ok (.laload, 1) := by decide +kernel
theorem dL_law_160 : decode cL_law 160 = .ok (.iload 7, 2) := by decide +kernel
theorem dL_law_162 : decode cL_law 162 = .ok (.i2l, 1) := by decide +kernel
theorem dL_law_163 : decode cL_law 163 = .ok (.lcmp, 1) := by decide +kernel
theorem dL_law_164 : decode cL_law 164 = .ok (.ifCond .eq 5, 3) := by decide +kernel
theorem dL_law_167 : decode cL_law 167 = .ok (.iconst 0, 1) := by decide +kernel
theorem dL_law_168 : decode cL_law 168 = .ok (.ireturn, 1) := by decide +kernel
theorem dL_law_169 : decode cL_law 169 = .ok (.goto 1017, 3) := by decide +kernel
theorem dL_law_172 : decode cL_law 172 = .ok (.aload_n 1, 1) := by decide +kernel
theorem dL_law_173 : decode cL_law 173 = .ok (.aload_n 0, 1) := by decide +kernel
theorem dL_law_174 : decode cL_law 174 = .ok (.iload 5, 2) := by decide +kernel
theorem dL_law_176 : decode cL_law 176 = .ok (.iconst 1, 1) := by decide +kernel
theorem dL_law_177 : decode cL_law 177 = .ok (.iadd, 1) := by decide +kernel
theorem dL_law_178 : decode cL_law 178 = .ok (.iaload, 1) := by decide +kernel
theorem dL_law_179 : decode cL_law 179 = .ok (.aload_n 0, 1) := by decide +kernel
theorem dL_law_180 : decode cL_law 180 = .ok (.iload 5, 2) := by decide +kernel
theorem dL_law_182 : decode cL_law 182 = .ok (.iconst 2, 1) := by decide +kernel
theorem dL_law_183 : decode cL_law 183 = .ok (.iadd, 1) := by decide +kernel
theorem dL_law_184 : decode cL_law 184 = .ok (.iaload, 1) := by decide +kernel
theorem dL_law_185 : decode cL_law 185 = .ok (.aload_n 0, 1) := by decide +kernel
theorem dL_law_186 : decode cL_law 186 = .ok (.iload 5, 2) := by decide +kernel
theorem dL_law_188 : decode cL_law 188 = .ok (.iconst 3, 1) := by decide +kernel
theorem dL_law_189 : decode cL_law 189 = .ok (.iadd, 1) := by decide +kernel
theorem dL_law_190 : decode cL_law 190 = .ok (.iaload, 1) := by decide +kernel
theorem dL_law_191 : decode cL_law 191 = .ok (.aload_n 0, 1) := by decide +kernel
theorem dL_law_192 : decode cL_law 192 = .ok (.iload 5, 2) := by decide +kernel
theorem dL_law_194 : decode cL_law 194 = .ok (.iconst 4, 1) := by decide +kernel
theorem dL_law_195 : decode cL_law 195 = .ok (.iadd, 1) := by decide +kernel
theorem dL_law_196 : decode cL_law 196 = .ok (.iaload, 1) := by decide +kernel
theorem dL_law_197 : decode cL_law 197 = .ok (.aload_n 3, 1) := by decide +kernel
theorem dL_law_198 : decode cL_law 198 = .ok (.invokestatic 76, 3) := by decide +kernel
theorem dL_law_201 : decode cL_law 201 = .ok (.istore 6, 2) := by decide +kernel
theorem dL_law_203 : decode cL_law 203 = .ok (.aload_n 2, 1) := by decide +kernel
theorem dL_law_204 : decode cL_law 204 = .ok (.aload_n 0, 1) := by decide +kernel
theorem dL_law_205 : decode cL_law 205 = .ok (.iload 5, 2) := by decide +kernel
theorem dL_law_207 : decode cL_law 207 = .ok (.iconst 1, 1) := by decide +kernel
theorem dL_law_208 : decode cL_law 208 = .ok (.iadd, 1) := by decide +kernel
theorem dL_law_209 : decode cL_law 209 = .ok (.iaload, 1) := by decide +kernel
theorem dL_law_210 : decode cL_law 210 = .ok (.aload_n 0, 1) := by decide +kernel
theorem dL_law_211 : decode cL_law 211 = .ok (.iload 5, 2) := by decide +kernel
theorem dL_law_213 : decode cL_law 213 = .ok (.iconst 2, 1) := by decide +kernel
theorem dL_law_214 : decode cL_law 214 = .ok (.iadd, 1) := by decide +kernel
theorem dL_law_215 : decode cL_law 215 = .ok (.iaload, 1) := by decide +kernel
theorem dL_law_216 : decode cL_law 216 = .ok (.aload_n 0, 1) := by decide +kernel
theorem dL_law_217 : decode cL_law 217 = .ok (.iload 5, 2) := by decide +kernel
theorem dL_law_219 : decode cL_law 219 = .ok (.iconst 3, 1) := by decide +kernel
theorem dL_law_220 : decode cL_law 220 = .ok (.iadd, 1) := by decide +kernel
theorem dL_law_221 : decode cL_law 221 = .ok (.iaload, 1) := by decide +kernel
theorem dL_law_222 : decode cL_law 222 = .ok (.aload_n 0, 1) := by decide +kernel
theorem dL_law_223 : decode cL_law 223 = .ok (.iload 5, 2) := by decide +kernel
theorem dL_law_225 : decode cL_law 225 = .ok (.iconst 4, 1) := by decide +kernel
theorem dL_law_226 : decode cL_law 226 = .ok (.iadd, 1) := by decide +kernel
theorem dL_law_227 : decode cL_law 227 = .ok (.iaload, 1) := by decide +kernel
theorem dL_law_228 : decode cL_law 228 = .ok (.invokevirtual 79, 3) := by decide +kernel
theorem dL_law_231 : decode cL_law 231 = .ok (.istore 7, 2) := by decide +kernel
theorem dL_law_233 : decode cL_law 233 = .ok (.aload_n 2, 1) := by decide +kernel
theorem dL_law_234 : decode cL_law 234 = .ok (.invokevirtual 72, 3) := by decide +kernel
theorem dL_law_237 : decode cL_law 237 = .ok (.iload 6, 2) := by decide +kernel
theorem dL_law_239 : decode cL_law 239 = .ok (.if_icmp .eq 5, 3) := by decide +kernel
theorem dL_law_242 : decode cL_law 242 = .ok (.iconst 0, 1) := by decide +kernel
theorem dL_law_243 : decode cL_law 243 = .ok (.ireturn, 1) := by decide +kernel
theorem dL_law_244 : decode cL_law 244 = .ok (.iload 6, 2) := by decide +kernel
theorem dL_law_246 : decode cL_law 246 = .ok (.ifCond .ne 15, 3) := by decide +kernel
theorem dL_law_249 : decode cL_law 249 = .ok (.aload_n 3, 1) := by decide +kernel
theorem dL_law_250 : decode cL_law 250 = .ok (.iconst 0, 1) := by decide +kernel
theorem dL_law_251 : decode cL_law 251 = .ok (.laload, 1) := by decide +kernel
theorem dL_law_252 : decode cL_law 252 = .ok (.iload 7, 2) := by decide +kernel
theorem dL_law_254 : decode cL_law 254 = .ok (.i2l, 1) := by decide +kernel
theorem dL_law_255 : decode cL_law 255 = .ok (.lcmp, 1) := by decide +kernel
theorem dL_law_256 : decode cL_law 256 = .ok (.ifCond .eq 5, 3) := by decide +kernel
theorem dL_law_259 : decode cL_law 259 = .ok (.iconst 0, 1) := by decide +kernel
theorem dL_law_260 : decode cL_law 260 = .ok (.ireturn, 1) := by decide +kernel
theorem dL_law_261 : decode cL_law 261 = .ok (.goto 925, 3) := by decide +kernel
theorem dL_law_264 : decode cL_law 264 = .ok (.aload_n 1, 1) := by decide +kernel
theorem dL_law_265 : decode cL_law 265 = .ok (.aload_n 0, 1) := by decide +kernel
theorem dL_law_266 : decode cL_law 266 = .ok (.iload 5, 2) := by decide +kernel
theorem dL_law_268 : decode cL_law 268 = .ok (.iconst 1, 1) := by decide +kernel
theorem dL_law_269 : decode cL_law 269 = .ok (.iadd, 1) := by decide +kernel
theorem dL_law_270 : decode cL_law 270 = .ok (.iaload, 1) := by decide +kernel
theorem dL_law_271 : decode cL_law 271 = .ok (.aload_n 0, 1) := by decide +kernel
theorem dL_law_272 : decode cL_law 272 = .ok (.iload 5, 2) := by decide +kernel
theorem dL_law_274 : decode cL_law 274 = .ok (.iconst 2, 1) := by decide +kernel
theorem dL_law_275 : decode cL_law 275 = .ok (.iadd, 1) := by decide +kernel
theorem dL_law_276 : decode cL_law 276 = .ok (.iaload, 1) := by decide +kernel
theorem dL_law_277 : decode cL_law 277 = .ok (.aload_n 3, 1) := by decide +kernel
theorem dL_law_278 : decode cL_law 278 = .ok (.invokestatic 80, 3) := by decide +kernel
theorem dL_law_281 : decode cL_law 281 = .ok (.istore 6, 2) := by decide +kernel
theorem dL_law_283 : decode cL_law 283 = .ok (.aload_n 2, 1) := by decide +kernel
theorem dL_law_284 : decode cL_law 284 = .ok (.aload_n 0, 1) := by decide +kernel
theorem dL_law_285 : decode cL_law 285 = .ok (.iload 5, 2) := by decide +kernel
theorem dL_law_287 : decode cL_law 287 = .ok (.iconst 1, 1) := by decide +kernel
theorem dL_law_288 : decode cL_law 288 = .ok (.iadd, 1) := by decide +kernel
theorem dL_law_289 : decode cL_law 289 = .ok (.iaload, 1) := by decide +kernel
theorem dL_law_290 : decode cL_law 290 = .ok (.aload_n 0, 1) := by decide +kernel
theorem dL_law_291 : decode cL_law 291 = .ok (.iload 5, 2) := by decide +kernel
theorem dL_law_293 : decode cL_law 293 = .ok (.iconst 2, 1) := by decide +kernel
theorem dL_law_294 : decode cL_law 294 = .ok (.iadd, 1) := by decide +kernel
theorem dL_law_295 : decode cL_law 295 = .ok (.iaload, 1) := by decide +kernel
theorem dL_law_296 : decode cL_law 296 = .ok (.invokevirtual 83, 3) := by decide +kernel
theorem dL_law_299 : decode cL_law 299 = .ok (.istore 7, 2) := by decide +kernel
theorem dL_law_301 : decode cL_law 301 = .ok (.aload_n 2, 1) := by decide +kernel
theorem dL_law_302 : decode cL_law 302 = .ok (.invokevirtual 72, 3) := by decide +kernel
theorem dL_law_305 : decode cL_law 305 = .ok (.iload 6, 2) := by decide +kernel
theorem dL_law_307 : decode cL_law 307 = .ok (.if_icmp .eq 5, 3) := by decide +kernel
theorem dL_law_310 : decode cL_law 310 = .ok (.iconst 0, 1) := by decide +kernel
theorem dL_law_311 : decode cL_law 311 = .ok (.ireturn, 1) := by decide +kernel
theorem dL_law_312 : decode cL_law 312 = .ok (.iload 6, 2) := by decide +kernel
theorem dL_law_314 : decode cL_law 314 = .ok (.ifCond .ne 15, 3) := by decide +kernel
theorem dL_law_317 : decode cL_law 317 = .ok (.aload_n 3, 1) := by decide +kernel
theorem dL_law_318 : decode cL_law 318 = .ok (.iconst 0, 1) := by decide +kernel
theorem dL_law_319 : decode cL_law 319 = .ok (.laload, 1) := by decide +kernel
theorem dL_law_320 : decode cL_law 320 = .ok (.iload 7, 2) := by decide +kernel
theorem dL_law_322 : decode cL_law 322 = .ok (.i2l, 1) := by decide +kernel
theorem dL_law_323 : decode cL_law 323 = .ok (.lcmp, 1) := by decide +kernel
theorem dL_law_324 : decode cL_law 324 = .ok (.ifCond .eq 5, 3) := by decide +kernel
theorem dL_law_327 : decode cL_law 327 = .ok (.iconst 0, 1) := by decide +kernel
theorem dL_law_328 : decode cL_law 328 = .ok (.ireturn, 1) := by decide +kernel
theorem dL_law_329 : decode cL_law 329 = .ok (.goto 857, 3) := by decide +kernel
theorem dL_law_332 : decode cL_law 332 = .ok (.aload_n 1, 1) := by decide +kernel
theorem dL_law_333 : decode cL_law 333 = .ok (.aload_n 0, 1) := by decide +kernel
theorem dL_law_334 : decode cL_law 334 = .ok (.iload 5, 2) := by decide +kernel
theorem dL_law_336 : decode cL_law 336 = .ok (.iconst 1, 1) := by decide +kernel
theorem dL_law_337 : decode cL_law 337 = .ok (.iadd, 1) := by decide +kernel
theorem dL_law_338 : decode cL_law 338 = .ok (.iaload, 1) := by decide +kernel
theorem dL_law_339 : decode cL_law 339 = .ok (.aload_n 0, 1) := by decide +kernel
theorem dL_law_340 : decode cL_law 340 = .ok (.iload 5, 2) := by decide +kernel
theorem dL_law_342 : decode cL_law 342 = .ok (.iconst 2, 1) := by decide +kernel
theorem dL_law_343 : decode cL_law 343 = .ok (.iadd, 1) := by decide +kernel
theorem dL_law_344 : decode cL_law 344 = .ok (.iaload, 1) := by decide +kernel
theorem dL_law_345 : decode cL_law 345 = .ok (.aload_n 0, 1) := by decide +kernel
theorem dL_law_346 : decode cL_law 346 = .ok (.iload 5, 2) := by decide +kernel
theorem dL_law_348 : decode cL_law 348 = .ok (.iconst 3, 1) := by decide +kernel
theorem dL_law_349 : decode cL_law 349 = .ok (.iadd, 1) := by decide +kernel
theorem dL_law_350 : decode cL_law 350 = .ok (.iaload, 1) := by decide +kernel
theorem dL_law_351 : decode cL_law 351 = .ok (.aload_n 0, 1) := by decide +kernel
theorem dL_law_352 : decode cL_law 352 = .ok (.iload 5, 2) := by decide +kernel
theorem dL_law_354 : decode cL_law 354 = .ok (.iconst 4, 1) := by decide +kernel
theorem dL_law_355 : decode cL_law 355 = .ok (.iadd, 1) := by decide +kernel
theorem dL_law_356 : decode cL_law 356 = .ok (.iaload, 1) := by decide +kernel
theorem dL_law_357 : decode cL_law 357 = .ok (.aload_n 3, 1) := by decide +kernel
theorem dL_law_358 : decode cL_law 358 = .ok (.invokestatic 84, 3) := by decide +kernel
theorem dL_law_361 : decode cL_law 361 = .ok (.istore 6, 2) := by decide +kernel
theorem dL_law_363 : decode cL_law 363 = .ok (.aload_n 2, 1) := by decide +kernel
theorem dL_law_364 : decode cL_law 364 = .ok (.aload_n 0, 1) := by decide +kernel
theorem dL_law_365 : decode cL_law 365 = .ok (.iload 5, 2) := by decide +kernel
theorem dL_law_367 : decode cL_law 367 = .ok (.iconst 1, 1) := by decide +kernel
theorem dL_law_368 : decode cL_law 368 = .ok (.iadd, 1) := by decide +kernel
theorem dL_law_369 : decode cL_law 369 = .ok (.iaload, 1) := by decide +kernel
theorem dL_law_370 : decode cL_law 370 = .ok (.aload_n 0, 1) := by decide +kernel
theorem dL_law_371 : decode cL_law 371 = .ok (.iload 5, 2) := by decide +kernel
theorem dL_law_373 : decode cL_law 373 = .ok (.iconst 2, 1) := by decide +kernel
theorem dL_law_374 : decode cL_law 374 = .ok (.iadd, 1) := by decide +kernel
theorem dL_law_375 : decode cL_law 375 = .ok (.iaload, 1) := by decide +kernel
theorem dL_law_376 : decode cL_law 376 = .ok (.aload_n 0, 1) := by decide +kernel
theorem dL_law_377 : decode cL_law 377 = .ok (.iload 5, 2) := by decide +kernel
theorem dL_law_379 : decode cL_law 379 = .ok (.iconst 3, 1) := by decide +kernel
theorem dL_law_380 : decode cL_law 380 = .ok (.iadd, 1) := by decide +kernel
theorem dL_law_381 : decode cL_law 381 = .ok (.iaload, 1) := by decide +kernel
theorem dL_law_382 : decode cL_law 382 = .ok (.aload_n 0, 1) := by decide +kernel
theorem dL_law_383 : decode cL_law 383 = .ok (.iload 5, 2) := by decide +kernel
theorem dL_law_385 : decode cL_law 385 = .ok (.iconst 4, 1) := by decide +kernel
theorem dL_law_386 : decode cL_law 386 = .ok (.iadd, 1) := by decide +kernel
theorem dL_law_387 : decode cL_law 387 = .ok (.iaload, 1) := by decide +kernel
theorem dL_law_388 : decode cL_law 388 = .ok (.invokevirtual 86, 3) := by decide +kernel
theorem dL_law_391 : decode cL_law 391 = .ok (.istore 7, 2) := by decide +kernel
theorem dL_law_393 : decode cL_law 393 = .ok (.aload_n 2, 1) := by decide +kernel
theorem dL_law_394 : decode cL_law 394 = .ok (.invokevirtual 72, 3) := by decide +kernel
theorem dL_law_397 : decode cL_law 397 = .ok (.iload 6, 2) := by decide +kernel
theorem dL_law_399 : decode cL_law 399 = .ok (.if_icmp .eq 5, 3) := by decide +kernel
theorem dL_law_402 : decode cL_law 402 = .ok (.iconst 0, 1) := by decide +kernel
theorem dL_law_403 : decode cL_law 403 = .ok (.ireturn, 1) := by decide +kernel
theorem dL_law_404 : decode cL_law 404 = .ok (.iload 6, 2) := by decide +kernel
theorem dL_law_406 : decode cL_law 406 = .ok (.ifCond .ne 15, 3) := by decide +kernel
theorem dL_law_409 : decode cL_law 409 = .ok (.aload_n 3, 1) := by decide +kernel
theorem dL_law_410 : decode cL_law 410 = .ok (.iconst 0, 1) := by decide +kernel
theorem dL_law_411 : decode cL_law 411 = .ok (.laload, 1) := by decide +kernel
theorem dL_law_412 : decode cL_law 412 = .ok (.iload 7, 2) := by decide +kernel
theorem dL_law_414 : decode cL_law 414 = .ok (.i2l, 1) := by decide +kernel
theorem dL_law_415 : decode cL_law 415 = .ok (.lcmp, 1) := by decide +kernel
theorem dL_law_416 : decode cL_law 416 = .ok (.ifCond .eq 5, 3) := by decide +kernel
theorem dL_law_419 : decode cL_law 419 = .ok (.iconst 0, 1) := by decide +kernel
theorem dL_law_420 : decode cL_law 420 = .ok (.ireturn, 1) := by decide +kernel
theorem dL_law_421 : decode cL_law 421 = .ok (.goto 765, 3) := by decide +kernel
theorem dL_law_424 : decode cL_law 424 = .ok (.aload_n 1, 1) := by decide +kernel
theorem dL_law_425 : decode cL_law 425 = .ok (.aload_n 0, 1) := by decide +kernel
theorem dL_law_426 : decode cL_law 426 = .ok (.iload 5, 2) := by decide +kernel
theorem dL_law_428 : decode cL_law 428 = .ok (.iconst 1, 1) := by decide +kernel
theorem dL_law_429 : decode cL_law 429 = .ok (.iadd, 1) := by decide +kernel
theorem dL_law_430 : decode cL_law 430 = .ok (.iaload, 1) := by decide +kernel
theorem dL_law_431 : decode cL_law 431 = .ok (.aload_n 0, 1) := by decide +kernel
theorem dL_law_432 : decode cL_law 432 = .ok (.iload 5, 2) := by decide +kernel
theorem dL_law_434 : decode cL_law 434 = .ok (.iconst 2, 1) := by decide +kernel
theorem dL_law_435 : decode cL_law 435 = .ok (.iadd, 1) := by decide +kernel
theorem dL_law_436 : decode cL_law 436 = .ok (.iaload, 1) := by decide +kernel
theorem dL_law_437 : decode cL_law 437 = .ok (.aload_n 3, 1) := by decide +kernel
theorem dL_law_438 : decode cL_law 438 = .ok (.invokestatic 87, 3) := by decide +kernel
theorem dL_law_441 : decode cL_law 441 = .ok (.istore 6, 2) := by decide +kernel
theorem dL_law_443 : decode cL_law 443 = .ok (.aload_n 2, 1) := by decide +kernel
theorem dL_law_444 : decode cL_law 444 = .ok (.aload_n 0, 1) := by decide +kernel
theorem dL_law_445 : decode cL_law 445 = .ok (.iload 5, 2) := by decide +kernel
theorem dL_law_447 : decode cL_law 447 = .ok (.iconst 1, 1) := by decide +kernel
theorem dL_law_448 : decode cL_law 448 = .ok (.iadd, 1) := by decide +kernel
theorem dL_law_449 : decode cL_law 449 = .ok (.iaload, 1) := by decide +kernel
theorem dL_law_450 : decode cL_law 450 = .ok (.aload_n 0, 1) := by decide +kernel
theorem dL_law_451 : decode cL_law 451 = .ok (.iload 5, 2) := by decide +kernel
theorem dL_law_453 : decode cL_law 453 = .ok (.iconst 2, 1) := by decide +kernel
theorem dL_law_454 : decode cL_law 454 = .ok (.iadd, 1) := by decide +kernel
theorem dL_law_455 : decode cL_law 455 = .ok (.iaload, 1) := by decide +kernel
theorem dL_law_456 : decode cL_law 456 = .ok (.invokevirtual 89, 3) := by decide +kernel
theorem dL_law_459 : decode cL_law 459 = .ok (.istore 7, 2) := by decide +kernel
theorem dL_law_461 : decode cL_law 461 = .ok (.aload_n 2, 1) := by decide +kernel
theorem dL_law_462 : decode cL_law 462 = .ok (.invokevirtual 72, 3) := by decide +kernel
theorem dL_law_465 : decode cL_law 465 = .ok (.iload 6, 2) := by decide +kernel
theorem dL_law_467 : decode cL_law 467 = .ok (.if_icmp .eq 5, 3) := by decide +kernel
theorem dL_law_470 : decode cL_law 470 = .ok (.iconst 0, 1) := by decide +kernel
theorem dL_law_471 : decode cL_law 471 = .ok (.ireturn, 1) := by decide +kernel
theorem dL_law_472 : decode cL_law 472 = .ok (.iload 6, 2) := by decide +kernel
theorem dL_law_474 : decode cL_law 474 = .ok (.ifCond .ne 15, 3) := by decide +kernel
theorem dL_law_477 : decode cL_law 477 = .ok (.aload_n 3, 1) := by decide +kernel
theorem dL_law_478 : decode cL_law 478 = .ok (.iconst 0, 1) := by decide +kernel
theorem dL_law_479 : decode cL_law 479 = .ok (.laload, 1) := by decide +kernel
theorem dL_law_480 : decode cL_law 480 = .ok (.iload 7, 2) := by decide +kernel
theorem dL_law_482 : decode cL_law 482 = .ok (.i2l, 1) := by decide +kernel
theorem dL_law_483 : decode cL_law 483 = .ok (.lcmp, 1) := by decide +kernel
theorem dL_law_484 : decode cL_law 484 = .ok (.ifCond .eq 5, 3) := by decide +kernel
theorem dL_law_487 : decode cL_law 487 = .ok (.iconst 0, 1) := by decide +kernel
theorem dL_law_488 : decode cL_law 488 = .ok (.ireturn, 1) := by decide +kernel
theorem dL_law_489 : decode cL_law 489 = .ok (.goto 697, 3) := by decide +kernel
theorem dL_law_492 : decode cL_law 492 = .ok (.aload_n 1, 1) := by decide +kernel
theorem dL_law_493 : decode cL_law 493 = .ok (.aload_n 0, 1) := by decide +kernel
theorem dL_law_494 : decode cL_law 494 = .ok (.iload 5, 2) := by decide +kernel
theorem dL_law_496 : decode cL_law 496 = .ok (.iconst 1, 1) := by decide +kernel
theorem dL_law_497 : decode cL_law 497 = .ok (.iadd, 1) := by decide +kernel
theorem dL_law_498 : decode cL_law 498 = .ok (.iaload, 1) := by decide +kernel
theorem dL_law_499 : decode cL_law 499 = .ok (.aload_n 3, 1) := by decide +kernel
theorem dL_law_500 : decode cL_law 500 = .ok (.invokestatic 90, 3) := by decide +kernel
theorem dL_law_503 : decode cL_law 503 = .ok (.istore 6, 2) := by decide +kernel
theorem dL_law_505 : decode cL_law 505 = .ok (.aload_n 2, 1) := by decide +kernel
theorem dL_law_506 : decode cL_law 506 = .ok (.aload_n 0, 1) := by decide +kernel
theorem dL_law_507 : decode cL_law 507 = .ok (.iload 5, 2) := by decide +kernel
theorem dL_law_509 : decode cL_law 509 = .ok (.iconst 1, 1) := by decide +kernel
theorem dL_law_510 : decode cL_law 510 = .ok (.iadd, 1) := by decide +kernel
theorem dL_law_511 : decode cL_law 511 = .ok (.iaload, 1) := by decide +kernel
theorem dL_law_512 : decode cL_law 512 = .ok (.invokevirtual 92, 3) := by decide +kernel
theorem dL_law_515 : decode cL_law 515 = .ok (.istore 7, 2) := by decide +kernel
theorem dL_law_517 : decode cL_law 517 = .ok (.aload_n 2, 1) := by decide +kernel
theorem dL_law_518 : decode cL_law 518 = .ok (.invokevirtual 72, 3) := by decide +kernel
theorem dL_law_521 : decode cL_law 521 = .ok (.iload 6, 2) := by decide +kernel
theorem dL_law_523 : decode cL_law 523 = .ok (.if_icmp .eq 5, 3) := by decide +kernel
theorem dL_law_526 : decode cL_law 526 = .ok (.iconst 0, 1) := by decide +kernel
theorem dL_law_527 : decode cL_law 527 = .ok (.ireturn, 1) := by decide +kernel
theorem dL_law_528 : decode cL_law 528 = .ok (.iload 6, 2) := by decide +kernel
theorem dL_law_530 : decode cL_law 530 = .ok (.ifCond .ne 15, 3) := by decide +kernel
theorem dL_law_533 : decode cL_law 533 = .ok (.aload_n 3, 1) := by decide +kernel
theorem dL_law_534 : decode cL_law 534 = .ok (.iconst 0, 1) := by decide +kernel
theorem dL_law_535 : decode cL_law 535 = .ok (.laload, 1) := by decide +kernel
theorem dL_law_536 : decode cL_law 536 = .ok (.iload 7, 2) := by decide +kernel
theorem dL_law_538 : decode cL_law 538 = .ok (.i2l, 1) := by decide +kernel
theorem dL_law_539 : decode cL_law 539 = .ok (.lcmp, 1) := by decide +kernel
theorem dL_law_540 : decode cL_law 540 = .ok (.ifCond .eq 5, 3) := by decide +kernel
theorem dL_law_543 : decode cL_law 543 = .ok (.iconst 0, 1) := by decide +kernel
theorem dL_law_544 : decode cL_law 544 = .ok (.ireturn, 1) := by decide +kernel
theorem dL_law_545 : decode cL_law 545 = .ok (.goto 641, 3) := by decide +kernel
theorem dL_law_548 : decode cL_law 548 = .ok (.aload_n 1, 1) := by decide +kernel
theorem dL_law_549 : decode cL_law 549 = .ok (.aload_n 0, 1) := by decide +kernel
theorem dL_law_550 : decode cL_law 550 = .ok (.iload 5, 2) := by decide +kernel
theorem dL_law_552 : decode cL_law 552 = .ok (.iconst 1, 1) := by decide +kernel
theorem dL_law_553 : decode cL_law 553 = .ok (.iadd, 1) := by decide +kernel
theorem dL_law_554 : decode cL_law 554 = .ok (.iaload, 1) := by decide +kernel
theorem dL_law_555 : decode cL_law 555 = .ok (.aload_n 0, 1) := by decide +kernel
theorem dL_law_556 : decode cL_law 556 = .ok (.iload 5, 2) := by decide +kernel
theorem dL_law_558 : decode cL_law 558 = .ok (.iconst 2, 1) := by decide +kernel
theorem dL_law_559 : decode cL_law 559 = .ok (.iadd, 1) := by decide +kernel
theorem dL_law_560 : decode cL_law 560 = .ok (.iaload, 1) := by decide +kernel
theorem dL_law_561 : decode cL_law 561 = .ok (.aload_n 3, 1) := by decide +kernel
theorem dL_law_562 : decode cL_law 562 = .ok (.invokestatic 93, 3) := by decide +kernel
theorem dL_law_565 : decode cL_law 565 = .ok (.istore 6, 2) := by decide +kernel
theorem dL_law_567 : decode cL_law 567 = .ok (.aload_n 2, 1) := by decide +kernel
theorem dL_law_568 : decode cL_law 568 = .ok (.aload_n 0, 1) := by decide +kernel
theorem dL_law_569 : decode cL_law 569 = .ok (.iload 5, 2) := by decide +kernel
theorem dL_law_571 : decode cL_law 571 = .ok (.iconst 1, 1) := by decide +kernel
theorem dL_law_572 : decode cL_law 572 = .ok (.iadd, 1) := by decide +kernel
theorem dL_law_573 : decode cL_law 573 = .ok (.iaload, 1) := by decide +kernel
theorem dL_law_574 : decode cL_law 574 = .ok (.aload_n 0, 1) := by decide +kernel
theorem dL_law_575 : decode cL_law 575 = .ok (.iload 5, 2) := by decide +kernel
theorem dL_law_577 : decode cL_law 577 = .ok (.iconst 2, 1) := by decide +kernel
theorem dL_law_578 : decode cL_law 578 = .ok (.iadd, 1) := by decide +kernel
theorem dL_law_579 : decode cL_law 579 = .ok (.iaload, 1) := by decide +kernel
theorem dL_law_580 : decode cL_law 580 = .ok (.invokevirtual 95, 3) := by decide +kernel
theorem dL_law_583 : decode cL_law 583 = .ok (.istore 7, 2) := by decide +kernel
theorem dL_law_585 : decode cL_law 585 = .ok (.aload_n 2, 1) := by decide +kernel
theorem dL_law_586 : decode cL_law 586 = .ok (.invokevirtual 72, 3) := by decide +kernel
theorem dL_law_589 : decode cL_law 589 = .ok (.iload 6, 2) := by decide +kernel
theorem dL_law_591 : decode cL_law 591 = .ok (.if_icmp .eq 5, 3) := by decide +kernel
theorem dL_law_594 : decode cL_law 594 = .ok (.iconst 0, 1) := by decide +kernel
theorem dL_law_595 : decode cL_law 595 = .ok (.ireturn, 1) := by decide +kernel
theorem dL_law_596 : decode cL_law 596 = .ok (.iload 6, 2) := by decide +kernel
theorem dL_law_598 : decode cL_law 598 = .ok (.ifCond .ne 15, 3) := by decide +kernel
theorem dL_law_601 : decode cL_law 601 = .ok (.aload_n 3, 1) := by decide +kernel
theorem dL_law_602 : decode cL_law 602 = .ok (.iconst 0, 1) := by decide +kernel
theorem dL_law_603 : decode cL_law 603 = .ok (.laload, 1) := by decide +kernel
theorem dL_law_604 : decode cL_law 604 = .ok (.iload 7, 2) := by decide +kernel
theorem dL_law_606 : decode cL_law 606 = .ok (.i2l, 1) := by decide +kernel
theorem dL_law_607 : decode cL_law 607 = .ok (.lcmp, 1) := by decide +kernel
theorem dL_law_608 : decode cL_law 608 = .ok (.ifCond .eq 5, 3) := by decide +kernel
theorem dL_law_611 : decode cL_law 611 = .ok (.iconst 0, 1) := by decide +kernel
theorem dL_law_612 : decode cL_law 612 = .ok (.ireturn, 1) := by decide +kernel
theorem dL_law_613 : decode cL_law 613 = .ok (.goto 573, 3) := by decide +kernel
theorem dL_law_616 : decode cL_law 616 = .ok (.aload_n 1, 1) := by decide +kernel
theorem dL_law_617 : decode cL_law 617 = .ok (.aload_n 0, 1) := by decide +kernel
theorem dL_law_618 : decode cL_law 618 = .ok (.iload 5, 2) := by decide +kernel
theorem dL_law_620 : decode cL_law 620 = .ok (.iconst 1, 1) := by decide +kernel
theorem dL_law_621 : decode cL_law 621 = .ok (.iadd, 1) := by decide +kernel
theorem dL_law_622 : decode cL_law 622 = .ok (.iaload, 1) := by decide +kernel
theorem dL_law_623 : decode cL_law 623 = .ok (.aload_n 0, 1) := by decide +kernel
theorem dL_law_624 : decode cL_law 624 = .ok (.iload 5, 2) := by decide +kernel
theorem dL_law_626 : decode cL_law 626 = .ok (.iconst 2, 1) := by decide +kernel
theorem dL_law_627 : decode cL_law 627 = .ok (.iadd, 1) := by decide +kernel
theorem dL_law_628 : decode cL_law 628 = .ok (.iaload, 1) := by decide +kernel
theorem dL_law_629 : decode cL_law 629 = .ok (.aload_n 0, 1) := by decide +kernel
theorem dL_law_630 : decode cL_law 630 = .ok (.iload 5, 2) := by decide +kernel
theorem dL_law_632 : decode cL_law 632 = .ok (.iconst 3, 1) := by decide +kernel
theorem dL_law_633 : decode cL_law 633 = .ok (.iadd, 1) := by decide +kernel
theorem dL_law_634 : decode cL_law 634 = .ok (.iaload, 1) := by decide +kernel
theorem dL_law_635 : decode cL_law 635 = .ok (.aload_n 0, 1) := by decide +kernel
theorem dL_law_636 : decode cL_law 636 = .ok (.iload 5, 2) := by decide +kernel
theorem dL_law_638 : decode cL_law 638 = .ok (.iconst 4, 1) := by decide +kernel
theorem dL_law_639 : decode cL_law 639 = .ok (.iadd, 1) := by decide +kernel
theorem dL_law_640 : decode cL_law 640 = .ok (.iaload, 1) := by decide +kernel
theorem dL_law_641 : decode cL_law 641 = .ok (.aload_n 3, 1) := by decide +kernel
theorem dL_law_642 : decode cL_law 642 = .ok (.invokestatic 96, 3) := by decide +kernel
theorem dL_law_645 : decode cL_law 645 = .ok (.istore 6, 2) := by decide +kernel
theorem dL_law_647 : decode cL_law 647 = .ok (.aload_n 2, 1) := by decide +kernel
theorem dL_law_648 : decode cL_law 648 = .ok (.aload_n 0, 1) := by decide +kernel
theorem dL_law_649 : decode cL_law 649 = .ok (.iload 5, 2) := by decide +kernel
theorem dL_law_651 : decode cL_law 651 = .ok (.iconst 1, 1) := by decide +kernel
theorem dL_law_652 : decode cL_law 652 = .ok (.iadd, 1) := by decide +kernel
theorem dL_law_653 : decode cL_law 653 = .ok (.iaload, 1) := by decide +kernel
theorem dL_law_654 : decode cL_law 654 = .ok (.aload_n 0, 1) := by decide +kernel
theorem dL_law_655 : decode cL_law 655 = .ok (.iload 5, 2) := by decide +kernel
theorem dL_law_657 : decode cL_law 657 = .ok (.iconst 2, 1) := by decide +kernel
theorem dL_law_658 : decode cL_law 658 = .ok (.iadd, 1) := by decide +kernel
theorem dL_law_659 : decode cL_law 659 = .ok (.iaload, 1) := by decide +kernel
theorem dL_law_660 : decode cL_law 660 = .ok (.aload_n 0, 1) := by decide +kernel
theorem dL_law_661 : decode cL_law 661 = .ok (.iload 5, 2) := by decide +kernel
theorem dL_law_663 : decode cL_law 663 = .ok (.iconst 3, 1) := by decide +kernel
theorem dL_law_664 : decode cL_law 664 = .ok (.iadd, 1) := by decide +kernel
theorem dL_law_665 : decode cL_law 665 = .ok (.iaload, 1) := by decide +kernel
theorem dL_law_666 : decode cL_law 666 = .ok (.aload_n 0, 1) := by decide +kernel
theorem dL_law_667 : decode cL_law 667 = .ok (.iload 5, 2) := by decide +kernel
theorem dL_law_669 : decode cL_law 669 = .ok (.iconst 4, 1) := by decide +kernel
theorem dL_law_670 : decode cL_law 670 = .ok (.iadd, 1) := by decide +kernel
theorem dL_law_671 : decode cL_law 671 = .ok (.iaload, 1) := by decide +kernel
theorem dL_law_672 : decode cL_law 672 = .ok (.invokevirtual 98, 3) := by decide +kernel
theorem dL_law_675 : decode cL_law 675 = .ok (.istore 7, 2) := by decide +kernel
theorem dL_law_677 : decode cL_law 677 = .ok (.aload_n 2, 1) := by decide +kernel
theorem dL_law_678 : decode cL_law 678 = .ok (.invokevirtual 72, 3) := by decide +kernel
theorem dL_law_681 : decode cL_law 681 = .ok (.iload 6, 2) := by decide +kernel
theorem dL_law_683 : decode cL_law 683 = .ok (.if_icmp .eq 5, 3) := by decide +kernel
theorem dL_law_686 : decode cL_law 686 = .ok (.iconst 0, 1) := by decide +kernel
theorem dL_law_687 : decode cL_law 687 = .ok (.ireturn, 1) := by decide +kernel
theorem dL_law_688 : decode cL_law 688 = .ok (.iload 6, 2) := by decide +kernel
theorem dL_law_690 : decode cL_law 690 = .ok (.ifCond .ne 15, 3) := by decide +kernel
theorem dL_law_693 : decode cL_law 693 = .ok (.aload_n 3, 1) := by decide +kernel
theorem dL_law_694 : decode cL_law 694 = .ok (.iconst 0, 1) := by decide +kernel
theorem dL_law_695 : decode cL_law 695 = .ok (.laload, 1) := by decide +kernel
theorem dL_law_696 : decode cL_law 696 = .ok (.iload 7, 2) := by decide +kernel
theorem dL_law_698 : decode cL_law 698 = .ok (.i2l, 1) := by decide +kernel
theorem dL_law_699 : decode cL_law 699 = .ok (.lcmp, 1) := by decide +kernel
theorem dL_law_700 : decode cL_law 700 = .ok (.ifCond .eq 5, 3) := by decide +kernel
theorem dL_law_703 : decode cL_law 703 = .ok (.iconst 0, 1) := by decide +kernel
theorem dL_law_704 : decode cL_law 704 = .ok (.ireturn, 1) := by decide +kernel
theorem dL_law_705 : decode cL_law 705 = .ok (.goto 481, 3) := by decide +kernel
theorem dL_law_708 : decode cL_law 708 = .ok (.aload_n 1, 1) := by decide +kernel
theorem dL_law_709 : decode cL_law 709 = .ok (.aload_n 0, 1) := by decide +kernel
theorem dL_law_710 : decode cL_law 710 = .ok (.iload 5, 2) := by decide +kernel
theorem dL_law_712 : decode cL_law 712 = .ok (.iconst 1, 1) := by decide +kernel
theorem dL_law_713 : decode cL_law 713 = .ok (.iadd, 1) := by decide +kernel
theorem dL_law_714 : decode cL_law 714 = .ok (.iaload, 1) := by decide +kernel
theorem dL_law_715 : decode cL_law 715 = .ok (.aload_n 0, 1) := by decide +kernel
theorem dL_law_716 : decode cL_law 716 = .ok (.iload 5, 2) := by decide +kernel
theorem dL_law_718 : decode cL_law 718 = .ok (.iconst 2, 1) := by decide +kernel
theorem dL_law_719 : decode cL_law 719 = .ok (.iadd, 1) := by decide +kernel
theorem dL_law_720 : decode cL_law 720 = .ok (.iaload, 1) := by decide +kernel
theorem dL_law_721 : decode cL_law 721 = .ok (.aload_n 0, 1) := by decide +kernel
theorem dL_law_722 : decode cL_law 722 = .ok (.iload 5, 2) := by decide +kernel
theorem dL_law_724 : decode cL_law 724 = .ok (.iconst 3, 1) := by decide +kernel
theorem dL_law_725 : decode cL_law 725 = .ok (.iadd, 1) := by decide +kernel
theorem dL_law_726 : decode cL_law 726 = .ok (.iaload, 1) := by decide +kernel
theorem dL_law_727 : decode cL_law 727 = .ok (.aload_n 0, 1) := by decide +kernel
theorem dL_law_728 : decode cL_law 728 = .ok (.iload 5, 2) := by decide +kernel
theorem dL_law_730 : decode cL_law 730 = .ok (.iconst 4, 1) := by decide +kernel
theorem dL_law_731 : decode cL_law 731 = .ok (.iadd, 1) := by decide +kernel
theorem dL_law_732 : decode cL_law 732 = .ok (.iaload, 1) := by decide +kernel
theorem dL_law_733 : decode cL_law 733 = .ok (.aload_n 3, 1) := by decide +kernel
theorem dL_law_734 : decode cL_law 734 = .ok (.invokestatic 99, 3) := by decide +kernel
theorem dL_law_737 : decode cL_law 737 = .ok (.istore 6, 2) := by decide +kernel
theorem dL_law_739 : decode cL_law 739 = .ok (.aload_n 2, 1) := by decide +kernel
theorem dL_law_740 : decode cL_law 740 = .ok (.aload_n 0, 1) := by decide +kernel
theorem dL_law_741 : decode cL_law 741 = .ok (.iload 5, 2) := by decide +kernel
theorem dL_law_743 : decode cL_law 743 = .ok (.iconst 1, 1) := by decide +kernel
theorem dL_law_744 : decode cL_law 744 = .ok (.iadd, 1) := by decide +kernel
theorem dL_law_745 : decode cL_law 745 = .ok (.iaload, 1) := by decide +kernel
theorem dL_law_746 : decode cL_law 746 = .ok (.aload_n 0, 1) := by decide +kernel
theorem dL_law_747 : decode cL_law 747 = .ok (.iload 5, 2) := by decide +kernel
theorem dL_law_749 : decode cL_law 749 = .ok (.iconst 2, 1) := by decide +kernel
theorem dL_law_750 : decode cL_law 750 = .ok (.iadd, 1) := by decide +kernel
theorem dL_law_751 : decode cL_law 751 = .ok (.iaload, 1) := by decide +kernel
theorem dL_law_752 : decode cL_law 752 = .ok (.aload_n 0, 1) := by decide +kernel
theorem dL_law_753 : decode cL_law 753 = .ok (.iload 5, 2) := by decide +kernel
theorem dL_law_755 : decode cL_law 755 = .ok (.iconst 3, 1) := by decide +kernel
theorem dL_law_756 : decode cL_law 756 = .ok (.iadd, 1) := by decide +kernel
theorem dL_law_757 : decode cL_law 757 = .ok (.iaload, 1) := by decide +kernel
theorem dL_law_758 : decode cL_law 758 = .ok (.aload_n 0, 1) := by decide +kernel
theorem dL_law_759 : decode cL_law 759 = .ok (.iload 5, 2) := by decide +kernel
theorem dL_law_761 : decode cL_law 761 = .ok (.iconst 4, 1) := by decide +kernel
theorem dL_law_762 : decode cL_law 762 = .ok (.iadd, 1) := by decide +kernel
theorem dL_law_763 : decode cL_law 763 = .ok (.iaload, 1) := by decide +kernel
theorem dL_law_764 : decode cL_law 764 = .ok (.invokevirtual 101, 3) := by decide +kernel
theorem dL_law_767 : decode cL_law 767 = .ok (.istore 7, 2) := by decide +kernel
theorem dL_law_769 : decode cL_law 769 = .ok (.aload_n 2, 1) := by decide +kernel
theorem dL_law_770 : decode cL_law 770 = .ok (.invokevirtual 72, 3) := by decide +kernel
theorem dL_law_773 : decode cL_law 773 = .ok (.iload 6, 2) := by decide +kernel
theorem dL_law_775 : decode cL_law 775 = .ok (.if_icmp .eq 5, 3) := by decide +kernel
theorem dL_law_778 : decode cL_law 778 = .ok (.iconst 0, 1) := by decide +kernel
theorem dL_law_779 : decode cL_law 779 = .ok (.ireturn, 1) := by decide +kernel
theorem dL_law_780 : decode cL_law 780 = .ok (.iload 6, 2) := by decide +kernel
theorem dL_law_782 : decode cL_law 782 = .ok (.ifCond .ne 15, 3) := by decide +kernel
theorem dL_law_785 : decode cL_law 785 = .ok (.aload_n 3, 1) := by decide +kernel
theorem dL_law_786 : decode cL_law 786 = .ok (.iconst 0, 1) := by decide +kernel
theorem dL_law_787 : decode cL_law 787 = .ok (.laload, 1) := by decide +kernel
theorem dL_law_788 : decode cL_law 788 = .ok (.iload 7, 2) := by decide +kernel
theorem dL_law_790 : decode cL_law 790 = .ok (.i2l, 1) := by decide +kernel
theorem dL_law_791 : decode cL_law 791 = .ok (.lcmp, 1) := by decide +kernel
theorem dL_law_792 : decode cL_law 792 = .ok (.ifCond .eq 5, 3) := by decide +kernel
theorem dL_law_795 : decode cL_law 795 = .ok (.iconst 0, 1) := by decide +kernel
theorem dL_law_796 : decode cL_law 796 = .ok (.ireturn, 1) := by decide +kernel
theorem dL_law_797 : decode cL_law 797 = .ok (.goto 389, 3) := by decide +kernel
theorem dL_law_800 : decode cL_law 800 = .ok (.aload_n 1, 1) := by decide +kernel
theorem dL_law_801 : decode cL_law 801 = .ok (.aload_n 0, 1) := by decide +kernel
theorem dL_law_802 : decode cL_law 802 = .ok (.iload 5, 2) := by decide +kernel
theorem dL_law_804 : decode cL_law 804 = .ok (.iconst 1, 1) := by decide +kernel
theorem dL_law_805 : decode cL_law 805 = .ok (.iadd, 1) := by decide +kernel
theorem dL_law_806 : decode cL_law 806 = .ok (.iaload, 1) := by decide +kernel
theorem dL_law_807 : decode cL_law 807 = .ok (.aload_n 0, 1) := by decide +kernel
theorem dL_law_808 : decode cL_law 808 = .ok (.iload 5, 2) := by decide +kernel
theorem dL_law_810 : decode cL_law 810 = .ok (.iconst 2, 1) := by decide +kernel
theorem dL_law_811 : decode cL_law 811 = .ok (.iadd, 1) := by decide +kernel
theorem dL_law_812 : decode cL_law 812 = .ok (.iaload, 1) := by decide +kernel
theorem dL_law_813 : decode cL_law 813 = .ok (.aload_n 0, 1) := by decide +kernel
theorem dL_law_814 : decode cL_law 814 = .ok (.iload 5, 2) := by decide +kernel
theorem dL_law_816 : decode cL_law 816 = .ok (.iconst 3, 1) := by decide +kernel
theorem dL_law_817 : decode cL_law 817 = .ok (.iadd, 1) := by decide +kernel
theorem dL_law_818 : decode cL_law 818 = .ok (.iaload, 1) := by decide +kernel
theorem dL_law_819 : decode cL_law 819 = .ok (.aload_n 3, 1) := by decide +kernel
theorem dL_law_820 : decode cL_law 820 = .ok (.invokestatic 102, 3) := by decide +kernel
theorem dL_law_823 : decode cL_law 823 = .ok (.istore 6, 2) := by decide +kernel
theorem dL_law_825 : decode cL_law 825 = .ok (.aload_n 2, 1) := by decide +kernel
theorem dL_law_826 : decode cL_law 826 = .ok (.aload_n 0, 1) := by decide +kernel
theorem dL_law_827 : decode cL_law 827 = .ok (.iload 5, 2) := by decide +kernel
theorem dL_law_829 : decode cL_law 829 = .ok (.iconst 1, 1) := by decide +kernel
theorem dL_law_830 : decode cL_law 830 = .ok (.iadd, 1) := by decide +kernel
theorem dL_law_831 : decode cL_law 831 = .ok (.iaload, 1) := by decide +kernel
theorem dL_law_832 : decode cL_law 832 = .ok (.aload_n 0, 1) := by decide +kernel
theorem dL_law_833 : decode cL_law 833 = .ok (.iload 5, 2) := by decide +kernel
theorem dL_law_835 : decode cL_law 835 = .ok (.iconst 2, 1) := by decide +kernel
theorem dL_law_836 : decode cL_law 836 = .ok (.iadd, 1) := by decide +kernel
theorem dL_law_837 : decode cL_law 837 = .ok (.iaload, 1) := by decide +kernel
theorem dL_law_838 : decode cL_law 838 = .ok (.aload_n 0, 1) := by decide +kernel
theorem dL_law_839 : decode cL_law 839 = .ok (.iload 5, 2) := by decide +kernel
theorem dL_law_841 : decode cL_law 841 = .ok (.iconst 3, 1) := by decide +kernel
theorem dL_law_842 : decode cL_law 842 = .ok (.iadd, 1) := by decide +kernel
theorem dL_law_843 : decode cL_law 843 = .ok (.iaload, 1) := by decide +kernel
theorem dL_law_844 : decode cL_law 844 = .ok (.invokevirtual 105, 3) := by decide +kernel
theorem dL_law_847 : decode cL_law 847 = .ok (.istore 7, 2) := by decide +kernel
theorem dL_law_849 : decode cL_law 849 = .ok (.aload_n 2, 1) := by decide +kernel
theorem dL_law_850 : decode cL_law 850 = .ok (.invokevirtual 72, 3) := by decide +kernel
theorem dL_law_853 : decode cL_law 853 = .ok (.iload 6, 2) := by decide +kernel
theorem dL_law_855 : decode cL_law 855 = .ok (.if_icmp .eq 5, 3) := by decide +kernel
theorem dL_law_858 : decode cL_law 858 = .ok (.iconst 0, 1) := by decide +kernel
theorem dL_law_859 : decode cL_law 859 = .ok (.ireturn, 1) := by decide +kernel
theorem dL_law_860 : decode cL_law 860 = .ok (.iload 6, 2) := by decide +kernel
theorem dL_law_862 : decode cL_law 862 = .ok (.ifCond .ne 15, 3) := by decide +kernel
theorem dL_law_865 : decode cL_law 865 = .ok (.aload_n 3, 1) := by decide +kernel
theorem dL_law_866 : decode cL_law 866 = .ok (.iconst 0, 1) := by decide +kernel
theorem dL_law_867 : decode cL_law 867 = .ok (.laload, 1) := by decide +kernel
theorem dL_law_868 : decode cL_law 868 = .ok (.iload 7, 2) := by decide +kernel
theorem dL_law_870 : decode cL_law 870 = .ok (.i2l, 1) := by decide +kernel
theorem dL_law_871 : decode cL_law 871 = .ok (.lcmp, 1) := by decide +kernel
theorem dL_law_872 : decode cL_law 872 = .ok (.ifCond .eq 5, 3) := by decide +kernel
theorem dL_law_875 : decode cL_law 875 = .ok (.iconst 0, 1) := by decide +kernel
theorem dL_law_876 : decode cL_law 876 = .ok (.ireturn, 1) := by decide +kernel
theorem dL_law_877 : decode cL_law 877 = .ok (.goto 309, 3) := by decide +kernel
theorem dL_law_880 : decode cL_law 880 = .ok (.aload_n 1, 1) := by decide +kernel
theorem dL_law_881 : decode cL_law 881 = .ok (.aload_n 0, 1) := by decide +kernel
theorem dL_law_882 : decode cL_law 882 = .ok (.iload 5, 2) := by decide +kernel
theorem dL_law_884 : decode cL_law 884 = .ok (.iconst 1, 1) := by decide +kernel
theorem dL_law_885 : decode cL_law 885 = .ok (.iadd, 1) := by decide +kernel
theorem dL_law_886 : decode cL_law 886 = .ok (.iaload, 1) := by decide +kernel
theorem dL_law_887 : decode cL_law 887 = .ok (.aload_n 0, 1) := by decide +kernel
theorem dL_law_888 : decode cL_law 888 = .ok (.iload 5, 2) := by decide +kernel
theorem dL_law_890 : decode cL_law 890 = .ok (.iconst 2, 1) := by decide +kernel
theorem dL_law_891 : decode cL_law 891 = .ok (.iadd, 1) := by decide +kernel
theorem dL_law_892 : decode cL_law 892 = .ok (.iaload, 1) := by decide +kernel
theorem dL_law_893 : decode cL_law 893 = .ok (.aload_n 0, 1) := by decide +kernel
theorem dL_law_894 : decode cL_law 894 = .ok (.iload 5, 2) := by decide +kernel
theorem dL_law_896 : decode cL_law 896 = .ok (.iconst 3, 1) := by decide +kernel
theorem dL_law_897 : decode cL_law 897 = .ok (.iadd, 1) := by decide +kernel
theorem dL_law_898 : decode cL_law 898 = .ok (.iaload, 1) := by decide +kernel
theorem dL_law_899 : decode cL_law 899 = .ok (.aload_n 0, 1) := by decide +kernel
theorem dL_law_900 : decode cL_law 900 = .ok (.iload 5, 2) := by decide +kernel
theorem dL_law_902 : decode cL_law 902 = .ok (.iconst 4, 1) := by decide +kernel
theorem dL_law_903 : decode cL_law 903 = .ok (.iadd, 1) := by decide +kernel
theorem dL_law_904 : decode cL_law 904 = .ok (.iaload, 1) := by decide +kernel
theorem dL_law_905 : decode cL_law 905 = .ok (.aload_n 3, 1) := by decide +kernel
theorem dL_law_906 : decode cL_law 906 = .ok (.invokestatic 106, 3) := by decide +kernel
theorem dL_law_909 : decode cL_law 909 = .ok (.istore 6, 2) := by decide +kernel
theorem dL_law_911 : decode cL_law 911 = .ok (.aload_n 2, 1) := by decide +kernel
theorem dL_law_912 : decode cL_law 912 = .ok (.aload_n 0, 1) := by decide +kernel
theorem dL_law_913 : decode cL_law 913 = .ok (.iload 5, 2) := by decide +kernel
theorem dL_law_915 : decode cL_law 915 = .ok (.iconst 1, 1) := by decide +kernel
theorem dL_law_916 : decode cL_law 916 = .ok (.iadd, 1) := by decide +kernel
theorem dL_law_917 : decode cL_law 917 = .ok (.iaload, 1) := by decide +kernel
theorem dL_law_918 : decode cL_law 918 = .ok (.aload_n 0, 1) := by decide +kernel
theorem dL_law_919 : decode cL_law 919 = .ok (.iload 5, 2) := by decide +kernel
theorem dL_law_921 : decode cL_law 921 = .ok (.iconst 2, 1) := by decide +kernel
theorem dL_law_922 : decode cL_law 922 = .ok (.iadd, 1) := by decide +kernel
theorem dL_law_923 : decode cL_law 923 = .ok (.iaload, 1) := by decide +kernel
theorem dL_law_924 : decode cL_law 924 = .ok (.aload_n 0, 1) := by decide +kernel
theorem dL_law_925 : decode cL_law 925 = .ok (.iload 5, 2) := by decide +kernel
theorem dL_law_927 : decode cL_law 927 = .ok (.iconst 3, 1) := by decide +kernel
theorem dL_law_928 : decode cL_law 928 = .ok (.iadd, 1) := by decide +kernel
theorem dL_law_929 : decode cL_law 929 = .ok (.iaload, 1) := by decide +kernel
theorem dL_law_930 : decode cL_law 930 = .ok (.aload_n 0, 1) := by decide +kernel
theorem dL_law_931 : decode cL_law 931 = .ok (.iload 5, 2) := by decide +kernel
theorem dL_law_933 : decode cL_law 933 = .ok (.iconst 4, 1) := by decide +kernel
theorem dL_law_934 : decode cL_law 934 = .ok (.iadd, 1) := by decide +kernel
theorem dL_law_935 : decode cL_law 935 = .ok (.iaload, 1) := by decide +kernel
theorem dL_law_936 : decode cL_law 936 = .ok (.invokevirtual 108, 3) := by decide +kernel
theorem dL_law_939 : decode cL_law 939 = .ok (.istore 7, 2) := by decide +kernel
theorem dL_law_941 : decode cL_law 941 = .ok (.aload_n 2, 1) := by decide +kernel
theorem dL_law_942 : decode cL_law 942 = .ok (.invokevirtual 72, 3) := by decide +kernel
theorem dL_law_945 : decode cL_law 945 = .ok (.iload 6, 2) := by decide +kernel
theorem dL_law_947 : decode cL_law 947 = .ok (.if_icmp .eq 5, 3) := by decide +kernel
theorem dL_law_950 : decode cL_law 950 = .ok (.iconst 0, 1) := by decide +kernel
theorem dL_law_951 : decode cL_law 951 = .ok (.ireturn, 1) := by decide +kernel
theorem dL_law_952 : decode cL_law 952 = .ok (.iload 6, 2) := by decide +kernel
theorem dL_law_954 : decode cL_law 954 = .ok (.ifCond .ne 15, 3) := by decide +kernel
theorem dL_law_957 : decode cL_law 957 = .ok (.aload_n 3, 1) := by decide +kernel
theorem dL_law_958 : decode cL_law 958 = .ok (.iconst 0, 1) := by decide +kernel
theorem dL_law_959 : decode cL_law 959 = .ok (.laload, 1) := by decide +kernel
theorem dL_law_960 : decode cL_law 960 = .ok (.iload 7, 2) := by decide +kernel
theorem dL_law_962 : decode cL_law 962 = .ok (.i2l, 1) := by decide +kernel
theorem dL_law_963 : decode cL_law 963 = .ok (.lcmp, 1) := by decide +kernel
theorem dL_law_964 : decode cL_law 964 = .ok (.ifCond .eq 5, 3) := by decide +kernel
theorem dL_law_967 : decode cL_law 967 = .ok (.iconst 0, 1) := by decide +kernel
theorem dL_law_968 : decode cL_law 968 = .ok (.ireturn, 1) := by decide +kernel
theorem dL_law_969 : decode cL_law 969 = .ok (.goto 217, 3) := by decide +kernel
theorem dL_law_972 : decode cL_law 972 = .ok (.aload_n 1, 1) := by decide +kernel
theorem dL_law_973 : decode cL_law 973 = .ok (.aload_n 0, 1) := by decide +kernel
theorem dL_law_974 : decode cL_law 974 = .ok (.iload 5, 2) := by decide +kernel
theorem dL_law_976 : decode cL_law 976 = .ok (.iconst 1, 1) := by decide +kernel
theorem dL_law_977 : decode cL_law 977 = .ok (.iadd, 1) := by decide +kernel
theorem dL_law_978 : decode cL_law 978 = .ok (.iaload, 1) := by decide +kernel
theorem dL_law_979 : decode cL_law 979 = .ok (.aload_n 0, 1) := by decide +kernel
theorem dL_law_980 : decode cL_law 980 = .ok (.iload 5, 2) := by decide +kernel
theorem dL_law_982 : decode cL_law 982 = .ok (.iconst 2, 1) := by decide +kernel
theorem dL_law_983 : decode cL_law 983 = .ok (.iadd, 1) := by decide +kernel
theorem dL_law_984 : decode cL_law 984 = .ok (.iaload, 1) := by decide +kernel
theorem dL_law_985 : decode cL_law 985 = .ok (.aload_n 3, 1) := by decide +kernel
theorem dL_law_986 : decode cL_law 986 = .ok (.invokestatic 109, 3) := by decide +kernel
theorem dL_law_989 : decode cL_law 989 = .ok (.istore 6, 2) := by decide +kernel
theorem dL_law_991 : decode cL_law 991 = .ok (.aload_n 2, 1) := by decide +kernel
theorem dL_law_992 : decode cL_law 992 = .ok (.aload_n 0, 1) := by decide +kernel
theorem dL_law_993 : decode cL_law 993 = .ok (.iload 5, 2) := by decide +kernel
theorem dL_law_995 : decode cL_law 995 = .ok (.iconst 1, 1) := by decide +kernel
theorem dL_law_996 : decode cL_law 996 = .ok (.iadd, 1) := by decide +kernel
theorem dL_law_997 : decode cL_law 997 = .ok (.iaload, 1) := by decide +kernel
theorem dL_law_998 : decode cL_law 998 = .ok (.aload_n 0, 1) := by decide +kernel
theorem dL_law_999 : decode cL_law 999 = .ok (.iload 5, 2) := by decide +kernel
theorem dL_law_1001 : decode cL_law 1001 = .ok (.iconst 2, 1) := by decide +kernel
theorem dL_law_1002 : decode cL_law 1002 = .ok (.iadd, 1) := by decide +kernel
theorem dL_law_1003 : decode cL_law 1003 = .ok (.iaload, 1) := by decide +kernel
theorem dL_law_1004 : decode cL_law 1004 = .ok (.invokevirtual 111, 3) := by decide +kernel
theorem dL_law_1007 : decode cL_law 1007 = .ok (.istore 7, 2) := by decide +kernel
theorem dL_law_1009 : decode cL_law 1009 = .ok (.aload_n 2, 1) := by decide +kernel
theorem dL_law_1010 : decode cL_law 1010 = .ok (.invokevirtual 72, 3) := by decide +kernel
theorem dL_law_1013 : decode cL_law 1013 = .ok (.iload 6, 2) := by decide +kernel
theorem dL_law_1015 : decode cL_law 1015 = .ok (.if_icmp .eq 5, 3) := by decide +kernel
theorem dL_law_1018 : decode cL_law 1018 = .ok (.iconst 0, 1) := by decide +kernel
theorem dL_law_1019 : decode cL_law 1019 = .ok (.ireturn, 1) := by decide +kernel
theorem dL_law_1020 : decode cL_law 1020 = .ok (.iload 6, 2) := by decide +kernel
theorem dL_law_1022 : decode cL_law 1022 = .ok (.ifCond .ne 15, 3) := by decide +kernel
theorem dL_law_1025 : decode cL_law 1025 = .ok (.aload_n 3, 1) := by decide +kernel
theorem dL_law_1026 : decode cL_law 1026 = .ok (.iconst 0, 1) := by decide +kernel
theorem dL_law_1027 : decode cL_law 1027 = .ok (.laload, 1) := by decide +kernel
theorem dL_law_1028 : decode cL_law 1028 = .ok (.iload 7, 2) := by decide +kernel
theorem dL_law_1030 : decode cL_law 1030 = .ok (.i2l, 1) := by decide +kernel
theorem dL_law_1031 : decode cL_law 1031 = .ok (.lcmp, 1) := by decide +kernel
theorem dL_law_1032 : decode cL_law 1032 = .ok (.ifCond .eq 5, 3) := by decide +kernel
theorem dL_law_1035 : decode cL_law 1035 = .ok (.iconst 0, 1) := by decide +kernel
theorem dL_law_1036 : decode cL_law 1036 = .ok (.ireturn, 1) := by decide +kernel
theorem dL_law_1037 : decode cL_law 1037 = .ok (.goto 149, 3) := by decide +kernel
theorem dL_law_1040 : decode cL_law 1040 = .ok (.aload_n 1, 1) := by decide +kernel
theorem dL_law_1041 : decode cL_law 1041 = .ok (.aload_n 0, 1) := by decide +kernel
theorem dL_law_1042 : decode cL_law 1042 = .ok (.iload 5, 2) := by decide +kernel
theorem dL_law_1044 : decode cL_law 1044 = .ok (.iconst 1, 1) := by decide +kernel
theorem dL_law_1045 : decode cL_law 1045 = .ok (.iadd, 1) := by decide +kernel
theorem dL_law_1046 : decode cL_law 1046 = .ok (.iaload, 1) := by decide +kernel
theorem dL_law_1047 : decode cL_law 1047 = .ok (.aload_n 3, 1) := by decide +kernel
theorem dL_law_1048 : decode cL_law 1048 = .ok (.invokestatic 112, 3) := by decide +kernel
theorem dL_law_1051 : decode cL_law 1051 = .ok (.istore 6, 2) := by decide +kernel
theorem dL_law_1053 : decode cL_law 1053 = .ok (.aload_n 2, 1) := by decide +kernel
theorem dL_law_1054 : decode cL_law 1054 = .ok (.aload_n 0, 1) := by decide +kernel
theorem dL_law_1055 : decode cL_law 1055 = .ok (.iload 5, 2) := by decide +kernel
theorem dL_law_1057 : decode cL_law 1057 = .ok (.iconst 1, 1) := by decide +kernel
theorem dL_law_1058 : decode cL_law 1058 = .ok (.iadd, 1) := by decide +kernel
theorem dL_law_1059 : decode cL_law 1059 = .ok (.iaload, 1) := by decide +kernel
theorem dL_law_1060 : decode cL_law 1060 = .ok (.invokevirtual 114, 3) := by decide +kernel
theorem dL_law_1063 : decode cL_law 1063 = .ok (.istore 7, 2) := by decide +kernel
theorem dL_law_1065 : decode cL_law 1065 = .ok (.aload_n 2, 1) := by decide +kernel
theorem dL_law_1066 : decode cL_law 1066 = .ok (.invokevirtual 72, 3) := by decide +kernel
theorem dL_law_1069 : decode cL_law 1069 = .ok (.iload 6, 2) := by decide +kernel
theorem dL_law_1071 : decode cL_law 1071 = .ok (.if_icmp .eq 5, 3) := by decide +kernel
theorem dL_law_1074 : decode cL_law 1074 = .ok (.iconst 0, 1) := by decide +kernel
theorem dL_law_1075 : decode cL_law 1075 = .ok (.ireturn, 1) := by decide +kernel
theorem dL_law_1076 : decode cL_law 1076 = .ok (.iload 6, 2) := by decide +kernel
theorem dL_law_1078 : decode cL_law 1078 = .ok (.ifCond .ne 15, 3) := by decide +kernel
theorem dL_law_1081 : decode cL_law 1081 = .ok (.aload_n 3, 1) := by decide +kernel
theorem dL_law_1082 : decode cL_law 1082 = .ok (.iconst 0, 1) := by decide +kernel
theorem dL_law_1083 : decode cL_law 1083 = .ok (.laload, 1) := by decide +kernel
theorem dL_law_1084 : decode cL_law 1084 = .ok (.iload 7, 2) := by decide +kernel
theorem dL_law_1086 : decode cL_law 1086 = .ok (.i2l, 1) := by decide +kernel
theorem dL_law_1087 : decode cL_law 1087 = .ok (.lcmp, 1) := by decide +kernel
theorem dL_law_1088 : decode cL_law 1088 = .ok (.ifCond .eq 5, 3) := by decide +kernel
theorem dL_law_1091 : decode cL_law 1091 = .ok (.iconst 0, 1) := by decide +kernel
theorem dL_law_1092 : decode cL_law 1092 = .ok (.ireturn, 1) := by decide +kernel
theorem dL_law_1093 : decode cL_law 1093 = .ok (.goto 93, 3) := by decide +kernel
theorem dL_law_1096 : decode cL_law 1096 = .ok (.aload_n 1, 1) := by decide +kernel
theorem dL_law_1097 : decode cL_law 1097 = .ok (.aload_n 0, 1) := by decide +kernel
theorem dL_law_1098 : decode cL_law 1098 = .ok (.iload 5, 2) := by decide +kernel
theorem dL_law_1100 : decode cL_law 1100 = .ok (.iconst 1, 1) := by decide +kernel
theorem dL_law_1101 : decode cL_law 1101 = .ok (.iadd, 1) := by decide +kernel
theorem dL_law_1102 : decode cL_law 1102 = .ok (.iaload, 1) := by decide +kernel
theorem dL_law_1103 : decode cL_law 1103 = .ok (.aload_n 0, 1) := by decide +kernel
theorem dL_law_1104 : decode cL_law 1104 = .ok (.iload 5, 2) := by decide +kernel
theorem dL_law_1106 : decode cL_law 1106 = .ok (.iconst 2, 1) := by decide +kernel
theorem dL_law_1107 : decode cL_law 1107 = .ok (.iadd, 1) := by decide +kernel
theorem dL_law_1108 : decode cL_law 1108 = .ok (.iaload, 1) := by decide +kernel
theorem dL_law_1109 : decode cL_law 1109 = .ok (.aload 4, 2) := by decide +kernel
theorem dL_law_1111 : decode cL_law 1111 = .ok (.invokestatic 115, 3) := by decide +kernel
theorem dL_law_1114 : decode cL_law 1114 = .ok (.istore 6, 2) := by decide +kernel
theorem dL_law_1116 : decode cL_law 1116 = .ok (.aload_n 2, 1) := by decide +kernel
theorem dL_law_1117 : decode cL_law 1117 = .ok (.aload_n 0, 1) := by decide +kernel
theorem dL_law_1118 : decode cL_law 1118 = .ok (.iload 5, 2) := by decide +kernel
theorem dL_law_1120 : decode cL_law 1120 = .ok (.iconst 1, 1) := by decide +kernel
theorem dL_law_1121 : decode cL_law 1121 = .ok (.iadd, 1) := by decide +kernel
theorem dL_law_1122 : decode cL_law 1122 = .ok (.iaload, 1) := by decide +kernel
theorem dL_law_1123 : decode cL_law 1123 = .ok (.aload_n 0, 1) := by decide +kernel
theorem dL_law_1124 : decode cL_law 1124 = .ok (.iload 5, 2) := by decide +kernel
theorem dL_law_1126 : decode cL_law 1126 = .ok (.iconst 2, 1) := by decide +kernel
theorem dL_law_1127 : decode cL_law 1127 = .ok (.iadd, 1) := by decide +kernel
theorem dL_law_1128 : decode cL_law 1128 = .ok (.iaload, 1) := by decide +kernel
theorem dL_law_1129 : decode cL_law 1129 = .ok (.invokevirtual 118, 3) := by decide +kernel
theorem dL_law_1132 : decode cL_law 1132 = .ok (.fstore 7, 2) := by decide +kernel
theorem dL_law_1134 : decode cL_law 1134 = .ok (.aload_n 2, 1) := by decide +kernel
theorem dL_law_1135 : decode cL_law 1135 = .ok (.invokevirtual 72, 3) := by decide +kernel
theorem dL_law_1138 : decode cL_law 1138 = .ok (.iload 6, 2) := by decide +kernel
theorem dL_law_1140 : decode cL_law 1140 = .ok (.if_icmp .eq 5, 3) := by decide +kernel
theorem dL_law_1143 : decode cL_law 1143 = .ok (.iconst 0, 1) := by decide +kernel
theorem dL_law_1144 : decode cL_law 1144 = .ok (.ireturn, 1) := by decide +kernel
theorem dL_law_1145 : decode cL_law 1145 = .ok (.iload 6, 2) := by decide +kernel
theorem dL_law_1147 : decode cL_law 1147 = .ok (.ifCond .ne 36, 3) := by decide +kernel
theorem dL_law_1150 : decode cL_law 1150 = .ok (.aload 4, 2) := by decide +kernel
theorem dL_law_1152 : decode cL_law 1152 = .ok (.iconst 0, 1) := by decide +kernel
theorem dL_law_1153 : decode cL_law 1153 = .ok (.daload, 1) := by decide +kernel
theorem dL_law_1154 : decode cL_law 1154 = .ok (.fload 7, 2) := by decide +kernel
theorem dL_law_1156 : decode cL_law 1156 = .ok (.f2d, 1) := by decide +kernel
theorem dL_law_1157 : decode cL_law 1157 = .ok (.dcmp .l, 1) := by decide +kernel
theorem dL_law_1158 : decode cL_law 1158 = .ok (.ifCond .eq 25, 3) := by decide +kernel
theorem dL_law_1161 : decode cL_law 1161 = .ok (.aload 4, 2) := by decide +kernel
theorem dL_law_1163 : decode cL_law 1163 = .ok (.iconst 0, 1) := by decide +kernel
theorem dL_law_1164 : decode cL_law 1164 = .ok (.daload, 1) := by decide +kernel
theorem dL_law_1165 : decode cL_law 1165 = .ok (.aload 4, 2) := by decide +kernel
theorem dL_law_1167 : decode cL_law 1167 = .ok (.iconst 0, 1) := by decide +kernel
theorem dL_law_1168 : decode cL_law 1168 = .ok (.daload, 1) := by decide +kernel
theorem dL_law_1169 : decode cL_law 1169 = .ok (.dcmp .l, 1) := by decide +kernel
theorem dL_law_1170 : decode cL_law 1170 = .ok (.ifCond .eq 11, 3) := by decide +kernel
theorem dL_law_1173 : decode cL_law 1173 = .ok (.fload 7, 2) := by decide +kernel
theorem dL_law_1175 : decode cL_law 1175 = .ok (.fload 7, 2) := by decide +kernel
theorem dL_law_1177 : decode cL_law 1177 = .ok (.fcmp .l, 1) := by decide +kernel
theorem dL_law_1178 : decode cL_law 1178 = .ok (.ifCond .ne 5, 3) := by decide +kernel
theorem dL_law_1181 : decode cL_law 1181 = .ok (.iconst 0, 1) := by decide +kernel
theorem dL_law_1182 : decode cL_law 1182 = .ok (.ireturn, 1) := by decide +kernel
theorem dL_law_1183 : decode cL_law 1183 = .ok (.goto 3, 3) := by decide +kernel
theorem dL_law_1186 : decode cL_law 1186 = .ok (.iinc 5 5, 3) := by decide +kernel
theorem dL_law_1189 : decode cL_law 1189 = .ok (.goto (-1161), 3) := by decide +kernel
theorem dL_law_1192 : decode cL_law 1192 = .ok (.iconst 1, 1) := by decide +kernel
theorem dL_law_1193 : decode cL_law 1193 = .ok (.ireturn, 1) := by decide +kernel
end
section
/-- the good words of the tables -/
def AW : List Cond := lw_tbl.filter goodWord
theorem AW_mem {w : Cond} (i : Nat) (h : lw_tbl[i]? = some w) (g : goodWord w = true) : w ∈ AW := List.mem_filter.mpr ⟨List.mem_of_getElem? h, g⟩
theorem q0 : (Cond.selects "java/lang/Throwable" ⟨"java/lang/Throwable", "fillInStackTrace", "(I)Ljava/lang/Throwable;"⟩ ⟨"java/lang/Throwable", "fillInStackTrace", "(I)Ljava/lang/Throwable;"⟩) ∈ AW := AW_mem 0 (by decide +kernel) (by decide +kernel)
theorem q1 : (Cond.selects "BraidBook" yX6_requireRoomInJournal yX6_requireRoomInJournal) ∈ AW := AW_mem 1 (by decide +kernel) (by decide +kernel)
theorem q2 : (Cond.selects "java/util/ArrayList" yJx4a65c_add_72be8 yJx4a65c_add_72be8) ∈ AW := AW_mem 2 (by decide +kernel) (by decide +kernel)
theorem q3 : (Cond.selects "java/util/ArrayList" yJx4a65c_grow_d5877 yJx4a65c_grow_d5877) ∈ AW := AW_mem 3 (by decide +kernel) (by decide +kernel)
theorem q4 : (Cond.selects "java/util/ArrayList" yJx4a65c_grow_92f84 yJx4a65c_grow_92f84) ∈ AW := AW_mem 4 (by decide +kernel) (by decide +kernel)
theorem q5 : (Cond.selects "BraidBookModel" yX7_fails yX7_fails) ∈ AW := AW_mem 5 (by decide +kernel) (by decide +kernel)
theorem q6 : (Cond.selects "BraidBookModel" yX7_isKnown yX7_isKnown) ∈ AW := AW_mem 6 (by decide +kernel) (by decide +kernel)
theorem q7 : (Cond.selects "BraidBookModel" yX7_isEntry yX7_isEntry) ∈ AW := AW_mem 7 (by decide +kernel) (by decide +kernel)
theorem q8 : (Cond.selects "BraidBookModel" yX7_may yX7_may) ∈ AW := AW_mem 8 (by decide +kernel) (by decide +kernel)
theorem q9 : (Cond.selects "BraidBookModel" yX7_count yX7_count) ∈ AW := AW_mem 9 (by decide +kernel) (by decide +kernel)
theorem q10 : (Cond.selects "BraidBookModel" yX7_isThere yX7_isThere) ∈ AW := AW_mem 10 (by decide +kernel) (by decide +kernel)
theorem q11 : (Cond.selects "BraidBookModel" yX7_all yX7_all) ∈ AW := AW_mem 11 (by decide +kernel) (by decide +kernel)
theorem q12 : (Cond.selects "BraidBookModel" yX7_isCovered yX7_isCovered) ∈ AW := AW_mem 12 (by decide +kernel) (by decide +kernel)
theorem q13 : (Cond.selects "BraidBookModel" yX7_isKnownMark yX7_isKnownMark) ∈ AW := AW_mem 13 (by decide +kernel) (by decide +kernel)
theorem q14 : (Cond.selects "BraidBookModel" yX7_covers yX7_covers) ∈ AW := AW_mem 14 (by decide +kernel) (by decide +kernel)
theorem q15 : (Cond.selects "BraidBookModel" yX7_areShared yX7_areShared) ∈ AW := AW_mem 15 (by decide +kernel) (by decide +kernel)
theorem q16 : (Cond.selects "BraidBookModel" yX7_isOld yX7_isOld) ∈ AW := AW_mem 16 (by decide +kernel) (by decide +kernel)
theorem q17 : (Cond.selects "BraidBookModel" yX7_forgets yX7_forgets) ∈ AW := AW_mem 17 (by decide +kernel) (by decide +kernel)
theorem q18 : (Cond.selects "BraidBookModel" yX7_joins yX7_joins) ∈ AW := AW_mem 18 (by decide +kernel) (by decide +kernel)
theorem q19 : (Cond.selects "BraidBookModel" yX7_merges yX7_merges) ∈ AW := AW_mem 19 (by decide +kernel) (by decide +kernel)
theorem q20 : (Cond.selects "BraidBookModel" yX7_learns yX7_learns) ∈ AW := AW_mem 20 (by decide +kernel) (by decide +kernel)
theorem q21 : (Cond.selects "BraidBookModel" yX7_notes yX7_notes) ∈ AW := AW_mem 21 (by decide +kernel) (by decide +kernel)
theorem q22 : (Cond.selects "BraidBookModel" yX7_isAged yX7_isAged) ∈ AW := AW_mem 22 (by decide +kernel) (by decide +kernel)
theorem q23 : (Cond.selects "BraidBookModel" yX7_valueOf yX7_valueOf) ∈ AW := AW_mem 23 (by decide +kernel) (by decide +kernel)
theorem q24 : (Cond.selects "BraidBookModel" yX7_teller yX7_teller) ∈ AW := AW_mem 24 (by decide +kernel) (by decide +kernel)
theorem q25 : (Cond.selects "BraidBookModel" yX7_areSame yX7_areSame) ∈ AW := AW_mem 25 (by decide +kernel) (by decide +kernel)
theorem q26 : (Cond.initialized "BraidBookLaw") ∈ AW := AW_mem 26 (by decide +kernel) (by decide +kernel)
theorem q27 : (Cond.initialized "BraidBook") ∈ AW := AW_mem 27 (by decide +kernel) (by decide +kernel)
theorem q28 : (Cond.initialized "BraidBook$Books") ∈ AW := AW_mem 28 (by decide +kernel) (by decide +kernel)
theorem q29 : (Cond.initialized "BraidBook$Entry") ∈ AW := AW_mem 29 (by decide +kernel) (by decide +kernel)
theorem q30 : (Cond.initialized "java/util/AbstractCollection") ∈ AW := AW_mem 30 (by decide +kernel) (by decide +kernel)
theorem q31 : (Cond.initialized "java/util/AbstractList") ∈ AW := AW_mem 31 (by decide +kernel) (by decide +kernel)
theorem q32 : (Cond.initialized "java/util/ArrayList") ∈ AW := AW_mem 32 (by decide +kernel) (by decide +kernel)
theorem q33 : (Cond.initialized "BraidBook$Copy") ∈ AW := AW_mem 33 (by decide +kernel) (by decide +kernel)
theorem q34 : (Cond.initialized "BraidBook$Numbers") ∈ AW := AW_mem 34 (by decide +kernel) (by decide +kernel)
theorem q35 : (Cond.initialized "BraidBook$Journal") ∈ AW := AW_mem 35 (by decide +kernel) (by decide +kernel)
theorem q36 : (Cond.initialized "BraidBookModel") ∈ AW := AW_mem 36 (by decide +kernel) (by decide +kernel)
theorem q37 : (Cond.initialized "java/lang/Throwable") ∈ AW := AW_mem 37 (by decide +kernel) (by decide +kernel)
theorem q38 : (Cond.initialized "java/lang/Exception") ∈ AW := AW_mem 38 (by decide +kernel) (by decide +kernel)
theorem q39 : (Cond.initialized "java/lang/RuntimeException") ∈ AW := AW_mem 39 (by decide +kernel) (by decide +kernel)
theorem q40 : (Cond.initialized "java/lang/IndexOutOfBoundsException") ∈ AW := AW_mem 40 (by decide +kernel) (by decide +kernel)
theorem q41 : (Cond.initialized "java/lang/IllegalStateException") ∈ AW := AW_mem 41 (by decide +kernel) (by decide +kernel)
theorem q42 : (Cond.initialized "java/lang/IllegalArgumentException") ∈ AW := AW_mem 42 (by decide +kernel) (by decide +kernel)
theorem q43 : (Cond.initialized "java/util/Objects") ∈ AW := AW_mem 43 (by decide +kernel) (by decide +kernel)
theorem q44 : (Cond.initialized "jdk/internal/util/Preconditions") ∈ AW := AW_mem 44 (by decide +kernel) (by decide +kernel)
theorem q45 : (Cond.initialized "BraidBook$Mark") ∈ AW := AW_mem 45 (by decide +kernel) (by decide +kernel)
theorem q46 : (Cond.initialized "jdk/internal/util/ArraysSupport") ∈ AW := AW_mem 46 (by decide +kernel) (by decide +kernel)
theorem q47 : (Cond.initialized "java/lang/Math") ∈ AW := AW_mem 47 (by decide +kernel) (by decide +kernel)
theorem q48 : (Cond.initialized "java/util/Arrays") ∈ AW := AW_mem 48 (by decide +kernel) (by decide +kernel)
theorem q49 : (Cond.initialized "java/lang/System") ∈ AW := AW_mem 49 (by decide +kernel) (by decide +kernel)
theorem q50 : (Cond.initialized "java/lang/Integer") ∈ AW := AW_mem 50 (by decide +kernel) (by decide +kernel)
theorem q51 : (Cond.classLink "BraidBookLaw" 8 "BraidBook") ∈ AW := AW_mem 51 (by decide +kernel) (by decide +kernel)
theorem q52 : (Cond.instantiable "BraidBook" 3) ∈ AW := AW_mem 52 (by decide +kernel) (by decide +kernel)
theorem q53 : (Cond.methodLink "BraidBookLaw" 62 yX6_init) ∈ AW := AW_mem 53 (by decide +kernel) (by decide +kernel)
theorem q54 : (Cond.instanceMethod yX6_init) ∈ AW := AW_mem 54 (by decide +kernel) (by decide +kernel)
theorem q55 : (Cond.code yX6_init cX6_init 1 (Option.none : Option ClassFile.FieldType)) ∈ AW := AW_mem 55 (by decide +kernel) (by decide +kernel)
theorem q56 : (Cond.methodLink "BraidBook" 1 ⟨"java/lang/Object", "<init>", "()V"⟩) ∈ AW := AW_mem 56 (by decide +kernel) (by decide +kernel)
theorem q57 : (Cond.instanceMethod ⟨"java/lang/Object", "<init>", "()V"⟩) ∈ AW := AW_mem 57 (by decide +kernel) (by decide +kernel)
theorem q58 : (Cond.code ⟨"java/lang/Object", "<init>", "()V"⟩ object_method_1_code 1 (Option.none : Option ClassFile.FieldType)) ∈ AW := AW_mem 58 (by decide +kernel) (by decide +kernel)
theorem q59 : (Cond.classLink "BraidBook" 7 "BraidBook$Books") ∈ AW := AW_mem 59 (by decide +kernel) (by decide +kernel)
theorem q60 : (Cond.instantiable "BraidBook$Books" 4) ∈ AW := AW_mem 60 (by decide +kernel) (by decide +kernel)
theorem q61 : (Cond.methodLink "BraidBook" 9 yX0_init) ∈ AW := AW_mem 61 (by decide +kernel) (by decide +kernel)
theorem q62 : (Cond.instanceMethod yX0_init) ∈ AW := AW_mem 62 (by decide +kernel) (by decide +kernel)
theorem q63 : (Cond.code yX0_init cX0_init 2 (Option.none : Option ClassFile.FieldType)) ∈ AW := AW_mem 63 (by decide +kernel) (by decide +kernel)
theorem q64 : (Cond.methodLink "BraidBook$Books" 3 ⟨"java/lang/Object", "<init>", "()V"⟩) ∈ AW := AW_mem 64 (by decide +kernel) (by decide +kernel)
theorem q65 : (Cond.classLink "BraidBook$Books" 15 "BraidBook$Entry") ∈ AW := AW_mem 65 (by decide +kernel) (by decide +kernel)
theorem q67 : (Cond.instantiable "BraidBook$Entry" 5) ∈ AW := AW_mem 67 (by decide +kernel) (by decide +kernel)
theorem q68 : (Cond.methodLink "BraidBook$Books" 21 yX2_init) ∈ AW := AW_mem 68 (by decide +kernel) (by decide +kernel)
theorem q69 : (Cond.instanceMethod yX2_init) ∈ AW := AW_mem 69 (by decide +kernel) (by decide +kernel)
theorem q70 : (Cond.code yX2_init cX2_init 2 (Option.none : Option ClassFile.FieldType)) ∈ AW := AW_mem 70 (by decide +kernel) (by decide +kernel)
theorem q71 : (Cond.methodLink "BraidBook$Entry" 3 ⟨"java/lang/Object", "<init>", "()V"⟩) ∈ AW := AW_mem 71 (by decide +kernel) (by decide +kernel)
theorem q72 : (Cond.classLink "BraidBook$Entry" 15 "BraidBook$Copy") ∈ AW := AW_mem 72 (by decide +kernel) (by decide +kernel)
theorem q74 : (Cond.classLink "BraidBook$Entry" 21 "java/util/ArrayList") ∈ AW := AW_mem 74 (by decide +kernel) (by decide +kernel)
theorem q75 : (Cond.instantiable "java/util/ArrayList" 3) ∈ AW := AW_mem 75 (by decide +kernel) (by decide +kernel)
theorem q76 : (Cond.methodLink "BraidBook$Entry" 23 yJx4a65c_init_da8c8) ∈ AW := AW_mem 76 (by decide +kernel) (by decide +kernel)
theorem q77 : (Cond.instanceMethod yJx4a65c_init_da8c8) ∈ AW := AW_mem 77 (by decide +kernel) (by decide +kernel)
theorem q78 : (Cond.code yJx4a65c_init_da8c8 cJx4a65c_init_da8c8 1 (Option.none : Option ClassFile.FieldType)) ∈ AW := AW_mem 78 (by decide +kernel) (by decide +kernel)
theorem q79 : (Cond.methodLink "java/util/ArrayList" 1 yJxc12de_init_da8c8) ∈ AW := AW_mem 79 (by decide +kernel) (by decide +kernel)
theorem q80 : (Cond.instanceMethod yJxc12de_init_da8c8) ∈ AW := AW_mem 80 (by decide +kernel) (by decide +kernel)
theorem q81 : (Cond.code yJxc12de_init_da8c8 cJxc12de_init_da8c8 1 (Option.none : Option ClassFile.FieldType)) ∈ AW := AW_mem 81 (by decide +kernel) (by decide +kernel)
theorem q82 : (Cond.methodLink "java/util/AbstractList" 1 yJxa1e45_init_da8c8) ∈ AW := AW_mem 82 (by decide +kernel) (by decide +kernel)
theorem q83 : (Cond.instanceMethod yJxa1e45_init_da8c8) ∈ AW := AW_mem 83 (by decide +kernel) (by decide +kernel)
theorem q84 : (Cond.code yJxa1e45_init_da8c8 cJxa1e45_init_da8c8 1 (Option.none : Option ClassFile.FieldType)) ∈ AW := AW_mem 84 (by decide +kernel) (by decide +kernel)
theorem q85 : (Cond.methodLink "java/util/AbstractCollection" 1 ⟨"java/lang/Object", "<init>", "()V"⟩) ∈ AW := AW_mem 85 (by decide +kernel) (by decide +kernel)
theorem q86 : (Cond.fieldLink "java/util/ArrayList" 39 "java/util/ArrayList" "DEFAULTCAPACITY_EMPTY_ELEMENTDATA" "[Ljava/lang/Object;") ∈ AW := AW_mem 86 (by decide +kernel) (by decide +kernel)
theorem q88 : (Cond.fieldLink "java/util/ArrayList" 9 "java/util/ArrayList" "elementData" "[Ljava/lang/Object;") ∈ AW := AW_mem 88 (by decide +kernel) (by decide +kernel)
theorem q89 : (Cond.fieldLink "java/util/ArrayList" 48 "java/util/ArrayList" "size" "I") ∈ AW := AW_mem 89 (by decide +kernel) (by decide +kernel)
theorem q90 : (Cond.fieldLink "java/util/AbstractList" 7 "java/util/AbstractList" "modCount" "I") ∈ AW := AW_mem 90 (by decide +kernel) (by decide +kernel)
theorem q91 : (Cond.fieldLink "java/util/ArrayList" 63 "java/util/ArrayList" "modCount" "I") ∈ AW := AW_mem 91 (by decide +kernel) (by decide +kernel)
theorem q92 : (Cond.sameField "java/util/ArrayList" "java/util/AbstractList" "modCount" "I") ∈ AW := AW_mem 92 (by decide +kernel) (by decide +kernel)
theorem q93 : (Cond.lays "java/util/ArrayList" "java/util/ArrayList" "elementData" "[Ljava/lang/Object;") ∈ AW := AW_mem 93 (by decide +kernel) (by decide +kernel)
theorem q94 : (Cond.soleField "java/util/ArrayList" "elementData") ∈ AW := AW_mem 94 (by decide +kernel) (by decide +kernel)
theorem q95 : (Cond.lays "java/util/ArrayList" "java/util/ArrayList" "size" "I") ∈ AW := AW_mem 95 (by decide +kernel) (by decide +kernel)
theorem q96 : (Cond.soleField "java/util/ArrayList" "size") ∈ AW := AW_mem 96 (by decide +kernel) (by decide +kernel)
theorem q97 : (Cond.lays "java/util/ArrayList" "java/util/AbstractList" "modCount" "I") ∈ AW := AW_mem 97 (by decide +kernel) (by decide +kernel)
theorem q98 : (Cond.soleField "java/util/AbstractList" "modCount") ∈ AW := AW_mem 98 (by decide +kernel) (by decide +kernel)
theorem q99 : (Cond.superclass "java/util/ArrayList" "java/util/AbstractList") ∈ AW := AW_mem 99 (by decide +kernel) (by decide +kernel)
theorem q100 : (Cond.arrayClass ClassFile.FieldType.int) ∈ AW := AW_mem 100 (by decide +kernel) (by decide +kernel)
theorem q101 : (Cond.instantiable "BraidBook$Copy" 6) ∈ AW := AW_mem 101 (by decide +kernel) (by decide +kernel)
theorem q103 : (Cond.instanceMethod yX1_init) ∈ AW := AW_mem 103 (by decide +kernel) (by decide +kernel)
theorem q104 : (Cond.code yX1_init cX1_init 1 (Option.none : Option ClassFile.FieldType)) ∈ AW := AW_mem 104 (by decide +kernel) (by decide +kernel)
theorem q105 : (Cond.methodLink "BraidBook$Copy" 3 ⟨"java/lang/Object", "<init>", "()V"⟩) ∈ AW := AW_mem 105 (by decide +kernel) (by decide +kernel)
theorem q106 : (Cond.classLink "BraidBook$Copy" 18 "BraidBook$Numbers") ∈ AW := AW_mem 106 (by decide +kernel) (by decide +kernel)
theorem q107 : (Cond.instantiable "BraidBook$Numbers" 1) ∈ AW := AW_mem 107 (by decide +kernel) (by decide +kernel)
theorem q109 : (Cond.instanceMethod yX5_init) ∈ AW := AW_mem 109 (by decide +kernel) (by decide +kernel)
theorem q110 : (Cond.code yX5_init cX5_init 1 (Option.none : Option ClassFile.FieldType)) ∈ AW := AW_mem 110 (by decide +kernel) (by decide +kernel)
theorem q111 : (Cond.methodLink "BraidBook$Numbers" 3 ⟨"java/lang/Object", "<init>", "()V"⟩) ∈ AW := AW_mem 111 (by decide +kernel) (by decide +kernel)
theorem q112 : (Cond.fieldLink "BraidBook$Numbers" 9 "BraidBook$Numbers" "numbers" "[I") ∈ AW := AW_mem 112 (by decide +kernel) (by decide +kernel)
theorem q113 : (Cond.fieldLink "BraidBook$Books" 78 "BraidBook$Numbers" "numbers" "[I") ∈ AW := AW_mem 113 (by decide +kernel) (by decide +kernel)
theorem q114 : (Cond.fieldLink "BraidBook$Copy" 54 "BraidBook$Numbers" "numbers" "[I") ∈ AW := AW_mem 114 (by decide +kernel) (by decide +kernel)
theorem q115 : (Cond.fieldLink "BraidBook" 156 "BraidBook$Numbers" "numbers" "[I") ∈ AW := AW_mem 115 (by decide +kernel) (by decide +kernel)
theorem q116 : (Cond.laysFinal "BraidBook$Numbers" "BraidBook$Numbers" "numbers" "[I") ∈ AW := AW_mem 116 (by decide +kernel) (by decide +kernel)
theorem q117 : (Cond.soleField "BraidBook$Numbers" "numbers") ∈ AW := AW_mem 117 (by decide +kernel) (by decide +kernel)
theorem q118 : (Cond.superclass "BraidBook$Numbers" "java/lang/Object") ∈ AW := AW_mem 118 (by decide +kernel) (by decide +kernel)
theorem q119 : (Cond.fieldLink "BraidBook$Copy" 28 "BraidBook$Copy" "known" "Z") ∈ AW := AW_mem 119 (by decide +kernel) (by decide +kernel)
theorem q120 : (Cond.fieldLink "BraidBook$Entry" 43 "BraidBook$Copy" "known" "Z") ∈ AW := AW_mem 120 (by decide +kernel) (by decide +kernel)
theorem q121 : (Cond.fieldLink "BraidBook$Books" 47 "BraidBook$Copy" "known" "Z") ∈ AW := AW_mem 121 (by decide +kernel) (by decide +kernel)
theorem q122 : (Cond.fieldLink "BraidBook" 205 "BraidBook$Copy" "known" "Z") ∈ AW := AW_mem 122 (by decide +kernel) (by decide +kernel)
theorem q123 : (Cond.fieldLink "BraidBook$Copy" 32 "BraidBook$Copy" "noted" "Z") ∈ AW := AW_mem 123 (by decide +kernel) (by decide +kernel)
theorem q124 : (Cond.fieldLink "BraidBook$Entry" 96 "BraidBook$Copy" "noted" "Z") ∈ AW := AW_mem 124 (by decide +kernel) (by decide +kernel)
theorem q125 : (Cond.fieldLink "BraidBook$Copy" 9 "BraidBook$Copy" "acts" "[I") ∈ AW := AW_mem 125 (by decide +kernel) (by decide +kernel)
theorem q126 : (Cond.fieldLink "BraidBook$Numbers" 21 "BraidBook$Copy" "acts" "[I") ∈ AW := AW_mem 126 (by decide +kernel) (by decide +kernel)
theorem q127 : (Cond.fieldLink "BraidBook$Books" 83 "BraidBook$Copy" "acts" "[I") ∈ AW := AW_mem 127 (by decide +kernel) (by decide +kernel)
theorem q128 : (Cond.fieldLink "BraidBook$Copy" 15 "BraidBook$Copy" "told" "[I") ∈ AW := AW_mem 128 (by decide +kernel) (by decide +kernel)
theorem q129 : (Cond.fieldLink "BraidBook$Books" 86 "BraidBook$Copy" "told" "[I") ∈ AW := AW_mem 129 (by decide +kernel) (by decide +kernel)
theorem q130 : (Cond.fieldLink "BraidBook$Copy" 21 "BraidBook$Copy" "seen" "LBraidBook$Numbers;") ∈ AW := AW_mem 130 (by decide +kernel) (by decide +kernel)
theorem q131 : (Cond.fieldLink "BraidBook$Books" 74 "BraidBook$Copy" "seen" "LBraidBook$Numbers;") ∈ AW := AW_mem 131 (by decide +kernel) (by decide +kernel)
theorem q132 : (Cond.fieldLink "BraidBook$Entry" 91 "BraidBook$Copy" "seen" "LBraidBook$Numbers;") ∈ AW := AW_mem 132 (by decide +kernel) (by decide +kernel)
theorem q133 : (Cond.fieldLink "BraidBook" 152 "BraidBook$Copy" "seen" "LBraidBook$Numbers;") ∈ AW := AW_mem 133 (by decide +kernel) (by decide +kernel)
theorem q134 : (Cond.fieldLink "BraidBook$Copy" 25 "BraidBook$Copy" "note" "LBraidBook$Numbers;") ∈ AW := AW_mem 134 (by decide +kernel) (by decide +kernel)
theorem q135 : (Cond.fieldLink "BraidBook$Entry" 99 "BraidBook$Copy" "note" "LBraidBook$Numbers;") ∈ AW := AW_mem 135 (by decide +kernel) (by decide +kernel)
theorem q136 : (Cond.lays "BraidBook$Copy" "BraidBook$Copy" "known" "Z") ∈ AW := AW_mem 136 (by decide +kernel) (by decide +kernel)
theorem q137 : (Cond.soleField "BraidBook$Copy" "known") ∈ AW := AW_mem 137 (by decide +kernel) (by decide +kernel)
theorem q138 : (Cond.lays "BraidBook$Copy" "BraidBook$Copy" "noted" "Z") ∈ AW := AW_mem 138 (by decide +kernel) (by decide +kernel)
theorem q139 : (Cond.soleField "BraidBook$Copy" "noted") ∈ AW := AW_mem 139 (by decide +kernel) (by decide +kernel)
theorem q140 : (Cond.laysFinal "BraidBook$Copy" "BraidBook$Copy" "acts" "[I") ∈ AW := AW_mem 140 (by decide +kernel) (by decide +kernel)
theorem q141 : (Cond.soleField "BraidBook$Copy" "acts") ∈ AW := AW_mem 141 (by decide +kernel) (by decide +kernel)
theorem q142 : (Cond.laysFinal "BraidBook$Copy" "BraidBook$Copy" "told" "[I") ∈ AW := AW_mem 142 (by decide +kernel) (by decide +kernel)
theorem q143 : (Cond.soleField "BraidBook$Copy" "told") ∈ AW := AW_mem 143 (by decide +kernel) (by decide +kernel)
theorem q144 : (Cond.laysFinal "BraidBook$Copy" "BraidBook$Copy" "seen" "LBraidBook$Numbers;") ∈ AW := AW_mem 144 (by decide +kernel) (by decide +kernel)
theorem q145 : (Cond.soleField "BraidBook$Copy" "seen") ∈ AW := AW_mem 145 (by decide +kernel) (by decide +kernel)
theorem q146 : (Cond.laysFinal "BraidBook$Copy" "BraidBook$Copy" "note" "LBraidBook$Numbers;") ∈ AW := AW_mem 146 (by decide +kernel) (by decide +kernel)
theorem q147 : (Cond.soleField "BraidBook$Copy" "note") ∈ AW := AW_mem 147 (by decide +kernel) (by decide +kernel)
theorem q148 : (Cond.superclass "BraidBook$Copy" "java/lang/Object") ∈ AW := AW_mem 148 (by decide +kernel) (by decide +kernel)
theorem q149 : (Cond.fieldLink "BraidBook$Entry" 29 "BraidBook$Entry" "owner" "I") ∈ AW := AW_mem 149 (by decide +kernel) (by decide +kernel)
theorem q150 : (Cond.fieldLink "BraidBook$Books" 40 "BraidBook$Entry" "owner" "I") ∈ AW := AW_mem 150 (by decide +kernel) (by decide +kernel)
theorem q151 : (Cond.fieldLink "BraidBook" 103 "BraidBook$Entry" "owner" "I") ∈ AW := AW_mem 151 (by decide +kernel) (by decide +kernel)
theorem q152 : (Cond.fieldLink "BraidBook$Entry" 33 "BraidBook$Entry" "markCount" "I") ∈ AW := AW_mem 152 (by decide +kernel) (by decide +kernel)
theorem q153 : (Cond.fieldLink "BraidBook$Entry" 9 "BraidBook$Entry" "shared" "[I") ∈ AW := AW_mem 153 (by decide +kernel) (by decide +kernel)
theorem q154 : (Cond.fieldLink "BraidBook$Books" 100 "BraidBook$Entry" "shared" "[I") ∈ AW := AW_mem 154 (by decide +kernel) (by decide +kernel)
theorem q155 : (Cond.fieldLink "BraidBook$Entry" 17 "BraidBook$Entry" "copies" "[LBraidBook$Copy;") ∈ AW := AW_mem 155 (by decide +kernel) (by decide +kernel)
theorem q156 : (Cond.fieldLink "BraidBook$Books" 43 "BraidBook$Entry" "copies" "[LBraidBook$Copy;") ∈ AW := AW_mem 156 (by decide +kernel) (by decide +kernel)
theorem q157 : (Cond.fieldLink "BraidBook" 143 "BraidBook$Entry" "copies" "[LBraidBook$Copy;") ∈ AW := AW_mem 157 (by decide +kernel) (by decide +kernel)
theorem q158 : (Cond.fieldLink "BraidBook$Entry" 24 "BraidBook$Entry" "marks" "Ljava/util/ArrayList;") ∈ AW := AW_mem 158 (by decide +kernel) (by decide +kernel)
theorem q159 : (Cond.lays "BraidBook$Entry" "BraidBook$Entry" "owner" "I") ∈ AW := AW_mem 159 (by decide +kernel) (by decide +kernel)
theorem q160 : (Cond.soleField "BraidBook$Entry" "owner") ∈ AW := AW_mem 160 (by decide +kernel) (by decide +kernel)
theorem q161 : (Cond.lays "BraidBook$Entry" "BraidBook$Entry" "markCount" "I") ∈ AW := AW_mem 161 (by decide +kernel) (by decide +kernel)
theorem q162 : (Cond.soleField "BraidBook$Entry" "markCount") ∈ AW := AW_mem 162 (by decide +kernel) (by decide +kernel)
theorem q163 : (Cond.laysFinal "BraidBook$Entry" "BraidBook$Entry" "shared" "[I") ∈ AW := AW_mem 163 (by decide +kernel) (by decide +kernel)
theorem q164 : (Cond.soleField "BraidBook$Entry" "shared") ∈ AW := AW_mem 164 (by decide +kernel) (by decide +kernel)
theorem q165 : (Cond.laysFinal "BraidBook$Entry" "BraidBook$Entry" "copies" "[LBraidBook$Copy;") ∈ AW := AW_mem 165 (by decide +kernel) (by decide +kernel)
theorem q166 : (Cond.soleField "BraidBook$Entry" "copies") ∈ AW := AW_mem 166 (by decide +kernel) (by decide +kernel)
theorem q167 : (Cond.laysFinal "BraidBook$Entry" "BraidBook$Entry" "marks" "Ljava/util/ArrayList;") ∈ AW := AW_mem 167 (by decide +kernel) (by decide +kernel)
theorem q168 : (Cond.soleField "BraidBook$Entry" "marks") ∈ AW := AW_mem 168 (by decide +kernel) (by decide +kernel)
theorem q169 : (Cond.superclass "BraidBook$Entry" "java/lang/Object") ∈ AW := AW_mem 169 (by decide +kernel) (by decide +kernel)
theorem q170 : (Cond.fieldLink "BraidBook$Books" 22 "BraidBook$Books" "month" "I") ∈ AW := AW_mem 170 (by decide +kernel) (by decide +kernel)
theorem q171 : (Cond.fieldLink "BraidBook" 168 "BraidBook$Books" "month" "I") ∈ AW := AW_mem 171 (by decide +kernel) (by decide +kernel)
theorem q172 : (Cond.fieldLink "BraidBook$Books" 26 "BraidBook$Books" "entryCount" "I") ∈ AW := AW_mem 172 (by decide +kernel) (by decide +kernel)
theorem q173 : (Cond.fieldLink "BraidBook" 30 "BraidBook$Books" "entryCount" "I") ∈ AW := AW_mem 173 (by decide +kernel) (by decide +kernel)
theorem q174 : (Cond.fieldLink "BraidBook$Books" 9 "BraidBook$Books" "actCounts" "[I") ∈ AW := AW_mem 174 (by decide +kernel) (by decide +kernel)
theorem q175 : (Cond.fieldLink "BraidBook$Books" 17 "BraidBook$Books" "entries" "[LBraidBook$Entry;") ∈ AW := AW_mem 175 (by decide +kernel) (by decide +kernel)
theorem q176 : (Cond.lays "BraidBook$Books" "BraidBook$Books" "month" "I") ∈ AW := AW_mem 176 (by decide +kernel) (by decide +kernel)
theorem q177 : (Cond.soleField "BraidBook$Books" "month") ∈ AW := AW_mem 177 (by decide +kernel) (by decide +kernel)
theorem q178 : (Cond.lays "BraidBook$Books" "BraidBook$Books" "entryCount" "I") ∈ AW := AW_mem 178 (by decide +kernel) (by decide +kernel)
theorem q179 : (Cond.soleField "BraidBook$Books" "entryCount") ∈ AW := AW_mem 179 (by decide +kernel) (by decide +kernel)
theorem q180 : (Cond.laysFinal "BraidBook$Books" "BraidBook$Books" "actCounts" "[I") ∈ AW := AW_mem 180 (by decide +kernel) (by decide +kernel)
theorem q181 : (Cond.soleField "BraidBook$Books" "actCounts") ∈ AW := AW_mem 181 (by decide +kernel) (by decide +kernel)
theorem q182 : (Cond.laysFinal "BraidBook$Books" "BraidBook$Books" "entries" "[LBraidBook$Entry;") ∈ AW := AW_mem 182 (by decide +kernel) (by decide +kernel)
theorem q183 : (Cond.soleField "BraidBook$Books" "entries") ∈ AW := AW_mem 183 (by decide +kernel) (by decide +kernel)
theorem q184 : (Cond.superclass "BraidBook$Books" "java/lang/Object") ∈ AW := AW_mem 184 (by decide +kernel) (by decide +kernel)
theorem q185 : (Cond.classLink "BraidBook" 19 "BraidBook$Journal") ∈ AW := AW_mem 185 (by decide +kernel) (by decide +kernel)
theorem q186 : (Cond.instantiable "BraidBook$Journal" 6) ∈ AW := AW_mem 186 (by decide +kernel) (by decide +kernel)
theorem q188 : (Cond.instanceMethod yX3_init) ∈ AW := AW_mem 188 (by decide +kernel) (by decide +kernel)
theorem q189 : (Cond.code yX3_init cX3_init 1 (Option.none : Option ClassFile.FieldType)) ∈ AW := AW_mem 189 (by decide +kernel) (by decide +kernel)
theorem q190 : (Cond.methodLink "BraidBook$Journal" 1 ⟨"java/lang/Object", "<init>", "()V"⟩) ∈ AW := AW_mem 190 (by decide +kernel) (by decide +kernel)
theorem q191 : (Cond.fieldLink "BraidBook$Journal" 25 "BraidBook$Journal" "size" "I") ∈ AW := AW_mem 191 (by decide +kernel) (by decide +kernel)
theorem q192 : (Cond.fieldLink "BraidBook$Journal" 9 "BraidBook$Journal" "kinds" "[I") ∈ AW := AW_mem 192 (by decide +kernel) (by decide +kernel)
theorem q193 : (Cond.fieldLink "BraidBook$Journal" 13 "BraidBook$Journal" "firsts" "[I") ∈ AW := AW_mem 193 (by decide +kernel) (by decide +kernel)
theorem q194 : (Cond.fieldLink "BraidBook$Journal" 16 "BraidBook$Journal" "seconds" "[I") ∈ AW := AW_mem 194 (by decide +kernel) (by decide +kernel)
theorem q195 : (Cond.fieldLink "BraidBook$Journal" 19 "BraidBook$Journal" "thirds" "[I") ∈ AW := AW_mem 195 (by decide +kernel) (by decide +kernel)
theorem q196 : (Cond.fieldLink "BraidBook$Journal" 22 "BraidBook$Journal" "fourths" "[I") ∈ AW := AW_mem 196 (by decide +kernel) (by decide +kernel)
theorem q197 : (Cond.lays "BraidBook$Journal" "BraidBook$Journal" "size" "I") ∈ AW := AW_mem 197 (by decide +kernel) (by decide +kernel)
theorem q198 : (Cond.soleField "BraidBook$Journal" "size") ∈ AW := AW_mem 198 (by decide +kernel) (by decide +kernel)
theorem q199 : (Cond.laysFinal "BraidBook$Journal" "BraidBook$Journal" "kinds" "[I") ∈ AW := AW_mem 199 (by decide +kernel) (by decide +kernel)
theorem q200 : (Cond.soleField "BraidBook$Journal" "kinds") ∈ AW := AW_mem 200 (by decide +kernel) (by decide +kernel)
theorem q201 : (Cond.laysFinal "BraidBook$Journal" "BraidBook$Journal" "firsts" "[I") ∈ AW := AW_mem 201 (by decide +kernel) (by decide +kernel)
theorem q202 : (Cond.soleField "BraidBook$Journal" "firsts") ∈ AW := AW_mem 202 (by decide +kernel) (by decide +kernel)
theorem q203 : (Cond.laysFinal "BraidBook$Journal" "BraidBook$Journal" "seconds" "[I") ∈ AW := AW_mem 203 (by decide +kernel) (by decide +kernel)
theorem q204 : (Cond.soleField "BraidBook$Journal" "seconds") ∈ AW := AW_mem 204 (by decide +kernel) (by decide +kernel)
theorem q205 : (Cond.laysFinal "BraidBook$Journal" "BraidBook$Journal" "thirds" "[I") ∈ AW := AW_mem 205 (by decide +kernel) (by decide +kernel)
theorem q206 : (Cond.soleField "BraidBook$Journal" "thirds") ∈ AW := AW_mem 206 (by decide +kernel) (by decide +kernel)
theorem q207 : (Cond.laysFinal "BraidBook$Journal" "BraidBook$Journal" "fourths" "[I") ∈ AW := AW_mem 207 (by decide +kernel) (by decide +kernel)
theorem q208 : (Cond.soleField "BraidBook$Journal" "fourths") ∈ AW := AW_mem 208 (by decide +kernel) (by decide +kernel)
theorem q209 : (Cond.superclass "BraidBook$Journal" "java/lang/Object") ∈ AW := AW_mem 209 (by decide +kernel) (by decide +kernel)
theorem q210 : (Cond.fieldLink "BraidBook" 10 "BraidBook" "books" "LBraidBook$Books;") ∈ AW := AW_mem 210 (by decide +kernel) (by decide +kernel)
theorem q211 : (Cond.fieldLink "BraidBook" 16 "BraidBook" "booksAnew" "LBraidBook$Books;") ∈ AW := AW_mem 211 (by decide +kernel) (by decide +kernel)
theorem q212 : (Cond.fieldLink "BraidBook" 22 "BraidBook" "journal" "LBraidBook$Journal;") ∈ AW := AW_mem 212 (by decide +kernel) (by decide +kernel)
theorem q213 : (Cond.laysFinal "BraidBook" "BraidBook" "books" "LBraidBook$Books;") ∈ AW := AW_mem 213 (by decide +kernel) (by decide +kernel)
theorem q214 : (Cond.soleField "BraidBook" "books") ∈ AW := AW_mem 214 (by decide +kernel) (by decide +kernel)
theorem q215 : (Cond.laysFinal "BraidBook" "BraidBook" "booksAnew" "LBraidBook$Books;") ∈ AW := AW_mem 215 (by decide +kernel) (by decide +kernel)
theorem q216 : (Cond.soleField "BraidBook" "booksAnew") ∈ AW := AW_mem 216 (by decide +kernel) (by decide +kernel)
theorem q217 : (Cond.laysFinal "BraidBook" "BraidBook" "journal" "LBraidBook$Journal;") ∈ AW := AW_mem 217 (by decide +kernel) (by decide +kernel)
theorem q218 : (Cond.soleField "BraidBook" "journal") ∈ AW := AW_mem 218 (by decide +kernel) (by decide +kernel)
theorem q219 : (Cond.superclass "BraidBook" "java/lang/Object") ∈ AW := AW_mem 219 (by decide +kernel) (by decide +kernel)
theorem q220 : (Cond.methodLink "BraidBookLaw" 66 yL_entry) ∈ AW := AW_mem 220 (by decide +kernel) (by decide +kernel)
theorem q221 : (Cond.static yL_entry) ∈ AW := AW_mem 221 (by decide +kernel) (by decide +kernel)
theorem q222 : (Cond.codeWith yL_entry cL_entry 4 (Option.some ClassFile.FieldType.int) [(0, 9, 12, 13), (0, 9, 15, 15)]) ∈ AW := AW_mem 222 (by decide +kernel) (by decide +kernel)
theorem q223 : (Cond.classLink "BraidBookLaw" 13 "java/lang/IndexOutOfBoundsException") ∈ AW := AW_mem 223 (by decide +kernel) (by decide +kernel)
theorem q224 : (Cond.classLink "BraidBookLaw" 15 "java/lang/IllegalStateException") ∈ AW := AW_mem 224 (by decide +kernel) (by decide +kernel)
theorem q225 : (Cond.methodLink "BraidBookLaw" 7 yX6_entry) ∈ AW := AW_mem 225 (by decide +kernel) (by decide +kernel)
theorem q226 : (Cond.instanceMethod yX6_entry) ∈ AW := AW_mem 226 (by decide +kernel) (by decide +kernel)
theorem q227 : (Cond.selects "BraidBook" yX6_entry yX6_entry) ∈ AW := AW_mem 227 (by decide +kernel) (by decide +kernel)
theorem q228 : (Cond.code yX6_entry cX6_entry 2 (Option.some ClassFile.FieldType.int)) ∈ AW := AW_mem 228 (by decide +kernel) (by decide +kernel)
theorem q229 : (Cond.methodLink "BraidBook" 26 yX6_requireDevice) ∈ AW := AW_mem 229 (by decide +kernel) (by decide +kernel)
theorem q230 : (Cond.static yX6_requireDevice) ∈ AW := AW_mem 230 (by decide +kernel) (by decide +kernel)
theorem q231 : (Cond.code yX6_requireDevice cX6_requireDevice 1 (Option.none : Option ClassFile.FieldType)) ∈ AW := AW_mem 231 (by decide +kernel) (by decide +kernel)
theorem q232 : (Cond.methodLink "BraidBook" 188 yX6_isDevice) ∈ AW := AW_mem 232 (by decide +kernel) (by decide +kernel)
theorem q233 : (Cond.static yX6_isDevice) ∈ AW := AW_mem 233 (by decide +kernel) (by decide +kernel)
theorem q234 : (Cond.code yX6_isDevice cX6_isDevice 1 (Option.some ClassFile.FieldType.boolean)) ∈ AW := AW_mem 234 (by decide +kernel) (by decide +kernel)
theorem q235 : (Cond.classLink "BraidBook" 96 "java/lang/IndexOutOfBoundsException") ∈ AW := AW_mem 235 (by decide +kernel) (by decide +kernel)
theorem q236 : (Cond.instantiable "java/lang/IndexOutOfBoundsException" 6) ∈ AW := AW_mem 236 (by decide +kernel) (by decide +kernel)
theorem q244 : (Cond.selects "java/lang/IndexOutOfBoundsException" ⟨"java/lang/Throwable", "fillInStackTrace", "(I)Ljava/lang/Throwable;"⟩ ⟨"java/lang/Throwable", "fillInStackTrace", "(I)Ljava/lang/Throwable;"⟩) ∈ AW := AW_mem 244 (by decide +kernel) (by decide +kernel)
theorem q245 : (Cond.selects "java/lang/IndexOutOfBoundsException" ⟨"java/lang/Throwable", "fillInStackTrace", "()Ljava/lang/Throwable;"⟩ ⟨"java/lang/Throwable", "fillInStackTrace", "()Ljava/lang/Throwable;"⟩) ∈ AW := AW_mem 245 (by decide +kernel) (by decide +kernel)
theorem q246 : (Cond.lays "java/lang/IndexOutOfBoundsException" "java/lang/Throwable" "cause" "Ljava/lang/Throwable;") ∈ AW := AW_mem 246 (by decide +kernel) (by decide +kernel)
theorem q247 : (Cond.lays "java/lang/Throwable" "java/lang/Throwable" "cause" "Ljava/lang/Throwable;") ∈ AW := AW_mem 247 (by decide +kernel) (by decide +kernel)
theorem q248 : (Cond.lays "java/lang/IndexOutOfBoundsException" "java/lang/Throwable" "stackTrace" "[Ljava/lang/StackTraceElement;") ∈ AW := AW_mem 248 (by decide +kernel) (by decide +kernel)
theorem q249 : (Cond.lays "java/lang/Throwable" "java/lang/Throwable" "stackTrace" "[Ljava/lang/StackTraceElement;") ∈ AW := AW_mem 249 (by decide +kernel) (by decide +kernel)
theorem q250 : (Cond.lays "java/lang/IndexOutOfBoundsException" "java/lang/Throwable" "suppressedExceptions" "Ljava/util/List;") ∈ AW := AW_mem 250 (by decide +kernel) (by decide +kernel)
theorem q251 : (Cond.lays "java/lang/Throwable" "java/lang/Throwable" "suppressedExceptions" "Ljava/util/List;") ∈ AW := AW_mem 251 (by decide +kernel) (by decide +kernel)
theorem q252 : (Cond.lays "java/lang/IndexOutOfBoundsException" "java/lang/Throwable" "detailMessage" "Ljava/lang/String;") ∈ AW := AW_mem 252 (by decide +kernel) (by decide +kernel)
theorem q253 : (Cond.lays "java/lang/Throwable" "java/lang/Throwable" "detailMessage" "Ljava/lang/String;") ∈ AW := AW_mem 253 (by decide +kernel) (by decide +kernel)
theorem q254 : (Cond.lays "java/lang/IndexOutOfBoundsException" "java/lang/Throwable" "backtrace" "Ljava/lang/Object;") ∈ AW := AW_mem 254 (by decide +kernel) (by decide +kernel)
theorem q255 : (Cond.lays "java/lang/Throwable" "java/lang/Throwable" "backtrace" "Ljava/lang/Object;") ∈ AW := AW_mem 255 (by decide +kernel) (by decide +kernel)
theorem q256 : (Cond.fieldLink "java/lang/Throwable" 198 "java/lang/Throwable" "backtrace" "Ljava/lang/Object;") ∈ AW := AW_mem 256 (by decide +kernel) (by decide +kernel)
theorem q257 : (Cond.superclass "java/lang/Throwable" "java/lang/Object") ∈ AW := AW_mem 257 (by decide +kernel) (by decide +kernel)
theorem q258 : (Cond.instanceMethod ⟨"java/lang/Throwable", "<init>", "()V"⟩) ∈ AW := AW_mem 258 (by decide +kernel) (by decide +kernel)
theorem q259 : (Cond.code ⟨"java/lang/Throwable", "<init>", "()V"⟩ prog_22_method_1_code 1 (Option.none : Option ClassFile.FieldType)) ∈ AW := AW_mem 259 (by decide +kernel) (by decide +kernel)
theorem q260 : (Cond.methodLink "java/lang/Throwable" 1 ⟨"java/lang/Object", "<init>", "()V"⟩) ∈ AW := AW_mem 260 (by decide +kernel) (by decide +kernel)
theorem q261 : (Cond.fieldLink "java/lang/Throwable" 13 "java/lang/Throwable" "UNASSIGNED_STACK" "[Ljava/lang/StackTraceElement;") ∈ AW := AW_mem 261 (by decide +kernel) (by decide +kernel)
theorem q263 : (Cond.fieldLink "java/lang/Throwable" 20 "java/lang/Throwable" "SUPPRESSED_SENTINEL" "Ljava/util/List;") ∈ AW := AW_mem 263 (by decide +kernel) (by decide +kernel)
theorem q265 : (Cond.methodLink "java/lang/Throwable" 27 ⟨"java/lang/Throwable", "fillInStackTrace", "()Ljava/lang/Throwable;"⟩) ∈ AW := AW_mem 265 (by decide +kernel) (by decide +kernel)
theorem q266 : (Cond.instanceMethod ⟨"java/lang/Throwable", "fillInStackTrace", "()Ljava/lang/Throwable;"⟩) ∈ AW := AW_mem 266 (by decide +kernel) (by decide +kernel)
theorem q267 : (Cond.sameMethod "java/lang/Throwable" "java/lang/Throwable" "fillInStackTrace" "()Ljava/lang/Throwable;") ∈ AW := AW_mem 267 (by decide +kernel) (by decide +kernel)
theorem q268 : (Cond.selects "java/lang/IllegalArgumentException" ⟨"java/lang/Throwable", "fillInStackTrace", "()Ljava/lang/Throwable;"⟩ ⟨"java/lang/Throwable", "fillInStackTrace", "()Ljava/lang/Throwable;"⟩) ∈ AW := AW_mem 268 (by decide +kernel) (by decide +kernel)
theorem q269 : (Cond.selects "java/lang/IllegalStateException" ⟨"java/lang/Throwable", "fillInStackTrace", "()Ljava/lang/Throwable;"⟩ ⟨"java/lang/Throwable", "fillInStackTrace", "()Ljava/lang/Throwable;"⟩) ∈ AW := AW_mem 269 (by decide +kernel) (by decide +kernel)
theorem q271 : (Cond.methodLink "java/lang/Throwable" 202 ⟨"java/lang/Throwable", "fillInStackTrace", "(I)Ljava/lang/Throwable;"⟩) ∈ AW := AW_mem 271 (by decide +kernel) (by decide +kernel)
theorem q273 : (Cond.instanceMethod ⟨"java/lang/Throwable", "fillInStackTrace", "(I)Ljava/lang/Throwable;"⟩) ∈ AW := AW_mem 273 (by decide +kernel) (by decide +kernel)
theorem q274 : (Cond.instantiable "java/lang/Throwable" 6) ∈ AW := AW_mem 274 (by decide +kernel) (by decide +kernel)
theorem q275 : (Cond.native ⟨"java/lang/Throwable", "fillInStackTrace", "(I)Ljava/lang/Throwable;"⟩) ∈ AW := AW_mem 275 (by decide +kernel) (by decide +kernel)
theorem q277 : (Cond.methodLink "BraidBook" 100 ⟨"java/lang/IndexOutOfBoundsException", "<init>", "(Ljava/lang/String;)V"⟩) ∈ AW := AW_mem 277 (by decide +kernel) (by decide +kernel)
theorem q278 : (Cond.instanceMethod ⟨"java/lang/IndexOutOfBoundsException", "<init>", "(Ljava/lang/String;)V"⟩) ∈ AW := AW_mem 278 (by decide +kernel) (by decide +kernel)
theorem q279 : (Cond.code ⟨"java/lang/IndexOutOfBoundsException", "<init>", "(Ljava/lang/String;)V"⟩ prog_15_method_2_code 2 (Option.none : Option ClassFile.FieldType)) ∈ AW := AW_mem 279 (by decide +kernel) (by decide +kernel)
theorem q280 : (Cond.methodLink "java/lang/IndexOutOfBoundsException" 7 ⟨"java/lang/RuntimeException", "<init>", "(Ljava/lang/String;)V"⟩) ∈ AW := AW_mem 280 (by decide +kernel) (by decide +kernel)
theorem q281 : (Cond.instanceMethod ⟨"java/lang/RuntimeException", "<init>", "(Ljava/lang/String;)V"⟩) ∈ AW := AW_mem 281 (by decide +kernel) (by decide +kernel)
theorem q282 : (Cond.code ⟨"java/lang/RuntimeException", "<init>", "(Ljava/lang/String;)V"⟩ prog_19_method_2_code 2 (Option.none : Option ClassFile.FieldType)) ∈ AW := AW_mem 282 (by decide +kernel) (by decide +kernel)
theorem q283 : (Cond.methodLink "java/lang/RuntimeException" 7 ⟨"java/lang/Exception", "<init>", "(Ljava/lang/String;)V"⟩) ∈ AW := AW_mem 283 (by decide +kernel) (by decide +kernel)
theorem q284 : (Cond.instanceMethod ⟨"java/lang/Exception", "<init>", "(Ljava/lang/String;)V"⟩) ∈ AW := AW_mem 284 (by decide +kernel) (by decide +kernel)
theorem q285 : (Cond.code ⟨"java/lang/Exception", "<init>", "(Ljava/lang/String;)V"⟩ prog_12_method_2_code 2 (Option.none : Option ClassFile.FieldType)) ∈ AW := AW_mem 285 (by decide +kernel) (by decide +kernel)
theorem q286 : (Cond.methodLink "java/lang/Exception" 7 ⟨"java/lang/Throwable", "<init>", "(Ljava/lang/String;)V"⟩) ∈ AW := AW_mem 286 (by decide +kernel) (by decide +kernel)
theorem q287 : (Cond.instanceMethod ⟨"java/lang/Throwable", "<init>", "(Ljava/lang/String;)V"⟩) ∈ AW := AW_mem 287 (by decide +kernel) (by decide +kernel)
theorem q288 : (Cond.code ⟨"java/lang/Throwable", "<init>", "(Ljava/lang/String;)V"⟩ prog_22_method_2_code 2 (Option.none : Option ClassFile.FieldType)) ∈ AW := AW_mem 288 (by decide +kernel) (by decide +kernel)
theorem q290 : (Cond.fieldLink "java/lang/Throwable" 31 "java/lang/Throwable" "detailMessage" "Ljava/lang/String;") ∈ AW := AW_mem 290 (by decide +kernel) (by decide +kernel)
theorem q291 : (Cond.fieldLink "java/lang/Throwable" 7 "java/lang/Throwable" "cause" "Ljava/lang/Throwable;") ∈ AW := AW_mem 291 (by decide +kernel) (by decide +kernel)
theorem q292 : (Cond.fieldLink "java/lang/Throwable" 17 "java/lang/Throwable" "stackTrace" "[Ljava/lang/StackTraceElement;") ∈ AW := AW_mem 292 (by decide +kernel) (by decide +kernel)
theorem q293 : (Cond.fieldLink "java/lang/Throwable" 24 "java/lang/Throwable" "suppressedExceptions" "Ljava/util/List;") ∈ AW := AW_mem 293 (by decide +kernel) (by decide +kernel)
theorem q294 : (Cond.soleField "java/lang/Throwable" "backtrace") ∈ AW := AW_mem 294 (by decide +kernel) (by decide +kernel)
theorem q295 : (Cond.soleField "java/lang/Throwable" "detailMessage") ∈ AW := AW_mem 295 (by decide +kernel) (by decide +kernel)
theorem q296 : (Cond.soleField "java/lang/Throwable" "cause") ∈ AW := AW_mem 296 (by decide +kernel) (by decide +kernel)
theorem q297 : (Cond.soleField "java/lang/Throwable" "stackTrace") ∈ AW := AW_mem 297 (by decide +kernel) (by decide +kernel)
theorem q298 : (Cond.lays "java/lang/IndexOutOfBoundsException" "java/lang/Throwable" "depth" "I") ∈ AW := AW_mem 298 (by decide +kernel) (by decide +kernel)
theorem q299 : (Cond.soleField "java/lang/Throwable" "depth") ∈ AW := AW_mem 299 (by decide +kernel) (by decide +kernel)
theorem q300 : (Cond.soleField "java/lang/Throwable" "suppressedExceptions") ∈ AW := AW_mem 300 (by decide +kernel) (by decide +kernel)
theorem q301 : (Cond.superclass "java/lang/IndexOutOfBoundsException" "java/lang/RuntimeException") ∈ AW := AW_mem 301 (by decide +kernel) (by decide +kernel)
theorem q302 : (Cond.arrayClass ClassFile.FieldType.byte) ∈ AW := AW_mem 302 (by decide +kernel) (by decide +kernel)
theorem q303 : (Cond.classLink "BraidBook" 34 "java/lang/IllegalStateException") ∈ AW := AW_mem 303 (by decide +kernel) (by decide +kernel)
theorem q304 : (Cond.instantiable "java/lang/IllegalStateException" 6) ∈ AW := AW_mem 304 (by decide +kernel) (by decide +kernel)
theorem q306 : (Cond.selects "java/lang/IllegalStateException" ⟨"java/lang/Throwable", "fillInStackTrace", "(I)Ljava/lang/Throwable;"⟩ ⟨"java/lang/Throwable", "fillInStackTrace", "(I)Ljava/lang/Throwable;"⟩) ∈ AW := AW_mem 306 (by decide +kernel) (by decide +kernel)
theorem q307 : (Cond.lays "java/lang/IllegalStateException" "java/lang/Throwable" "cause" "Ljava/lang/Throwable;") ∈ AW := AW_mem 307 (by decide +kernel) (by decide +kernel)
theorem q308 : (Cond.lays "java/lang/IllegalStateException" "java/lang/Throwable" "stackTrace" "[Ljava/lang/StackTraceElement;") ∈ AW := AW_mem 308 (by decide +kernel) (by decide +kernel)
theorem q309 : (Cond.lays "java/lang/IllegalStateException" "java/lang/Throwable" "suppressedExceptions" "Ljava/util/List;") ∈ AW := AW_mem 309 (by decide +kernel) (by decide +kernel)
theorem q310 : (Cond.lays "java/lang/IllegalStateException" "java/lang/Throwable" "detailMessage" "Ljava/lang/String;") ∈ AW := AW_mem 310 (by decide +kernel) (by decide +kernel)
theorem q311 : (Cond.lays "java/lang/IllegalStateException" "java/lang/Throwable" "backtrace" "Ljava/lang/Object;") ∈ AW := AW_mem 311 (by decide +kernel) (by decide +kernel)
theorem q313 : (Cond.methodLink "BraidBook" 38 ⟨"java/lang/IllegalStateException", "<init>", "(Ljava/lang/String;)V"⟩) ∈ AW := AW_mem 313 (by decide +kernel) (by decide +kernel)
theorem q314 : (Cond.instanceMethod ⟨"java/lang/IllegalStateException", "<init>", "(Ljava/lang/String;)V"⟩) ∈ AW := AW_mem 314 (by decide +kernel) (by decide +kernel)
theorem q315 : (Cond.code ⟨"java/lang/IllegalStateException", "<init>", "(Ljava/lang/String;)V"⟩ prog_14_method_2_code 2 (Option.none : Option ClassFile.FieldType)) ∈ AW := AW_mem 315 (by decide +kernel) (by decide +kernel)
theorem q316 : (Cond.methodLink "java/lang/IllegalStateException" 7 ⟨"java/lang/RuntimeException", "<init>", "(Ljava/lang/String;)V"⟩) ∈ AW := AW_mem 316 (by decide +kernel) (by decide +kernel)
theorem q317 : (Cond.lays "java/lang/IllegalStateException" "java/lang/Throwable" "depth" "I") ∈ AW := AW_mem 317 (by decide +kernel) (by decide +kernel)
theorem q318 : (Cond.superclass "java/lang/IllegalStateException" "java/lang/RuntimeException") ∈ AW := AW_mem 318 (by decide +kernel) (by decide +kernel)
theorem q319 : (Cond.methodLink "BraidBook" 41 yX6_requireRoomInJournal) ∈ AW := AW_mem 319 (by decide +kernel) (by decide +kernel)
theorem q321 : (Cond.instanceMethod yX6_requireRoomInJournal) ∈ AW := AW_mem 321 (by decide +kernel) (by decide +kernel)
theorem q322 : (Cond.code yX6_requireRoomInJournal cX6_requireRoomInJournal 1 (Option.none : Option ClassFile.FieldType)) ∈ AW := AW_mem 322 (by decide +kernel) (by decide +kernel)
theorem q323 : (Cond.methodLink "BraidBook" 114 yX3_isFull) ∈ AW := AW_mem 323 (by decide +kernel) (by decide +kernel)
theorem q324 : (Cond.instanceMethod yX3_isFull) ∈ AW := AW_mem 324 (by decide +kernel) (by decide +kernel)
theorem q325 : (Cond.selects "BraidBook$Journal" yX3_isFull yX3_isFull) ∈ AW := AW_mem 325 (by decide +kernel) (by decide +kernel)
theorem q326 : (Cond.code yX3_isFull cX3_isFull 1 (Option.some ClassFile.FieldType.boolean)) ∈ AW := AW_mem 326 (by decide +kernel) (by decide +kernel)
theorem q328 : (Cond.methodLink "BraidBook" 44 yX3_write) ∈ AW := AW_mem 328 (by decide +kernel) (by decide +kernel)
theorem q329 : (Cond.instanceMethod yX3_write) ∈ AW := AW_mem 329 (by decide +kernel) (by decide +kernel)
theorem q330 : (Cond.selects "BraidBook$Journal" yX3_write yX3_write) ∈ AW := AW_mem 330 (by decide +kernel) (by decide +kernel)
theorem q331 : (Cond.code yX3_write cX3_write 6 (Option.none : Option ClassFile.FieldType)) ∈ AW := AW_mem 331 (by decide +kernel) (by decide +kernel)
theorem q332 : (Cond.methodLink "BraidBook$Journal" 29 yX3_isFull) ∈ AW := AW_mem 332 (by decide +kernel) (by decide +kernel)
theorem q333 : (Cond.methodLink "BraidBook" 48 yX0_makeEntry) ∈ AW := AW_mem 333 (by decide +kernel) (by decide +kernel)
theorem q334 : (Cond.instanceMethod yX0_makeEntry) ∈ AW := AW_mem 334 (by decide +kernel) (by decide +kernel)
theorem q335 : (Cond.selects "BraidBook$Books" yX0_makeEntry yX0_makeEntry) ∈ AW := AW_mem 335 (by decide +kernel) (by decide +kernel)
theorem q336 : (Cond.code yX0_makeEntry cX0_makeEntry 3 (Option.some ClassFile.FieldType.int)) ∈ AW := AW_mem 336 (by decide +kernel) (by decide +kernel)
theorem q339 : (Cond.static yX6_personOf) ∈ AW := AW_mem 339 (by decide +kernel) (by decide +kernel)
theorem q340 : (Cond.code yX6_personOf cX6_personOf 1 (Option.some ClassFile.FieldType.int)) ∈ AW := AW_mem 340 (by decide +kernel) (by decide +kernel)
theorem q341 : (Cond.methodLink "BraidBookLaw" 76 yL_tell) ∈ AW := AW_mem 341 (by decide +kernel) (by decide +kernel)
theorem q342 : (Cond.static yL_tell) ∈ AW := AW_mem 342 (by decide +kernel) (by decide +kernel)
theorem q343 : (Cond.codeWith yL_tell cL_tell 7 (Option.some ClassFile.FieldType.int) [(0, 14, 17, 13), (0, 14, 21, 21), (0, 14, 25, 15)]) ∈ AW := AW_mem 343 (by decide +kernel) (by decide +kernel)
theorem q344 : (Cond.classLink "BraidBookLaw" 21 "java/lang/IllegalArgumentException") ∈ AW := AW_mem 344 (by decide +kernel) (by decide +kernel)
theorem q345 : (Cond.methodLink "BraidBookLaw" 17 yX6_tell) ∈ AW := AW_mem 345 (by decide +kernel) (by decide +kernel)
theorem q346 : (Cond.instanceMethod yX6_tell) ∈ AW := AW_mem 346 (by decide +kernel) (by decide +kernel)
theorem q347 : (Cond.selects "BraidBook" yX6_tell yX6_tell) ∈ AW := AW_mem 347 (by decide +kernel) (by decide +kernel)
theorem q348 : (Cond.code yX6_tell cX6_tell 6 (Option.some ClassFile.FieldType.int)) ∈ AW := AW_mem 348 (by decide +kernel) (by decide +kernel)
theorem q349 : (Cond.methodLink "BraidBook" 52 yX6_knownEntry) ∈ AW := AW_mem 349 (by decide +kernel) (by decide +kernel)
theorem q350 : (Cond.static yX6_knownEntry) ∈ AW := AW_mem 350 (by decide +kernel) (by decide +kernel)
theorem q351 : (Cond.code yX6_knownEntry cX6_knownEntry 4 (Option.some (ClassFile.FieldType.object "BraidBook$Entry"))) ∈ AW := AW_mem 351 (by decide +kernel) (by decide +kernel)
theorem q352 : (Cond.methodLink "BraidBook" 126 yX0_find) ∈ AW := AW_mem 352 (by decide +kernel) (by decide +kernel)
theorem q353 : (Cond.instanceMethod yX0_find) ∈ AW := AW_mem 353 (by decide +kernel) (by decide +kernel)
theorem q354 : (Cond.selects "BraidBook$Books" yX0_find yX0_find) ∈ AW := AW_mem 354 (by decide +kernel) (by decide +kernel)
theorem q355 : (Cond.code yX0_find cX0_find 2 (Option.some (ClassFile.FieldType.object "BraidBook$Entry"))) ∈ AW := AW_mem 355 (by decide +kernel) (by decide +kernel)
theorem q357 : (Cond.methodLink "BraidBook" 56 yX6_requireField) ∈ AW := AW_mem 357 (by decide +kernel) (by decide +kernel)
theorem q358 : (Cond.static yX6_requireField) ∈ AW := AW_mem 358 (by decide +kernel) (by decide +kernel)
theorem q359 : (Cond.code yX6_requireField cX6_requireField 1 (Option.none : Option ClassFile.FieldType)) ∈ AW := AW_mem 359 (by decide +kernel) (by decide +kernel)
theorem q360 : (Cond.methodLink "BraidBook" 193 yX6_isField) ∈ AW := AW_mem 360 (by decide +kernel) (by decide +kernel)
theorem q361 : (Cond.static yX6_isField) ∈ AW := AW_mem 361 (by decide +kernel) (by decide +kernel)
theorem q362 : (Cond.code yX6_isField cX6_isField 1 (Option.some ClassFile.FieldType.boolean)) ∈ AW := AW_mem 362 (by decide +kernel) (by decide +kernel)
theorem q364 : (Cond.classLink "BraidBook" 59 "java/lang/IllegalArgumentException") ∈ AW := AW_mem 364 (by decide +kernel) (by decide +kernel)
theorem q365 : (Cond.instantiable "java/lang/IllegalArgumentException" 6) ∈ AW := AW_mem 365 (by decide +kernel) (by decide +kernel)
theorem q367 : (Cond.selects "java/lang/IllegalArgumentException" ⟨"java/lang/Throwable", "fillInStackTrace", "(I)Ljava/lang/Throwable;"⟩ ⟨"java/lang/Throwable", "fillInStackTrace", "(I)Ljava/lang/Throwable;"⟩) ∈ AW := AW_mem 367 (by decide +kernel) (by decide +kernel)
theorem q368 : (Cond.lays "java/lang/IllegalArgumentException" "java/lang/Throwable" "cause" "Ljava/lang/Throwable;") ∈ AW := AW_mem 368 (by decide +kernel) (by decide +kernel)
theorem q369 : (Cond.lays "java/lang/IllegalArgumentException" "java/lang/Throwable" "stackTrace" "[Ljava/lang/StackTraceElement;") ∈ AW := AW_mem 369 (by decide +kernel) (by decide +kernel)
theorem q370 : (Cond.lays "java/lang/IllegalArgumentException" "java/lang/Throwable" "suppressedExceptions" "Ljava/util/List;") ∈ AW := AW_mem 370 (by decide +kernel) (by decide +kernel)
theorem q371 : (Cond.lays "java/lang/IllegalArgumentException" "java/lang/Throwable" "detailMessage" "Ljava/lang/String;") ∈ AW := AW_mem 371 (by decide +kernel) (by decide +kernel)
theorem q372 : (Cond.lays "java/lang/IllegalArgumentException" "java/lang/Throwable" "backtrace" "Ljava/lang/Object;") ∈ AW := AW_mem 372 (by decide +kernel) (by decide +kernel)
theorem q374 : (Cond.methodLink "BraidBook" 63 ⟨"java/lang/IllegalArgumentException", "<init>", "(Ljava/lang/String;)V"⟩) ∈ AW := AW_mem 374 (by decide +kernel) (by decide +kernel)
theorem q375 : (Cond.instanceMethod ⟨"java/lang/IllegalArgumentException", "<init>", "(Ljava/lang/String;)V"⟩) ∈ AW := AW_mem 375 (by decide +kernel) (by decide +kernel)
theorem q376 : (Cond.code ⟨"java/lang/IllegalArgumentException", "<init>", "(Ljava/lang/String;)V"⟩ prog_13_method_2_code 2 (Option.none : Option ClassFile.FieldType)) ∈ AW := AW_mem 376 (by decide +kernel) (by decide +kernel)
theorem q377 : (Cond.methodLink "java/lang/IllegalArgumentException" 7 ⟨"java/lang/RuntimeException", "<init>", "(Ljava/lang/String;)V"⟩) ∈ AW := AW_mem 377 (by decide +kernel) (by decide +kernel)
theorem q378 : (Cond.lays "java/lang/IllegalArgumentException" "java/lang/Throwable" "depth" "I") ∈ AW := AW_mem 378 (by decide +kernel) (by decide +kernel)
theorem q379 : (Cond.superclass "java/lang/IllegalArgumentException" "java/lang/RuntimeException") ∈ AW := AW_mem 379 (by decide +kernel) (by decide +kernel)
theorem q380 : (Cond.methodLink "BraidBook" 64 yX2_fieldsFor) ∈ AW := AW_mem 380 (by decide +kernel) (by decide +kernel)
theorem q381 : (Cond.instanceMethod yX2_fieldsFor) ∈ AW := AW_mem 381 (by decide +kernel) (by decide +kernel)
theorem q382 : (Cond.selects "BraidBook$Entry" yX2_fieldsFor yX2_fieldsFor) ∈ AW := AW_mem 382 (by decide +kernel) (by decide +kernel)
theorem q383 : (Cond.code yX2_fieldsFor cX2_fieldsFor 3 (Option.some ClassFile.FieldType.int)) ∈ AW := AW_mem 383 (by decide +kernel) (by decide +kernel)
theorem q385 : (Cond.methodLink "BraidBook" 69 yX6_contains) ∈ AW := AW_mem 385 (by decide +kernel) (by decide +kernel)
theorem q386 : (Cond.static yX6_contains) ∈ AW := AW_mem 386 (by decide +kernel) (by decide +kernel)
theorem q387 : (Cond.code yX6_contains cX6_contains 2 (Option.some ClassFile.FieldType.boolean)) ∈ AW := AW_mem 387 (by decide +kernel) (by decide +kernel)
theorem q389 : (Cond.methodLink "BraidBook" 75 yX0_tellValue) ∈ AW := AW_mem 389 (by decide +kernel) (by decide +kernel)
theorem q390 : (Cond.instanceMethod yX0_tellValue) ∈ AW := AW_mem 390 (by decide +kernel) (by decide +kernel)
theorem q391 : (Cond.selects "BraidBook$Books" yX0_tellValue yX0_tellValue) ∈ AW := AW_mem 391 (by decide +kernel) (by decide +kernel)
theorem q392 : (Cond.code yX0_tellValue cX0_tellValue 10 (Option.some ClassFile.FieldType.int)) ∈ AW := AW_mem 392 (by decide +kernel) (by decide +kernel)
theorem q393 : (Cond.methodLink "BraidBook$Books" 53 yX0_find) ∈ AW := AW_mem 393 (by decide +kernel) (by decide +kernel)
theorem q395 : (Cond.methodLink "BraidBook$Books" 60 yX1_countValues) ∈ AW := AW_mem 395 (by decide +kernel) (by decide +kernel)
theorem q396 : (Cond.instanceMethod yX1_countValues) ∈ AW := AW_mem 396 (by decide +kernel) (by decide +kernel)
theorem q397 : (Cond.selects "BraidBook$Copy" yX1_countValues yX1_countValues) ∈ AW := AW_mem 397 (by decide +kernel) (by decide +kernel)
theorem q398 : (Cond.code yX1_countValues cX1_countValues 4 (Option.some ClassFile.FieldType.int)) ∈ AW := AW_mem 398 (by decide +kernel) (by decide +kernel)
theorem q400 : (Cond.static yX6_cell) ∈ AW := AW_mem 400 (by decide +kernel) (by decide +kernel)
theorem q401 : (Cond.code yX6_cell cX6_cell 2 (Option.some ClassFile.FieldType.int)) ∈ AW := AW_mem 401 (by decide +kernel) (by decide +kernel)
theorem q402 : (Cond.methodLink "BraidBook$Books" 63 yX1_dropValues) ∈ AW := AW_mem 402 (by decide +kernel) (by decide +kernel)
theorem q403 : (Cond.instanceMethod yX1_dropValues) ∈ AW := AW_mem 403 (by decide +kernel) (by decide +kernel)
theorem q404 : (Cond.selects "BraidBook$Copy" yX1_dropValues yX1_dropValues) ∈ AW := AW_mem 404 (by decide +kernel) (by decide +kernel)
theorem q405 : (Cond.code yX1_dropValues cX1_dropValues 3 (Option.none : Option ClassFile.FieldType)) ∈ AW := AW_mem 405 (by decide +kernel) (by decide +kernel)
theorem q406 : (Cond.methodLink "BraidBook$Books" 67 yX0_nextAct) ∈ AW := AW_mem 406 (by decide +kernel) (by decide +kernel)
theorem q407 : (Cond.instanceMethod yX0_nextAct) ∈ AW := AW_mem 407 (by decide +kernel) (by decide +kernel)
theorem q408 : (Cond.selects "BraidBook$Books" yX0_nextAct yX0_nextAct) ∈ AW := AW_mem 408 (by decide +kernel) (by decide +kernel)
theorem q409 : (Cond.code yX0_nextAct cX0_nextAct 2 (Option.some ClassFile.FieldType.int)) ∈ AW := AW_mem 409 (by decide +kernel) (by decide +kernel)
theorem q411 : (Cond.methodLink "BraidBookLaw" 80 yL_delete) ∈ AW := AW_mem 411 (by decide +kernel) (by decide +kernel)
theorem q412 : (Cond.static yL_delete) ∈ AW := AW_mem 412 (by decide +kernel) (by decide +kernel)
theorem q413 : (Cond.codeWith yL_delete cL_delete 5 (Option.some ClassFile.FieldType.int) [(0, 10, 13, 13), (0, 10, 17, 15)]) ∈ AW := AW_mem 413 (by decide +kernel) (by decide +kernel)
theorem q414 : (Cond.methodLink "BraidBookLaw" 23 yX6_delete) ∈ AW := AW_mem 414 (by decide +kernel) (by decide +kernel)
theorem q415 : (Cond.instanceMethod yX6_delete) ∈ AW := AW_mem 415 (by decide +kernel) (by decide +kernel)
theorem q416 : (Cond.selects "BraidBook" yX6_delete yX6_delete) ∈ AW := AW_mem 416 (by decide +kernel) (by decide +kernel)
theorem q417 : (Cond.code yX6_delete cX6_delete 4 (Option.some ClassFile.FieldType.int)) ∈ AW := AW_mem 417 (by decide +kernel) (by decide +kernel)
theorem q418 : (Cond.methodLink "BraidBook" 79 yX6_requireOwner) ∈ AW := AW_mem 418 (by decide +kernel) (by decide +kernel)
theorem q419 : (Cond.static yX6_requireOwner) ∈ AW := AW_mem 419 (by decide +kernel) (by decide +kernel)
theorem q420 : (Cond.code yX6_requireOwner cX6_requireOwner 2 (Option.none : Option ClassFile.FieldType)) ∈ AW := AW_mem 420 (by decide +kernel) (by decide +kernel)
theorem q421 : (Cond.methodLink "BraidBook" 198 yX6_personOf) ∈ AW := AW_mem 421 (by decide +kernel) (by decide +kernel)
theorem q423 : (Cond.methodLink "BraidBook" 83 yX2_stateOn) ∈ AW := AW_mem 423 (by decide +kernel) (by decide +kernel)
theorem q424 : (Cond.instanceMethod yX2_stateOn) ∈ AW := AW_mem 424 (by decide +kernel) (by decide +kernel)
theorem q425 : (Cond.selects "BraidBook$Entry" yX2_stateOn yX2_stateOn) ∈ AW := AW_mem 425 (by decide +kernel) (by decide +kernel)
theorem q426 : (Cond.code yX2_stateOn cX2_stateOn 3 (Option.some ClassFile.FieldType.int)) ∈ AW := AW_mem 426 (by decide +kernel) (by decide +kernel)
theorem q427 : (Cond.methodLink "BraidBook$Entry" 47 yX2_isCovered) ∈ AW := AW_mem 427 (by decide +kernel) (by decide +kernel)
theorem q428 : (Cond.instanceMethod yX2_isCovered) ∈ AW := AW_mem 428 (by decide +kernel) (by decide +kernel)
theorem q429 : (Cond.selects "BraidBook$Entry" yX2_isCovered yX2_isCovered) ∈ AW := AW_mem 429 (by decide +kernel) (by decide +kernel)
theorem q430 : (Cond.code yX2_isCovered cX2_isCovered 4 (Option.some ClassFile.FieldType.boolean)) ∈ AW := AW_mem 430 (by decide +kernel) (by decide +kernel)
theorem q431 : (Cond.methodLink "BraidBook$Entry" 55 yJx4a65c_size_8abf5) ∈ AW := AW_mem 431 (by decide +kernel) (by decide +kernel)
theorem q432 : (Cond.instanceMethod yJx4a65c_size_8abf5) ∈ AW := AW_mem 432 (by decide +kernel) (by decide +kernel)
theorem q433 : (Cond.selects "java/util/ArrayList" yJx4a65c_size_8abf5 yJx4a65c_size_8abf5) ∈ AW := AW_mem 433 (by decide +kernel) (by decide +kernel)
theorem q434 : (Cond.code yJx4a65c_size_8abf5 cJx4a65c_size_8abf5 1 (Option.some ClassFile.FieldType.int)) ∈ AW := AW_mem 434 (by decide +kernel) (by decide +kernel)
theorem q435 : (Cond.methodLink "BraidBook$Entry" 58 yJx4a65c_get_915e3) ∈ AW := AW_mem 435 (by decide +kernel) (by decide +kernel)
theorem q436 : (Cond.instanceMethod yJx4a65c_get_915e3) ∈ AW := AW_mem 436 (by decide +kernel) (by decide +kernel)
theorem q437 : (Cond.selects "java/util/ArrayList" yJx4a65c_get_915e3 yJx4a65c_get_915e3) ∈ AW := AW_mem 437 (by decide +kernel) (by decide +kernel)
theorem q438 : (Cond.code yJx4a65c_get_915e3 cJx4a65c_get_915e3 2 (Option.some (ClassFile.FieldType.object "java/lang/Object"))) ∈ AW := AW_mem 438 (by decide +kernel) (by decide +kernel)
theorem q439 : (Cond.methodLink "java/util/ArrayList" 118 yJ15_checkIndex_7cf53) ∈ AW := AW_mem 439 (by decide +kernel) (by decide +kernel)
theorem q440 : (Cond.static yJ15_checkIndex_7cf53) ∈ AW := AW_mem 440 (by decide +kernel) (by decide +kernel)
theorem q441 : (Cond.code yJ15_checkIndex_7cf53 cJ15_checkIndex_7cf53 2 (Option.some ClassFile.FieldType.int)) ∈ AW := AW_mem 441 (by decide +kernel) (by decide +kernel)
theorem q442 : (Cond.methodLink "java/util/Objects" 105 yJ3_checkIndex_8e157) ∈ AW := AW_mem 442 (by decide +kernel) (by decide +kernel)
theorem q443 : (Cond.static yJ3_checkIndex_8e157) ∈ AW := AW_mem 443 (by decide +kernel) (by decide +kernel)
theorem q444 : (Cond.code yJ3_checkIndex_8e157 cJ3_checkIndex_8e157 3 (Option.some ClassFile.FieldType.int)) ∈ AW := AW_mem 444 (by decide +kernel) (by decide +kernel)
theorem q445 : (Cond.methodLink "java/util/ArrayList" 123 yJx4a65c_elementData_915e3) ∈ AW := AW_mem 445 (by decide +kernel) (by decide +kernel)
theorem q446 : (Cond.instanceMethod yJx4a65c_elementData_915e3) ∈ AW := AW_mem 446 (by decide +kernel) (by decide +kernel)
theorem q447 : (Cond.selects "java/util/ArrayList" yJx4a65c_elementData_915e3 yJx4a65c_elementData_915e3) ∈ AW := AW_mem 447 (by decide +kernel) (by decide +kernel)
theorem q448 : (Cond.code yJx4a65c_elementData_915e3 cJx4a65c_elementData_915e3 2 (Option.some (ClassFile.FieldType.object "java/lang/Object"))) ∈ AW := AW_mem 448 (by decide +kernel) (by decide +kernel)
theorem q449 : (Cond.classLink "BraidBook$Entry" 62 "BraidBook$Mark") ∈ AW := AW_mem 449 (by decide +kernel) (by decide +kernel)
theorem q450 : (Cond.methodLink "BraidBook$Entry" 64 yX4_isKnownOn) ∈ AW := AW_mem 450 (by decide +kernel) (by decide +kernel)
theorem q451 : (Cond.instanceMethod yX4_isKnownOn) ∈ AW := AW_mem 451 (by decide +kernel) (by decide +kernel)
theorem q452 : (Cond.selects "BraidBook$Mark" yX4_isKnownOn yX4_isKnownOn) ∈ AW := AW_mem 452 (by decide +kernel) (by decide +kernel)
theorem q453 : (Cond.code yX4_isKnownOn cX4_isKnownOn 2 (Option.some ClassFile.FieldType.boolean)) ∈ AW := AW_mem 453 (by decide +kernel) (by decide +kernel)
theorem q454 : (Cond.methodLink "BraidBook$Entry" 71 yX5_coverAll) ∈ AW := AW_mem 454 (by decide +kernel) (by decide +kernel)
theorem q455 : (Cond.instanceMethod yX5_coverAll) ∈ AW := AW_mem 455 (by decide +kernel) (by decide +kernel)
theorem q456 : (Cond.selects "BraidBook$Numbers" yX5_coverAll yX5_coverAll) ∈ AW := AW_mem 456 (by decide +kernel) (by decide +kernel)
theorem q457 : (Cond.code yX5_coverAll cX5_coverAll 3 (Option.some ClassFile.FieldType.boolean)) ∈ AW := AW_mem 457 (by decide +kernel) (by decide +kernel)
theorem q458 : (Cond.methodLink "BraidBook$Entry" 51 yX1_countAllValues) ∈ AW := AW_mem 458 (by decide +kernel) (by decide +kernel)
theorem q459 : (Cond.instanceMethod yX1_countAllValues) ∈ AW := AW_mem 459 (by decide +kernel) (by decide +kernel)
theorem q460 : (Cond.selects "BraidBook$Copy" yX1_countAllValues yX1_countAllValues) ∈ AW := AW_mem 460 (by decide +kernel) (by decide +kernel)
theorem q461 : (Cond.code yX1_countAllValues cX1_countAllValues 3 (Option.some ClassFile.FieldType.int)) ∈ AW := AW_mem 461 (by decide +kernel) (by decide +kernel)
theorem q463 : (Cond.methodLink "BraidBook" 88 yX0_setMark) ∈ AW := AW_mem 463 (by decide +kernel) (by decide +kernel)
theorem q464 : (Cond.instanceMethod yX0_setMark) ∈ AW := AW_mem 464 (by decide +kernel) (by decide +kernel)
theorem q465 : (Cond.selects "BraidBook$Books" yX0_setMark yX0_setMark) ∈ AW := AW_mem 465 (by decide +kernel) (by decide +kernel)
theorem q466 : (Cond.code yX0_setMark cX0_setMark 4 (Option.some ClassFile.FieldType.int)) ∈ AW := AW_mem 466 (by decide +kernel) (by decide +kernel)
theorem q467 : (Cond.methodLink "BraidBook$Books" 89 yX2_addMark) ∈ AW := AW_mem 467 (by decide +kernel) (by decide +kernel)
theorem q468 : (Cond.instanceMethod yX2_addMark) ∈ AW := AW_mem 468 (by decide +kernel) (by decide +kernel)
theorem q469 : (Cond.selects "BraidBook$Entry" yX2_addMark yX2_addMark) ∈ AW := AW_mem 469 (by decide +kernel) (by decide +kernel)
theorem q470 : (Cond.code yX2_addMark cX2_addMark 3 (Option.none : Option ClassFile.FieldType)) ∈ AW := AW_mem 470 (by decide +kernel) (by decide +kernel)
theorem q471 : (Cond.instantiable "BraidBook$Mark" 2) ∈ AW := AW_mem 471 (by decide +kernel) (by decide +kernel)
theorem q473 : (Cond.instanceMethod yX4_init) ∈ AW := AW_mem 473 (by decide +kernel) (by decide +kernel)
theorem q474 : (Cond.code yX4_init cX4_init 1 (Option.none : Option ClassFile.FieldType)) ∈ AW := AW_mem 474 (by decide +kernel) (by decide +kernel)
theorem q475 : (Cond.methodLink "BraidBook$Mark" 3 ⟨"java/lang/Object", "<init>", "()V"⟩) ∈ AW := AW_mem 475 (by decide +kernel) (by decide +kernel)
theorem q476 : (Cond.classLink "BraidBook$Mark" 9 "BraidBook$Numbers") ∈ AW := AW_mem 476 (by decide +kernel) (by decide +kernel)
theorem q478 : (Cond.fieldLink "BraidBook$Mark" 12 "BraidBook$Mark" "seen" "LBraidBook$Numbers;") ∈ AW := AW_mem 478 (by decide +kernel) (by decide +kernel)
theorem q479 : (Cond.fieldLink "BraidBook$Entry" 67 "BraidBook$Mark" "seen" "LBraidBook$Numbers;") ∈ AW := AW_mem 479 (by decide +kernel) (by decide +kernel)
theorem q480 : (Cond.fieldLink "BraidBook$Mark" 18 "BraidBook$Mark" "knownSince" "[I") ∈ AW := AW_mem 480 (by decide +kernel) (by decide +kernel)
theorem q481 : (Cond.fieldLink "BraidBook$Entry" 77 "BraidBook$Mark" "knownSince" "[I") ∈ AW := AW_mem 481 (by decide +kernel) (by decide +kernel)
theorem q482 : (Cond.laysFinal "BraidBook$Mark" "BraidBook$Mark" "seen" "LBraidBook$Numbers;") ∈ AW := AW_mem 482 (by decide +kernel) (by decide +kernel)
theorem q483 : (Cond.soleField "BraidBook$Mark" "seen") ∈ AW := AW_mem 483 (by decide +kernel) (by decide +kernel)
theorem q484 : (Cond.laysFinal "BraidBook$Mark" "BraidBook$Mark" "knownSince" "[I") ∈ AW := AW_mem 484 (by decide +kernel) (by decide +kernel)
theorem q485 : (Cond.soleField "BraidBook$Mark" "knownSince") ∈ AW := AW_mem 485 (by decide +kernel) (by decide +kernel)
theorem q486 : (Cond.superclass "BraidBook$Mark" "java/lang/Object") ∈ AW := AW_mem 486 (by decide +kernel) (by decide +kernel)
theorem q487 : (Cond.methodLink "BraidBook$Entry" 87 yJx4a65c_add_9ea2d) ∈ AW := AW_mem 487 (by decide +kernel) (by decide +kernel)
theorem q488 : (Cond.instanceMethod yJx4a65c_add_9ea2d) ∈ AW := AW_mem 488 (by decide +kernel) (by decide +kernel)
theorem q489 : (Cond.selects "java/util/ArrayList" yJx4a65c_add_9ea2d yJx4a65c_add_9ea2d) ∈ AW := AW_mem 489 (by decide +kernel) (by decide +kernel)
theorem q490 : (Cond.code yJx4a65c_add_9ea2d cJx4a65c_add_9ea2d 2 (Option.some ClassFile.FieldType.boolean)) ∈ AW := AW_mem 490 (by decide +kernel) (by decide +kernel)
theorem q491 : (Cond.methodLink "java/util/ArrayList" 131 yJx4a65c_add_72be8) ∈ AW := AW_mem 491 (by decide +kernel) (by decide +kernel)
theorem q493 : (Cond.instanceMethod yJx4a65c_add_72be8) ∈ AW := AW_mem 493 (by decide +kernel) (by decide +kernel)
theorem q494 : (Cond.code yJx4a65c_add_72be8 cJx4a65c_add_72be8 4 (Option.none : Option ClassFile.FieldType)) ∈ AW := AW_mem 494 (by decide +kernel) (by decide +kernel)
theorem q495 : (Cond.methodLink "java/util/ArrayList" 129 yJx4a65c_grow_d5877) ∈ AW := AW_mem 495 (by decide +kernel) (by decide +kernel)
theorem q497 : (Cond.instanceMethod yJx4a65c_grow_d5877) ∈ AW := AW_mem 497 (by decide +kernel) (by decide +kernel)
theorem q498 : (Cond.code yJx4a65c_grow_d5877 cJx4a65c_grow_d5877 1 (Option.some (ClassFile.FieldType.array (ClassFile.FieldType.object "java/lang/Object")))) ∈ AW := AW_mem 498 (by decide +kernel) (by decide +kernel)
theorem q499 : (Cond.methodLink "java/util/ArrayList" 69 yJx4a65c_grow_92f84) ∈ AW := AW_mem 499 (by decide +kernel) (by decide +kernel)
theorem q501 : (Cond.instanceMethod yJx4a65c_grow_92f84) ∈ AW := AW_mem 501 (by decide +kernel) (by decide +kernel)
theorem q502 : (Cond.code yJx4a65c_grow_92f84 cJx4a65c_grow_92f84 4 (Option.some (ClassFile.FieldType.array (ClassFile.FieldType.object "java/lang/Object")))) ∈ AW := AW_mem 502 (by decide +kernel) (by decide +kernel)
theorem q503 : (Cond.methodLink "java/util/ArrayList" 73 yJ8_newLength_cabcc) ∈ AW := AW_mem 503 (by decide +kernel) (by decide +kernel)
theorem q504 : (Cond.static yJ8_newLength_cabcc) ∈ AW := AW_mem 504 (by decide +kernel) (by decide +kernel)
theorem q505 : (Cond.code yJ8_newLength_cabcc cJ8_newLength_cabcc 4 (Option.some ClassFile.FieldType.int)) ∈ AW := AW_mem 505 (by decide +kernel) (by decide +kernel)
theorem q506 : (Cond.methodLink "jdk/internal/util/ArraysSupport" 194 yJ9_max_7cf53) ∈ AW := AW_mem 506 (by decide +kernel) (by decide +kernel)
theorem q507 : (Cond.static yJ9_max_7cf53) ∈ AW := AW_mem 507 (by decide +kernel) (by decide +kernel)
theorem q508 : (Cond.code yJ9_max_7cf53 cJ9_max_7cf53 2 (Option.some ClassFile.FieldType.int)) ∈ AW := AW_mem 508 (by decide +kernel) (by decide +kernel)
theorem q509 : (Cond.constant "jdk/internal/util/ArraysSupport" 200 (2147483639 : Int32)) ∈ AW := AW_mem 509 (by decide +kernel) (by decide +kernel)
theorem q510 : (Cond.methodLink "jdk/internal/util/ArraysSupport" 201 yJ8_hugeLength_7cf53) ∈ AW := AW_mem 510 (by decide +kernel) (by decide +kernel)
theorem q511 : (Cond.static yJ8_hugeLength_7cf53) ∈ AW := AW_mem 511 (by decide +kernel) (by decide +kernel)
theorem q512 : (Cond.code yJ8_hugeLength_7cf53 cJ8_hugeLength_7cf53 3 (Option.some ClassFile.FieldType.int)) ∈ AW := AW_mem 512 (by decide +kernel) (by decide +kernel)
theorem q513 : (Cond.methodLink "java/util/ArrayList" 66 yJ7_copyOf_1904c) ∈ AW := AW_mem 513 (by decide +kernel) (by decide +kernel)
theorem q514 : (Cond.static yJ7_copyOf_1904c) ∈ AW := AW_mem 514 (by decide +kernel) (by decide +kernel)
theorem q515 : (Cond.code yJ7_copyOf_1904c cJ7_copyOf_1904c 2 (Option.some (ClassFile.FieldType.array (ClassFile.FieldType.object "java/lang/Object")))) ∈ AW := AW_mem 515 (by decide +kernel) (by decide +kernel)
theorem q516 : (Cond.methodLink "java/util/Arrays" 86 ⟨"java/lang/Object", "getClass", "()Ljava/lang/Class;"⟩) ∈ AW := AW_mem 516 (by decide +kernel) (by decide +kernel)
theorem q517 : (Cond.instanceMethod ⟨"java/lang/Object", "getClass", "()Ljava/lang/Class;"⟩) ∈ AW := AW_mem 517 (by decide +kernel) (by decide +kernel)
theorem q518 : (Cond.sameMethod "java/lang/Object" "java/lang/Object" "getClass" "()Ljava/lang/Class;") ∈ AW := AW_mem 518 (by decide +kernel) (by decide +kernel)
theorem q519 : (Cond.selects "BraidBook" ⟨"java/lang/Object", "getClass", "()Ljava/lang/Class;"⟩ ⟨"java/lang/Object", "getClass", "()Ljava/lang/Class;"⟩) ∈ AW := AW_mem 519 (by decide +kernel) (by decide +kernel)
theorem q520 : (Cond.selects "BraidBook$Books" ⟨"java/lang/Object", "getClass", "()Ljava/lang/Class;"⟩ ⟨"java/lang/Object", "getClass", "()Ljava/lang/Class;"⟩) ∈ AW := AW_mem 520 (by decide +kernel) (by decide +kernel)
theorem q521 : (Cond.selects "BraidBook$Copy" ⟨"java/lang/Object", "getClass", "()Ljava/lang/Class;"⟩ ⟨"java/lang/Object", "getClass", "()Ljava/lang/Class;"⟩) ∈ AW := AW_mem 521 (by decide +kernel) (by decide +kernel)
theorem q522 : (Cond.selects "BraidBook$Entry" ⟨"java/lang/Object", "getClass", "()Ljava/lang/Class;"⟩ ⟨"java/lang/Object", "getClass", "()Ljava/lang/Class;"⟩) ∈ AW := AW_mem 522 (by decide +kernel) (by decide +kernel)
theorem q523 : (Cond.selects "BraidBook$Journal" ⟨"java/lang/Object", "getClass", "()Ljava/lang/Class;"⟩ ⟨"java/lang/Object", "getClass", "()Ljava/lang/Class;"⟩) ∈ AW := AW_mem 523 (by decide +kernel) (by decide +kernel)
theorem q524 : (Cond.selects "BraidBook$Mark" ⟨"java/lang/Object", "getClass", "()Ljava/lang/Class;"⟩ ⟨"java/lang/Object", "getClass", "()Ljava/lang/Class;"⟩) ∈ AW := AW_mem 524 (by decide +kernel) (by decide +kernel)
theorem q525 : (Cond.selects "BraidBook$Numbers" ⟨"java/lang/Object", "getClass", "()Ljava/lang/Class;"⟩ ⟨"java/lang/Object", "getClass", "()Ljava/lang/Class;"⟩) ∈ AW := AW_mem 525 (by decide +kernel) (by decide +kernel)
theorem q526 : (Cond.selects "BraidBookModel" ⟨"java/lang/Object", "getClass", "()Ljava/lang/Class;"⟩ ⟨"java/lang/Object", "getClass", "()Ljava/lang/Class;"⟩) ∈ AW := AW_mem 526 (by decide +kernel) (by decide +kernel)
theorem q527 : (Cond.selects "java/lang/IllegalArgumentException" ⟨"java/lang/Object", "getClass", "()Ljava/lang/Class;"⟩ ⟨"java/lang/Object", "getClass", "()Ljava/lang/Class;"⟩) ∈ AW := AW_mem 527 (by decide +kernel) (by decide +kernel)
theorem q528 : (Cond.selects "java/lang/IllegalStateException" ⟨"java/lang/Object", "getClass", "()Ljava/lang/Class;"⟩ ⟨"java/lang/Object", "getClass", "()Ljava/lang/Class;"⟩) ∈ AW := AW_mem 528 (by decide +kernel) (by decide +kernel)
theorem q529 : (Cond.selects "java/lang/IndexOutOfBoundsException" ⟨"java/lang/Object", "getClass", "()Ljava/lang/Class;"⟩ ⟨"java/lang/Object", "getClass", "()Ljava/lang/Class;"⟩) ∈ AW := AW_mem 529 (by decide +kernel) (by decide +kernel)
theorem q530 : (Cond.selects "java/util/ArrayList" ⟨"java/lang/Object", "getClass", "()Ljava/lang/Class;"⟩ ⟨"java/lang/Object", "getClass", "()Ljava/lang/Class;"⟩) ∈ AW := AW_mem 530 (by decide +kernel) (by decide +kernel)
theorem q531 : (Cond.native ⟨"java/lang/Object", "getClass", "()Ljava/lang/Class;"⟩) ∈ AW := AW_mem 531 (by decide +kernel) (by decide +kernel)
theorem q532 : (Cond.methodLink "java/util/Arrays" 300 yJ7_copyOf_6403c) ∈ AW := AW_mem 532 (by decide +kernel) (by decide +kernel)
theorem q533 : (Cond.static yJ7_copyOf_6403c) ∈ AW := AW_mem 533 (by decide +kernel) (by decide +kernel)
theorem q534 : (Cond.code yJ7_copyOf_6403c cJ7_copyOf_6403c 4 (Option.some (ClassFile.FieldType.array (ClassFile.FieldType.object "java/lang/Object")))) ∈ AW := AW_mem 534 (by decide +kernel) (by decide +kernel)
theorem q535 : (Cond.classLink "java/util/Arrays" 110 "[Ljava/lang/Object;") ∈ AW := AW_mem 535 (by decide +kernel) (by decide +kernel)
theorem q537 : (Cond.classLink "java/util/Arrays" 2 "java/lang/Object") ∈ AW := AW_mem 537 (by decide +kernel) (by decide +kernel)
theorem q538 : (Cond.methodLink "java/util/Arrays" 304 yJ9_min_7cf53) ∈ AW := AW_mem 538 (by decide +kernel) (by decide +kernel)
theorem q539 : (Cond.static yJ9_min_7cf53) ∈ AW := AW_mem 539 (by decide +kernel) (by decide +kernel)
theorem q540 : (Cond.code yJ9_min_7cf53 cJ9_min_7cf53 2 (Option.some ClassFile.FieldType.int)) ∈ AW := AW_mem 540 (by decide +kernel) (by decide +kernel)
theorem q541 : (Cond.methodLink "java/util/Arrays" 150 ⟨"java/lang/System", "arraycopy", "(Ljava/lang/Object;ILjava/lang/Object;II)V"⟩) ∈ AW := AW_mem 541 (by decide +kernel) (by decide +kernel)
theorem q542 : (Cond.static ⟨"java/lang/System", "arraycopy", "(Ljava/lang/Object;ILjava/lang/Object;II)V"⟩) ∈ AW := AW_mem 542 (by decide +kernel) (by decide +kernel)
theorem q543 : (Cond.native ⟨"java/lang/System", "arraycopy", "(Ljava/lang/Object;ILjava/lang/Object;II)V"⟩) ∈ AW := AW_mem 543 (by decide +kernel) (by decide +kernel)
theorem q544 : (Cond.methodLink "java/util/ArrayList" 79 yJ9_max_7cf53) ∈ AW := AW_mem 544 (by decide +kernel) (by decide +kernel)
theorem q545 : (Cond.classLink "java/util/ArrayList" 7 "java/lang/Object") ∈ AW := AW_mem 545 (by decide +kernel) (by decide +kernel)
theorem q546 : (Cond.methodLink "BraidBook$Entry" 92 yX4_set) ∈ AW := AW_mem 546 (by decide +kernel) (by decide +kernel)
theorem q547 : (Cond.instanceMethod yX4_set) ∈ AW := AW_mem 547 (by decide +kernel) (by decide +kernel)
theorem q548 : (Cond.selects "BraidBook$Mark" yX4_set yX4_set) ∈ AW := AW_mem 548 (by decide +kernel) (by decide +kernel)
theorem q549 : (Cond.code yX4_set cX4_set 5 (Option.none : Option ClassFile.FieldType)) ∈ AW := AW_mem 549 (by decide +kernel) (by decide +kernel)
theorem q550 : (Cond.methodLink "BraidBook$Mark" 22 yX5_clear) ∈ AW := AW_mem 550 (by decide +kernel) (by decide +kernel)
theorem q551 : (Cond.instanceMethod yX5_clear) ∈ AW := AW_mem 551 (by decide +kernel) (by decide +kernel)
theorem q552 : (Cond.selects "BraidBook$Numbers" yX5_clear yX5_clear) ∈ AW := AW_mem 552 (by decide +kernel) (by decide +kernel)
theorem q553 : (Cond.code yX5_clear cX5_clear 2 (Option.none : Option ClassFile.FieldType)) ∈ AW := AW_mem 553 (by decide +kernel) (by decide +kernel)
theorem q554 : (Cond.methodLink "BraidBook$Mark" 25 yX5_raiseTo) ∈ AW := AW_mem 554 (by decide +kernel) (by decide +kernel)
theorem q555 : (Cond.instanceMethod yX5_raiseTo) ∈ AW := AW_mem 555 (by decide +kernel) (by decide +kernel)
theorem q556 : (Cond.selects "BraidBook$Numbers" yX5_raiseTo yX5_raiseTo) ∈ AW := AW_mem 556 (by decide +kernel) (by decide +kernel)
theorem q557 : (Cond.code yX5_raiseTo cX5_raiseTo 3 (Option.none : Option ClassFile.FieldType)) ∈ AW := AW_mem 557 (by decide +kernel) (by decide +kernel)
theorem q558 : (Cond.methodLink "BraidBook$Numbers" 15 yJ9_max_7cf53) ∈ AW := AW_mem 558 (by decide +kernel) (by decide +kernel)
theorem q559 : (Cond.methodLink "BraidBook$Books" 93 yX1_countAllValues) ∈ AW := AW_mem 559 (by decide +kernel) (by decide +kernel)
theorem q560 : (Cond.methodLink "BraidBookLaw" 84 yL_share) ∈ AW := AW_mem 560 (by decide +kernel) (by decide +kernel)
theorem q561 : (Cond.static yL_share) ∈ AW := AW_mem 561 (by decide +kernel) (by decide +kernel)
theorem q562 : (Cond.codeWith yL_share cL_share 7 (Option.some ClassFile.FieldType.int) [(0, 14, 17, 13), (0, 14, 21, 21), (0, 14, 25, 15)]) ∈ AW := AW_mem 562 (by decide +kernel) (by decide +kernel)
theorem q563 : (Cond.methodLink "BraidBookLaw" 27 yX6_share) ∈ AW := AW_mem 563 (by decide +kernel) (by decide +kernel)
theorem q564 : (Cond.instanceMethod yX6_share) ∈ AW := AW_mem 564 (by decide +kernel) (by decide +kernel)
theorem q565 : (Cond.selects "BraidBook" yX6_share yX6_share) ∈ AW := AW_mem 565 (by decide +kernel) (by decide +kernel)
theorem q566 : (Cond.code yX6_share cX6_share 6 (Option.some ClassFile.FieldType.int)) ∈ AW := AW_mem 566 (by decide +kernel) (by decide +kernel)
theorem q567 : (Cond.methodLink "BraidBook" 92 yX6_isPerson) ∈ AW := AW_mem 567 (by decide +kernel) (by decide +kernel)
theorem q568 : (Cond.static yX6_isPerson) ∈ AW := AW_mem 568 (by decide +kernel) (by decide +kernel)
theorem q569 : (Cond.code yX6_isPerson cX6_isPerson 1 (Option.some ClassFile.FieldType.boolean)) ∈ AW := AW_mem 569 (by decide +kernel) (by decide +kernel)
theorem q573 : (Cond.methodLink "BraidBook" 108 yX0_shareFields) ∈ AW := AW_mem 573 (by decide +kernel) (by decide +kernel)
theorem q574 : (Cond.instanceMethod yX0_shareFields) ∈ AW := AW_mem 574 (by decide +kernel) (by decide +kernel)
theorem q575 : (Cond.selects "BraidBook$Books" yX0_shareFields yX0_shareFields) ∈ AW := AW_mem 575 (by decide +kernel) (by decide +kernel)
theorem q576 : (Cond.code yX0_shareFields cX0_shareFields 7 (Option.some ClassFile.FieldType.int)) ∈ AW := AW_mem 576 (by decide +kernel) (by decide +kernel)
theorem q578 : (Cond.methodLink "BraidBook$Books" 103 yX1_keepFields) ∈ AW := AW_mem 578 (by decide +kernel) (by decide +kernel)
theorem q579 : (Cond.instanceMethod yX1_keepFields) ∈ AW := AW_mem 579 (by decide +kernel) (by decide +kernel)
theorem q580 : (Cond.selects "BraidBook$Copy" yX1_keepFields yX1_keepFields) ∈ AW := AW_mem 580 (by decide +kernel) (by decide +kernel)
theorem q581 : (Cond.code yX1_keepFields cX1_keepFields 3 (Option.none : Option ClassFile.FieldType)) ∈ AW := AW_mem 581 (by decide +kernel) (by decide +kernel)
theorem q583 : (Cond.methodLink "BraidBookLaw" 87 yL_merge) ∈ AW := AW_mem 583 (by decide +kernel) (by decide +kernel)
theorem q584 : (Cond.static yL_merge) ∈ AW := AW_mem 584 (by decide +kernel) (by decide +kernel)
theorem q585 : (Cond.codeWith yL_merge cL_merge 5 (Option.some ClassFile.FieldType.int) [(0, 10, 13, 13), (0, 10, 17, 21)]) ∈ AW := AW_mem 585 (by decide +kernel) (by decide +kernel)
theorem q586 : (Cond.methodLink "BraidBookLaw" 30 yX6_merge) ∈ AW := AW_mem 586 (by decide +kernel) (by decide +kernel)
theorem q587 : (Cond.instanceMethod yX6_merge) ∈ AW := AW_mem 587 (by decide +kernel) (by decide +kernel)
theorem q588 : (Cond.selects "BraidBook" yX6_merge yX6_merge) ∈ AW := AW_mem 588 (by decide +kernel) (by decide +kernel)
theorem q589 : (Cond.code yX6_merge cX6_merge 3 (Option.some ClassFile.FieldType.int)) ∈ AW := AW_mem 589 (by decide +kernel) (by decide +kernel)
theorem q591 : (Cond.methodLink "BraidBook" 118 yX0_mergeDevices) ∈ AW := AW_mem 591 (by decide +kernel) (by decide +kernel)
theorem q592 : (Cond.instanceMethod yX0_mergeDevices) ∈ AW := AW_mem 592 (by decide +kernel) (by decide +kernel)
theorem q593 : (Cond.selects "BraidBook$Books" yX0_mergeDevices yX0_mergeDevices) ∈ AW := AW_mem 593 (by decide +kernel) (by decide +kernel)
theorem q594 : (Cond.code yX0_mergeDevices cX0_mergeDevices 5 (Option.some ClassFile.FieldType.int)) ∈ AW := AW_mem 594 (by decide +kernel) (by decide +kernel)
theorem q595 : (Cond.methodLink "BraidBook$Books" 106 yX2_mergeOn) ∈ AW := AW_mem 595 (by decide +kernel) (by decide +kernel)
theorem q596 : (Cond.instanceMethod yX2_mergeOn) ∈ AW := AW_mem 596 (by decide +kernel) (by decide +kernel)
theorem q597 : (Cond.selects "BraidBook$Entry" yX2_mergeOn yX2_mergeOn) ∈ AW := AW_mem 597 (by decide +kernel) (by decide +kernel)
theorem q598 : (Cond.code yX2_mergeOn cX2_mergeOn 6 (Option.some ClassFile.FieldType.int)) ∈ AW := AW_mem 598 (by decide +kernel) (by decide +kernel)
theorem q599 : (Cond.methodLink "BraidBook$Entry" 119 yX2_fieldsFor) ∈ AW := AW_mem 599 (by decide +kernel) (by decide +kernel)
theorem q600 : (Cond.methodLink "BraidBook$Entry" 122 yX2_isOutdated) ∈ AW := AW_mem 600 (by decide +kernel) (by decide +kernel)
theorem q601 : (Cond.instanceMethod yX2_isOutdated) ∈ AW := AW_mem 601 (by decide +kernel) (by decide +kernel)
theorem q602 : (Cond.selects "BraidBook$Entry" yX2_isOutdated yX2_isOutdated) ∈ AW := AW_mem 602 (by decide +kernel) (by decide +kernel)
theorem q603 : (Cond.code yX2_isOutdated cX2_isOutdated 5 (Option.some ClassFile.FieldType.boolean)) ∈ AW := AW_mem 603 (by decide +kernel) (by decide +kernel)
theorem q604 : (Cond.methodLink "BraidBook$Entry" 116 yX2_forget) ∈ AW := AW_mem 604 (by decide +kernel) (by decide +kernel)
theorem q605 : (Cond.instanceMethod yX2_forget) ∈ AW := AW_mem 605 (by decide +kernel) (by decide +kernel)
theorem q606 : (Cond.selects "BraidBook$Entry" yX2_forget yX2_forget) ∈ AW := AW_mem 606 (by decide +kernel) (by decide +kernel)
theorem q607 : (Cond.code yX2_forget cX2_forget 5 (Option.none : Option ClassFile.FieldType)) ∈ AW := AW_mem 607 (by decide +kernel) (by decide +kernel)
theorem q608 : (Cond.methodLink "BraidBook$Entry" 102 yX5_raiseTo) ∈ AW := AW_mem 608 (by decide +kernel) (by decide +kernel)
theorem q609 : (Cond.methodLink "BraidBook$Entry" 106 yX1_keepFields) ∈ AW := AW_mem 609 (by decide +kernel) (by decide +kernel)
theorem q610 : (Cond.methodLink "BraidBook$Entry" 126 yX2_braid) ∈ AW := AW_mem 610 (by decide +kernel) (by decide +kernel)
theorem q611 : (Cond.instanceMethod yX2_braid) ∈ AW := AW_mem 611 (by decide +kernel) (by decide +kernel)
theorem q612 : (Cond.selects "BraidBook$Entry" yX2_braid yX2_braid) ∈ AW := AW_mem 612 (by decide +kernel) (by decide +kernel)
theorem q613 : (Cond.code yX2_braid cX2_braid 7 (Option.some ClassFile.FieldType.int)) ∈ AW := AW_mem 613 (by decide +kernel) (by decide +kernel)
theorem q615 : (Cond.methodLink "BraidBook$Entry" 137 yX1_braid) ∈ AW := AW_mem 615 (by decide +kernel) (by decide +kernel)
theorem q616 : (Cond.instanceMethod yX1_braid) ∈ AW := AW_mem 616 (by decide +kernel) (by decide +kernel)
theorem q617 : (Cond.selects "BraidBook$Copy" yX1_braid yX1_braid) ∈ AW := AW_mem 617 (by decide +kernel) (by decide +kernel)
theorem q618 : (Cond.code yX1_braid cX1_braid 7 (Option.some ClassFile.FieldType.int)) ∈ AW := AW_mem 618 (by decide +kernel) (by decide +kernel)
theorem q619 : (Cond.methodLink "BraidBook$Copy" 57 yX1_braidCell) ∈ AW := AW_mem 619 (by decide +kernel) (by decide +kernel)
theorem q620 : (Cond.instanceMethod yX1_braidCell) ∈ AW := AW_mem 620 (by decide +kernel) (by decide +kernel)
theorem q621 : (Cond.selects "BraidBook$Copy" yX1_braidCell yX1_braidCell) ∈ AW := AW_mem 621 (by decide +kernel) (by decide +kernel)
theorem q622 : (Cond.code yX1_braidCell cX1_braidCell 5 (Option.some ClassFile.FieldType.int)) ∈ AW := AW_mem 622 (by decide +kernel) (by decide +kernel)
theorem q623 : (Cond.methodLink "BraidBook$Copy" 61 yJ9_max_7cf53) ∈ AW := AW_mem 623 (by decide +kernel) (by decide +kernel)
theorem q624 : (Cond.methodLink "BraidBook$Entry" 140 yX4_spread) ∈ AW := AW_mem 624 (by decide +kernel) (by decide +kernel)
theorem q625 : (Cond.instanceMethod yX4_spread) ∈ AW := AW_mem 625 (by decide +kernel) (by decide +kernel)
theorem q626 : (Cond.selects "BraidBook$Mark" yX4_spread yX4_spread) ∈ AW := AW_mem 626 (by decide +kernel) (by decide +kernel)
theorem q627 : (Cond.code yX4_spread cX4_spread 4 (Option.none : Option ClassFile.FieldType)) ∈ AW := AW_mem 627 (by decide +kernel) (by decide +kernel)
theorem q628 : (Cond.methodLink "BraidBook$Mark" 29 yX4_isKnownOn) ∈ AW := AW_mem 628 (by decide +kernel) (by decide +kernel)
theorem q629 : (Cond.methodLink "BraidBook$Entry" 130 yX1_exchangeNotes) ∈ AW := AW_mem 629 (by decide +kernel) (by decide +kernel)
theorem q630 : (Cond.instanceMethod yX1_exchangeNotes) ∈ AW := AW_mem 630 (by decide +kernel) (by decide +kernel)
theorem q631 : (Cond.selects "BraidBook$Copy" yX1_exchangeNotes yX1_exchangeNotes) ∈ AW := AW_mem 631 (by decide +kernel) (by decide +kernel)
theorem q632 : (Cond.code yX1_exchangeNotes cX1_exchangeNotes 2 (Option.none : Option ClassFile.FieldType)) ∈ AW := AW_mem 632 (by decide +kernel) (by decide +kernel)
theorem q633 : (Cond.methodLink "BraidBook$Copy" 66 yX5_raiseTo) ∈ AW := AW_mem 633 (by decide +kernel) (by decide +kernel)
theorem q634 : (Cond.methodLink "BraidBookLaw" 90 yL_pass) ∈ AW := AW_mem 634 (by decide +kernel) (by decide +kernel)
theorem q635 : (Cond.static yL_pass) ∈ AW := AW_mem 635 (by decide +kernel) (by decide +kernel)
theorem q636 : (Cond.codeWith yL_pass cL_pass 4 (Option.some ClassFile.FieldType.int) [(0, 9, 12, 21)]) ∈ AW := AW_mem 636 (by decide +kernel) (by decide +kernel)
theorem q637 : (Cond.methodLink "BraidBookLaw" 33 yX6_pass) ∈ AW := AW_mem 637 (by decide +kernel) (by decide +kernel)
theorem q638 : (Cond.instanceMethod yX6_pass) ∈ AW := AW_mem 638 (by decide +kernel) (by decide +kernel)
theorem q639 : (Cond.selects "BraidBook" yX6_pass yX6_pass) ∈ AW := AW_mem 639 (by decide +kernel) (by decide +kernel)
theorem q640 : (Cond.code yX6_pass cX6_pass 2 (Option.some ClassFile.FieldType.int)) ∈ AW := AW_mem 640 (by decide +kernel) (by decide +kernel)
theorem q642 : (Cond.methodLink "BraidBook" 123 yX0_passMonths) ∈ AW := AW_mem 642 (by decide +kernel) (by decide +kernel)
theorem q643 : (Cond.instanceMethod yX0_passMonths) ∈ AW := AW_mem 643 (by decide +kernel) (by decide +kernel)
theorem q644 : (Cond.selects "BraidBook$Books" yX0_passMonths yX0_passMonths) ∈ AW := AW_mem 644 (by decide +kernel) (by decide +kernel)
theorem q645 : (Cond.code yX0_passMonths cX0_passMonths 4 (Option.some ClassFile.FieldType.int)) ∈ AW := AW_mem 645 (by decide +kernel) (by decide +kernel)
theorem q646 : (Cond.methodLink "BraidBook$Books" 110 yX2_forgetWhereOld) ∈ AW := AW_mem 646 (by decide +kernel) (by decide +kernel)
theorem q647 : (Cond.instanceMethod yX2_forgetWhereOld) ∈ AW := AW_mem 647 (by decide +kernel) (by decide +kernel)
theorem q648 : (Cond.selects "BraidBook$Entry" yX2_forgetWhereOld yX2_forgetWhereOld) ∈ AW := AW_mem 648 (by decide +kernel) (by decide +kernel)
theorem q649 : (Cond.code yX2_forgetWhereOld cX2_forgetWhereOld 4 (Option.some ClassFile.FieldType.int)) ∈ AW := AW_mem 649 (by decide +kernel) (by decide +kernel)
theorem q650 : (Cond.methodLink "BraidBook$Entry" 110 yX2_stateOn) ∈ AW := AW_mem 650 (by decide +kernel) (by decide +kernel)
theorem q651 : (Cond.methodLink "BraidBook$Entry" 113 yX2_newestMark) ∈ AW := AW_mem 651 (by decide +kernel) (by decide +kernel)
theorem q652 : (Cond.instanceMethod yX2_newestMark) ∈ AW := AW_mem 652 (by decide +kernel) (by decide +kernel)
theorem q653 : (Cond.selects "BraidBook$Entry" yX2_newestMark yX2_newestMark) ∈ AW := AW_mem 653 (by decide +kernel) (by decide +kernel)
theorem q654 : (Cond.code yX2_newestMark cX2_newestMark 4 (Option.some ClassFile.FieldType.int)) ∈ AW := AW_mem 654 (by decide +kernel) (by decide +kernel)
theorem q655 : (Cond.methodLink "BraidBook$Entry" 80 yJ9_max_7cf53) ∈ AW := AW_mem 655 (by decide +kernel) (by decide +kernel)
theorem q656 : (Cond.methodLink "BraidBookLaw" 93 yL_state) ∈ AW := AW_mem 656 (by decide +kernel) (by decide +kernel)
theorem q657 : (Cond.static yL_state) ∈ AW := AW_mem 657 (by decide +kernel) (by decide +kernel)
theorem q658 : (Cond.codeWith yL_state cL_state 5 (Option.some ClassFile.FieldType.int) [(0, 10, 13, 13)]) ∈ AW := AW_mem 658 (by decide +kernel) (by decide +kernel)
theorem q659 : (Cond.methodLink "BraidBookLaw" 36 yX6_state) ∈ AW := AW_mem 659 (by decide +kernel) (by decide +kernel)
theorem q660 : (Cond.instanceMethod yX6_state) ∈ AW := AW_mem 660 (by decide +kernel) (by decide +kernel)
theorem q661 : (Cond.selects "BraidBook" yX6_state yX6_state) ∈ AW := AW_mem 661 (by decide +kernel) (by decide +kernel)
theorem q662 : (Cond.code yX6_state cX6_state 4 (Option.some ClassFile.FieldType.int)) ∈ AW := AW_mem 662 (by decide +kernel) (by decide +kernel)
theorem q664 : (Cond.methodLink "BraidBookLaw" 96 yL_value) ∈ AW := AW_mem 664 (by decide +kernel) (by decide +kernel)
theorem q665 : (Cond.static yL_value) ∈ AW := AW_mem 665 (by decide +kernel) (by decide +kernel)
theorem q666 : (Cond.codeWith yL_value cL_value 7 (Option.some ClassFile.FieldType.int) [(0, 14, 17, 13)]) ∈ AW := AW_mem 666 (by decide +kernel) (by decide +kernel)
theorem q667 : (Cond.methodLink "BraidBookLaw" 39 yX6_value) ∈ AW := AW_mem 667 (by decide +kernel) (by decide +kernel)
theorem q668 : (Cond.instanceMethod yX6_value) ∈ AW := AW_mem 668 (by decide +kernel) (by decide +kernel)
theorem q669 : (Cond.selects "BraidBook" yX6_value yX6_value) ∈ AW := AW_mem 669 (by decide +kernel) (by decide +kernel)
theorem q670 : (Cond.code yX6_value cX6_value 5 (Option.some ClassFile.FieldType.int)) ∈ AW := AW_mem 670 (by decide +kernel) (by decide +kernel)
theorem q671 : (Cond.methodLink "BraidBook" 132 yX6_valueIn) ∈ AW := AW_mem 671 (by decide +kernel) (by decide +kernel)
theorem q672 : (Cond.static yX6_valueIn) ∈ AW := AW_mem 672 (by decide +kernel) (by decide +kernel)
theorem q673 : (Cond.code yX6_valueIn cX6_valueIn 7 (Option.some ClassFile.FieldType.int)) ∈ AW := AW_mem 673 (by decide +kernel) (by decide +kernel)
theorem q674 : (Cond.methodLink "BraidBook" 147 yX1_countValues) ∈ AW := AW_mem 674 (by decide +kernel) (by decide +kernel)
theorem q676 : (Cond.methodLink "BraidBook" 213 yX1_valueAt) ∈ AW := AW_mem 676 (by decide +kernel) (by decide +kernel)
theorem q677 : (Cond.instanceMethod yX1_valueAt) ∈ AW := AW_mem 677 (by decide +kernel) (by decide +kernel)
theorem q678 : (Cond.selects "BraidBook$Copy" yX1_valueAt yX1_valueAt) ∈ AW := AW_mem 678 (by decide +kernel) (by decide +kernel)
theorem q679 : (Cond.code yX1_valueAt cX1_valueAt 6 (Option.some ClassFile.FieldType.int)) ∈ AW := AW_mem 679 (by decide +kernel) (by decide +kernel)
theorem q680 : (Cond.methodLink "BraidBookLaw" 99 yL_valueAnew) ∈ AW := AW_mem 680 (by decide +kernel) (by decide +kernel)
theorem q681 : (Cond.static yL_valueAnew) ∈ AW := AW_mem 681 (by decide +kernel) (by decide +kernel)
theorem q682 : (Cond.codeWith yL_valueAnew cL_valueAnew 7 (Option.some ClassFile.FieldType.int) [(0, 14, 17, 13)]) ∈ AW := AW_mem 682 (by decide +kernel) (by decide +kernel)
theorem q683 : (Cond.methodLink "BraidBookLaw" 42 yX6_valueAnew) ∈ AW := AW_mem 683 (by decide +kernel) (by decide +kernel)
theorem q684 : (Cond.instanceMethod yX6_valueAnew) ∈ AW := AW_mem 684 (by decide +kernel) (by decide +kernel)
theorem q685 : (Cond.selects "BraidBook" yX6_valueAnew yX6_valueAnew) ∈ AW := AW_mem 685 (by decide +kernel) (by decide +kernel)
theorem q686 : (Cond.code yX6_valueAnew cX6_valueAnew 5 (Option.some ClassFile.FieldType.int)) ∈ AW := AW_mem 686 (by decide +kernel) (by decide +kernel)
theorem q687 : (Cond.methodLink "BraidBook" 136 yX0_clear) ∈ AW := AW_mem 687 (by decide +kernel) (by decide +kernel)
theorem q688 : (Cond.instanceMethod yX0_clear) ∈ AW := AW_mem 688 (by decide +kernel) (by decide +kernel)
theorem q689 : (Cond.selects "BraidBook$Books" yX0_clear yX0_clear) ∈ AW := AW_mem 689 (by decide +kernel) (by decide +kernel)
theorem q690 : (Cond.code yX0_clear cX0_clear 2 (Option.none : Option ClassFile.FieldType)) ∈ AW := AW_mem 690 (by decide +kernel) (by decide +kernel)
theorem q691 : (Cond.methodLink "BraidBook$Books" 29 yX2_clear) ∈ AW := AW_mem 691 (by decide +kernel) (by decide +kernel)
theorem q692 : (Cond.instanceMethod yX2_clear) ∈ AW := AW_mem 692 (by decide +kernel) (by decide +kernel)
theorem q693 : (Cond.selects "BraidBook$Entry" yX2_clear yX2_clear) ∈ AW := AW_mem 693 (by decide +kernel) (by decide +kernel)
theorem q694 : (Cond.code yX2_clear cX2_clear 2 (Option.none : Option ClassFile.FieldType)) ∈ AW := AW_mem 694 (by decide +kernel) (by decide +kernel)
theorem q695 : (Cond.methodLink "BraidBook$Entry" 36 yX1_clear) ∈ AW := AW_mem 695 (by decide +kernel) (by decide +kernel)
theorem q696 : (Cond.instanceMethod yX1_clear) ∈ AW := AW_mem 696 (by decide +kernel) (by decide +kernel)
theorem q697 : (Cond.selects "BraidBook$Copy" yX1_clear yX1_clear) ∈ AW := AW_mem 697 (by decide +kernel) (by decide +kernel)
theorem q698 : (Cond.code yX1_clear cX1_clear 1 (Option.none : Option ClassFile.FieldType)) ∈ AW := AW_mem 698 (by decide +kernel) (by decide +kernel)
theorem q699 : (Cond.methodLink "BraidBook$Copy" 35 yX1_keepFields) ∈ AW := AW_mem 699 (by decide +kernel) (by decide +kernel)
theorem q700 : (Cond.methodLink "BraidBook$Copy" 39 yX5_clear) ∈ AW := AW_mem 700 (by decide +kernel) (by decide +kernel)
theorem q701 : (Cond.methodLink "BraidBook" 139 yX3_repeatOn) ∈ AW := AW_mem 701 (by decide +kernel) (by decide +kernel)
theorem q702 : (Cond.instanceMethod yX3_repeatOn) ∈ AW := AW_mem 702 (by decide +kernel) (by decide +kernel)
theorem q703 : (Cond.selects "BraidBook$Journal" yX3_repeatOn yX3_repeatOn) ∈ AW := AW_mem 703 (by decide +kernel) (by decide +kernel)
theorem q704 : (Cond.code yX3_repeatOn cX3_repeatOn 6 (Option.none : Option ClassFile.FieldType)) ∈ AW := AW_mem 704 (by decide +kernel) (by decide +kernel)
theorem q705 : (Cond.methodLink "BraidBook$Journal" 33 yX0_makeEntry) ∈ AW := AW_mem 705 (by decide +kernel) (by decide +kernel)
theorem q706 : (Cond.methodLink "BraidBook$Journal" 39 yX0_tellValue) ∈ AW := AW_mem 706 (by decide +kernel) (by decide +kernel)
theorem q707 : (Cond.methodLink "BraidBook$Journal" 43 yX0_setMark) ∈ AW := AW_mem 707 (by decide +kernel) (by decide +kernel)
theorem q708 : (Cond.methodLink "BraidBook$Journal" 47 yX0_shareFields) ∈ AW := AW_mem 708 (by decide +kernel) (by decide +kernel)
theorem q709 : (Cond.methodLink "BraidBook$Journal" 51 yX0_mergeDevices) ∈ AW := AW_mem 709 (by decide +kernel) (by decide +kernel)
theorem q710 : (Cond.methodLink "BraidBook$Journal" 54 yX0_passMonths) ∈ AW := AW_mem 710 (by decide +kernel) (by decide +kernel)
theorem q711 : (Cond.methodLink "BraidBookLaw" 102 yL_values) ∈ AW := AW_mem 711 (by decide +kernel) (by decide +kernel)
theorem q712 : (Cond.static yL_values) ∈ AW := AW_mem 712 (by decide +kernel) (by decide +kernel)
theorem q713 : (Cond.codeWith yL_values cL_values 6 (Option.some ClassFile.FieldType.int) [(0, 12, 15, 13)]) ∈ AW := AW_mem 713 (by decide +kernel) (by decide +kernel)
theorem q714 : (Cond.methodLink "BraidBookLaw" 45 yX6_values) ∈ AW := AW_mem 714 (by decide +kernel) (by decide +kernel)
theorem q715 : (Cond.instanceMethod yX6_values) ∈ AW := AW_mem 715 (by decide +kernel) (by decide +kernel)
theorem q716 : (Cond.selects "BraidBook" yX6_values yX6_values) ∈ AW := AW_mem 716 (by decide +kernel) (by decide +kernel)
theorem q717 : (Cond.code yX6_values cX6_values 5 (Option.some ClassFile.FieldType.int)) ∈ AW := AW_mem 717 (by decide +kernel) (by decide +kernel)
theorem q718 : (Cond.methodLink "BraidBookLaw" 106 yL_seen) ∈ AW := AW_mem 718 (by decide +kernel) (by decide +kernel)
theorem q719 : (Cond.static yL_seen) ∈ AW := AW_mem 719 (by decide +kernel) (by decide +kernel)
theorem q720 : (Cond.codeWith yL_seen cL_seen 7 (Option.some ClassFile.FieldType.int) [(0, 14, 17, 13)]) ∈ AW := AW_mem 720 (by decide +kernel) (by decide +kernel)
theorem q721 : (Cond.methodLink "BraidBookLaw" 49 yX6_seen) ∈ AW := AW_mem 721 (by decide +kernel) (by decide +kernel)
theorem q722 : (Cond.instanceMethod yX6_seen) ∈ AW := AW_mem 722 (by decide +kernel) (by decide +kernel)
theorem q723 : (Cond.selects "BraidBook" yX6_seen yX6_seen) ∈ AW := AW_mem 723 (by decide +kernel) (by decide +kernel)
theorem q724 : (Cond.code yX6_seen cX6_seen 6 (Option.some ClassFile.FieldType.int)) ∈ AW := AW_mem 724 (by decide +kernel) (by decide +kernel)
theorem q725 : (Cond.methodLink "BraidBook" 162 yX6_cell) ∈ AW := AW_mem 725 (by decide +kernel) (by decide +kernel)
theorem q726 : (Cond.methodLink "BraidBookLaw" 109 yL_marks) ∈ AW := AW_mem 726 (by decide +kernel) (by decide +kernel)
theorem q727 : (Cond.static yL_marks) ∈ AW := AW_mem 727 (by decide +kernel) (by decide +kernel)
theorem q728 : (Cond.codeWith yL_marks cL_marks 5 (Option.some ClassFile.FieldType.int) [(0, 10, 13, 13)]) ∈ AW := AW_mem 728 (by decide +kernel) (by decide +kernel)
theorem q729 : (Cond.methodLink "BraidBookLaw" 52 yX6_marks) ∈ AW := AW_mem 729 (by decide +kernel) (by decide +kernel)
theorem q730 : (Cond.instanceMethod yX6_marks) ∈ AW := AW_mem 730 (by decide +kernel) (by decide +kernel)
theorem q731 : (Cond.selects "BraidBook" yX6_marks yX6_marks) ∈ AW := AW_mem 731 (by decide +kernel) (by decide +kernel)
theorem q732 : (Cond.code yX6_marks cX6_marks 6 (Option.some ClassFile.FieldType.int)) ∈ AW := AW_mem 732 (by decide +kernel) (by decide +kernel)
theorem q733 : (Cond.methodLink "BraidBook" 165 yX2_countMarks) ∈ AW := AW_mem 733 (by decide +kernel) (by decide +kernel)
theorem q734 : (Cond.instanceMethod yX2_countMarks) ∈ AW := AW_mem 734 (by decide +kernel) (by decide +kernel)
theorem q735 : (Cond.selects "BraidBook$Entry" yX2_countMarks yX2_countMarks) ∈ AW := AW_mem 735 (by decide +kernel) (by decide +kernel)
theorem q736 : (Cond.code yX2_countMarks cX2_countMarks 4 (Option.some ClassFile.FieldType.int)) ∈ AW := AW_mem 736 (by decide +kernel) (by decide +kernel)
theorem q737 : (Cond.methodLink "BraidBook" 171 yX2_newestMark) ∈ AW := AW_mem 737 (by decide +kernel) (by decide +kernel)
theorem q738 : (Cond.methodLink "BraidBook" 174 yJ9_min_7cf53) ∈ AW := AW_mem 738 (by decide +kernel) (by decide +kernel)
theorem q739 : (Cond.methodLink "BraidBookLaw" 112 yL_clashes) ∈ AW := AW_mem 739 (by decide +kernel) (by decide +kernel)
theorem q740 : (Cond.static yL_clashes) ∈ AW := AW_mem 740 (by decide +kernel) (by decide +kernel)
theorem q741 : (Cond.codeWith yL_clashes cL_clashes 4 (Option.some ClassFile.FieldType.int) [(0, 9, 12, 13)]) ∈ AW := AW_mem 741 (by decide +kernel) (by decide +kernel)
theorem q742 : (Cond.methodLink "BraidBookLaw" 55 yX6_clashes) ∈ AW := AW_mem 742 (by decide +kernel) (by decide +kernel)
theorem q743 : (Cond.instanceMethod yX6_clashes) ∈ AW := AW_mem 743 (by decide +kernel) (by decide +kernel)
theorem q744 : (Cond.selects "BraidBook" yX6_clashes yX6_clashes) ∈ AW := AW_mem 744 (by decide +kernel) (by decide +kernel)
theorem q745 : (Cond.code yX6_clashes cX6_clashes 2 (Option.some ClassFile.FieldType.int)) ∈ AW := AW_mem 745 (by decide +kernel) (by decide +kernel)
theorem q746 : (Cond.methodLink "BraidBook" 179 yX0_countClashes) ∈ AW := AW_mem 746 (by decide +kernel) (by decide +kernel)
theorem q747 : (Cond.instanceMethod yX0_countClashes) ∈ AW := AW_mem 747 (by decide +kernel) (by decide +kernel)
theorem q748 : (Cond.selects "BraidBook$Books" yX0_countClashes yX0_countClashes) ∈ AW := AW_mem 748 (by decide +kernel) (by decide +kernel)
theorem q749 : (Cond.code yX0_countClashes cX0_countClashes 4 (Option.some ClassFile.FieldType.int)) ∈ AW := AW_mem 749 (by decide +kernel) (by decide +kernel)
theorem q750 : (Cond.methodLink "BraidBook$Books" 113 yX2_stateOn) ∈ AW := AW_mem 750 (by decide +kernel) (by decide +kernel)
theorem q751 : (Cond.methodLink "BraidBook$Books" 116 yX1_countClashes) ∈ AW := AW_mem 751 (by decide +kernel) (by decide +kernel)
theorem q752 : (Cond.instanceMethod yX1_countClashes) ∈ AW := AW_mem 752 (by decide +kernel) (by decide +kernel)
theorem q753 : (Cond.selects "BraidBook$Copy" yX1_countClashes yX1_countClashes) ∈ AW := AW_mem 753 (by decide +kernel) (by decide +kernel)
theorem q754 : (Cond.code yX1_countClashes cX1_countClashes 3 (Option.some ClassFile.FieldType.int)) ∈ AW := AW_mem 754 (by decide +kernel) (by decide +kernel)
theorem q755 : (Cond.methodLink "BraidBook$Copy" 46 yX1_countValues) ∈ AW := AW_mem 755 (by decide +kernel) (by decide +kernel)
theorem q756 : (Cond.methodLink "BraidBookLaw" 115 yL_agreement) ∈ AW := AW_mem 756 (by decide +kernel) (by decide +kernel)
theorem q757 : (Cond.static yL_agreement) ∈ AW := AW_mem 757 (by decide +kernel) (by decide +kernel)
theorem q758 : (Cond.codeWith yL_agreement cL_agreement 5 (Option.some ClassFile.FieldType.int) [(0, 10, 13, 13)]) ∈ AW := AW_mem 758 (by decide +kernel) (by decide +kernel)
theorem q759 : (Cond.methodLink "BraidBookLaw" 58 yX6_agreement) ∈ AW := AW_mem 759 (by decide +kernel) (by decide +kernel)
theorem q760 : (Cond.instanceMethod yX6_agreement) ∈ AW := AW_mem 760 (by decide +kernel) (by decide +kernel)
theorem q761 : (Cond.selects "BraidBook" yX6_agreement yX6_agreement) ∈ AW := AW_mem 761 (by decide +kernel) (by decide +kernel)
theorem q762 : (Cond.code yX6_agreement cX6_agreement 4 (Option.some ClassFile.FieldType.float)) ∈ AW := AW_mem 762 (by decide +kernel) (by decide +kernel)
theorem q763 : (Cond.methodLink "BraidBook" 182 yX0_countCompared) ∈ AW := AW_mem 763 (by decide +kernel) (by decide +kernel)
theorem q764 : (Cond.instanceMethod yX0_countCompared) ∈ AW := AW_mem 764 (by decide +kernel) (by decide +kernel)
theorem q765 : (Cond.selects "BraidBook$Books" yX0_countCompared yX0_countCompared) ∈ AW := AW_mem 765 (by decide +kernel) (by decide +kernel)
theorem q766 : (Cond.code yX0_countCompared cX0_countCompared 5 (Option.some ClassFile.FieldType.int)) ∈ AW := AW_mem 766 (by decide +kernel) (by decide +kernel)
theorem q767 : (Cond.methodLink "BraidBook$Books" 119 yX2_comparedFields) ∈ AW := AW_mem 767 (by decide +kernel) (by decide +kernel)
theorem q768 : (Cond.instanceMethod yX2_comparedFields) ∈ AW := AW_mem 768 (by decide +kernel) (by decide +kernel)
theorem q769 : (Cond.selects "BraidBook$Entry" yX2_comparedFields yX2_comparedFields) ∈ AW := AW_mem 769 (by decide +kernel) (by decide +kernel)
theorem q770 : (Cond.code yX2_comparedFields cX2_comparedFields 3 (Option.some ClassFile.FieldType.int)) ∈ AW := AW_mem 770 (by decide +kernel) (by decide +kernel)
theorem q771 : (Cond.methodLink "BraidBook$Books" 122 yJ6_bitCount_0f7a4) ∈ AW := AW_mem 771 (by decide +kernel) (by decide +kernel)
theorem q772 : (Cond.static yJ6_bitCount_0f7a4) ∈ AW := AW_mem 772 (by decide +kernel) (by decide +kernel)
theorem q773 : (Cond.code yJ6_bitCount_0f7a4 cJ6_bitCount_0f7a4 1 (Option.some ClassFile.FieldType.int)) ∈ AW := AW_mem 773 (by decide +kernel) (by decide +kernel)
theorem q774 : (Cond.constant "java/lang/Integer" 265 (1431655765 : Int32)) ∈ AW := AW_mem 774 (by decide +kernel) (by decide +kernel)
theorem q775 : (Cond.constant "java/lang/Integer" 266 (858993459 : Int32)) ∈ AW := AW_mem 775 (by decide +kernel) (by decide +kernel)
theorem q776 : (Cond.constant "java/lang/Integer" 267 (252645135 : Int32)) ∈ AW := AW_mem 776 (by decide +kernel) (by decide +kernel)
theorem q777 : (Cond.methodLink "BraidBook" 185 yX0_countSame) ∈ AW := AW_mem 777 (by decide +kernel) (by decide +kernel)
theorem q778 : (Cond.instanceMethod yX0_countSame) ∈ AW := AW_mem 778 (by decide +kernel) (by decide +kernel)
theorem q779 : (Cond.selects "BraidBook$Books" yX0_countSame yX0_countSame) ∈ AW := AW_mem 779 (by decide +kernel) (by decide +kernel)
theorem q780 : (Cond.code yX0_countSame cX0_countSame 5 (Option.some ClassFile.FieldType.int)) ∈ AW := AW_mem 780 (by decide +kernel) (by decide +kernel)
theorem q781 : (Cond.methodLink "BraidBook$Books" 127 yX2_countSame) ∈ AW := AW_mem 781 (by decide +kernel) (by decide +kernel)
theorem q782 : (Cond.instanceMethod yX2_countSame) ∈ AW := AW_mem 782 (by decide +kernel) (by decide +kernel)
theorem q783 : (Cond.selects "BraidBook$Entry" yX2_countSame yX2_countSame) ∈ AW := AW_mem 783 (by decide +kernel) (by decide +kernel)
theorem q784 : (Cond.code yX2_countSame cX2_countSame 6 (Option.some ClassFile.FieldType.int)) ∈ AW := AW_mem 784 (by decide +kernel) (by decide +kernel)
theorem q785 : (Cond.methodLink "BraidBook$Entry" 144 yX2_comparedFields) ∈ AW := AW_mem 785 (by decide +kernel) (by decide +kernel)
theorem q786 : (Cond.methodLink "BraidBook$Entry" 147 yX1_hasSameValues) ∈ AW := AW_mem 786 (by decide +kernel) (by decide +kernel)
theorem q787 : (Cond.instanceMethod yX1_hasSameValues) ∈ AW := AW_mem 787 (by decide +kernel) (by decide +kernel)
theorem q788 : (Cond.selects "BraidBook$Copy" yX1_hasSameValues yX1_hasSameValues) ∈ AW := AW_mem 788 (by decide +kernel) (by decide +kernel)
theorem q789 : (Cond.code yX1_hasSameValues cX1_hasSameValues 4 (Option.some ClassFile.FieldType.boolean)) ∈ AW := AW_mem 789 (by decide +kernel) (by decide +kernel)
theorem q790 : (Cond.classLink "BraidBookLaw" 63 "BraidBookModel") ∈ AW := AW_mem 790 (by decide +kernel) (by decide +kernel)
theorem q791 : (Cond.instantiable "BraidBookModel" 17) ∈ AW := AW_mem 791 (by decide +kernel) (by decide +kernel)
theorem q792 : (Cond.methodLink "BraidBookLaw" 65 yX7_init) ∈ AW := AW_mem 792 (by decide +kernel) (by decide +kernel)
theorem q793 : (Cond.instanceMethod yX7_init) ∈ AW := AW_mem 793 (by decide +kernel) (by decide +kernel)
theorem q794 : (Cond.code yX7_init cX7_init 1 (Option.none : Option ClassFile.FieldType)) ∈ AW := AW_mem 794 (by decide +kernel) (by decide +kernel)
theorem q795 : (Cond.methodLink "BraidBookModel" 1 ⟨"java/lang/Object", "<init>", "()V"⟩) ∈ AW := AW_mem 795 (by decide +kernel) (by decide +kernel)
theorem q796 : (Cond.fieldLink "BraidBookModel" 108 "BraidBookModel" "month" "I") ∈ AW := AW_mem 796 (by decide +kernel) (by decide +kernel)
theorem q797 : (Cond.fieldLink "BraidBookModel" 7 "BraidBookModel" "acts" "[I") ∈ AW := AW_mem 797 (by decide +kernel) (by decide +kernel)
theorem q798 : (Cond.fieldLink "BraidBookModel" 55 "BraidBookModel" "entries" "I") ∈ AW := AW_mem 798 (by decide +kernel) (by decide +kernel)
theorem q799 : (Cond.fieldLink "BraidBookModel" 13 "BraidBookModel" "owner" "[I") ∈ AW := AW_mem 799 (by decide +kernel) (by decide +kernel)
theorem q800 : (Cond.fieldLink "BraidBookModel" 16 "BraidBookModel" "shared" "[I") ∈ AW := AW_mem 800 (by decide +kernel) (by decide +kernel)
theorem q801 : (Cond.fieldLink "BraidBookModel" 19 "BraidBookModel" "knows" "[Z") ∈ AW := AW_mem 801 (by decide +kernel) (by decide +kernel)
theorem q802 : (Cond.fieldLink "BraidBookModel" 23 "BraidBookModel" "act" "[I") ∈ AW := AW_mem 802 (by decide +kernel) (by decide +kernel)
theorem q803 : (Cond.fieldLink "BraidBookModel" 26 "BraidBookModel" "value" "[I") ∈ AW := AW_mem 803 (by decide +kernel) (by decide +kernel)
theorem q804 : (Cond.fieldLink "BraidBookModel" 29 "BraidBookModel" "seen" "[I") ∈ AW := AW_mem 804 (by decide +kernel) (by decide +kernel)
theorem q805 : (Cond.fieldLink "BraidBookModel" 32 "BraidBookModel" "hasNote" "[Z") ∈ AW := AW_mem 805 (by decide +kernel) (by decide +kernel)
theorem q806 : (Cond.fieldLink "BraidBookModel" 35 "BraidBookModel" "note" "[I") ∈ AW := AW_mem 806 (by decide +kernel) (by decide +kernel)
theorem q807 : (Cond.fieldLink "BraidBookModel" 90 "BraidBookModel" "marks" "I") ∈ AW := AW_mem 807 (by decide +kernel) (by decide +kernel)
theorem q808 : (Cond.fieldLink "BraidBookModel" 38 "BraidBookModel" "markOf" "[I") ∈ AW := AW_mem 808 (by decide +kernel) (by decide +kernel)
theorem q809 : (Cond.fieldLink "BraidBookModel" 41 "BraidBookModel" "copy" "[I") ∈ AW := AW_mem 809 (by decide +kernel) (by decide +kernel)
theorem q810 : (Cond.fieldLink "BraidBookModel" 44 "BraidBookModel" "since" "[I") ∈ AW := AW_mem 810 (by decide +kernel) (by decide +kernel)
theorem q811 : (Cond.fieldLink "BraidBookModel" 114 "BraidBookModel" "gained" "I") ∈ AW := AW_mem 811 (by decide +kernel) (by decide +kernel)
theorem q812 : (Cond.fieldLink "BraidBookModel" 47 "BraidBookModel" "thrown" "I") ∈ AW := AW_mem 812 (by decide +kernel) (by decide +kernel)
theorem q813 : (Cond.lays "BraidBookModel" "BraidBookModel" "month" "I") ∈ AW := AW_mem 813 (by decide +kernel) (by decide +kernel)
theorem q814 : (Cond.soleField "BraidBookModel" "month") ∈ AW := AW_mem 814 (by decide +kernel) (by decide +kernel)
theorem q815 : (Cond.laysFinal "BraidBookModel" "BraidBookModel" "acts" "[I") ∈ AW := AW_mem 815 (by decide +kernel) (by decide +kernel)
theorem q816 : (Cond.soleField "BraidBookModel" "acts") ∈ AW := AW_mem 816 (by decide +kernel) (by decide +kernel)
theorem q817 : (Cond.lays "BraidBookModel" "BraidBookModel" "entries" "I") ∈ AW := AW_mem 817 (by decide +kernel) (by decide +kernel)
theorem q818 : (Cond.soleField "BraidBookModel" "entries") ∈ AW := AW_mem 818 (by decide +kernel) (by decide +kernel)
theorem q819 : (Cond.laysFinal "BraidBookModel" "BraidBookModel" "owner" "[I") ∈ AW := AW_mem 819 (by decide +kernel) (by decide +kernel)
theorem q820 : (Cond.soleField "BraidBookModel" "owner") ∈ AW := AW_mem 820 (by decide +kernel) (by decide +kernel)
theorem q821 : (Cond.laysFinal "BraidBookModel" "BraidBookModel" "shared" "[I") ∈ AW := AW_mem 821 (by decide +kernel) (by decide +kernel)
theorem q822 : (Cond.soleField "BraidBookModel" "shared") ∈ AW := AW_mem 822 (by decide +kernel) (by decide +kernel)
theorem q823 : (Cond.laysFinal "BraidBookModel" "BraidBookModel" "knows" "[Z") ∈ AW := AW_mem 823 (by decide +kernel) (by decide +kernel)
theorem q824 : (Cond.soleField "BraidBookModel" "knows") ∈ AW := AW_mem 824 (by decide +kernel) (by decide +kernel)
theorem q825 : (Cond.laysFinal "BraidBookModel" "BraidBookModel" "act" "[I") ∈ AW := AW_mem 825 (by decide +kernel) (by decide +kernel)
theorem q826 : (Cond.soleField "BraidBookModel" "act") ∈ AW := AW_mem 826 (by decide +kernel) (by decide +kernel)
theorem q827 : (Cond.laysFinal "BraidBookModel" "BraidBookModel" "value" "[I") ∈ AW := AW_mem 827 (by decide +kernel) (by decide +kernel)
theorem q828 : (Cond.soleField "BraidBookModel" "value") ∈ AW := AW_mem 828 (by decide +kernel) (by decide +kernel)
theorem q829 : (Cond.laysFinal "BraidBookModel" "BraidBookModel" "seen" "[I") ∈ AW := AW_mem 829 (by decide +kernel) (by decide +kernel)
theorem q830 : (Cond.soleField "BraidBookModel" "seen") ∈ AW := AW_mem 830 (by decide +kernel) (by decide +kernel)
theorem q831 : (Cond.laysFinal "BraidBookModel" "BraidBookModel" "hasNote" "[Z") ∈ AW := AW_mem 831 (by decide +kernel) (by decide +kernel)
theorem q832 : (Cond.soleField "BraidBookModel" "hasNote") ∈ AW := AW_mem 832 (by decide +kernel) (by decide +kernel)
theorem q833 : (Cond.laysFinal "BraidBookModel" "BraidBookModel" "note" "[I") ∈ AW := AW_mem 833 (by decide +kernel) (by decide +kernel)
theorem q834 : (Cond.soleField "BraidBookModel" "note") ∈ AW := AW_mem 834 (by decide +kernel) (by decide +kernel)
theorem q835 : (Cond.lays "BraidBookModel" "BraidBookModel" "marks" "I") ∈ AW := AW_mem 835 (by decide +kernel) (by decide +kernel)
theorem q836 : (Cond.soleField "BraidBookModel" "marks") ∈ AW := AW_mem 836 (by decide +kernel) (by decide +kernel)
theorem q837 : (Cond.laysFinal "BraidBookModel" "BraidBookModel" "markOf" "[I") ∈ AW := AW_mem 837 (by decide +kernel) (by decide +kernel)
theorem q838 : (Cond.soleField "BraidBookModel" "markOf") ∈ AW := AW_mem 838 (by decide +kernel) (by decide +kernel)
theorem q839 : (Cond.laysFinal "BraidBookModel" "BraidBookModel" "copy" "[I") ∈ AW := AW_mem 839 (by decide +kernel) (by decide +kernel)
theorem q840 : (Cond.soleField "BraidBookModel" "copy") ∈ AW := AW_mem 840 (by decide +kernel) (by decide +kernel)
theorem q841 : (Cond.laysFinal "BraidBookModel" "BraidBookModel" "since" "[I") ∈ AW := AW_mem 841 (by decide +kernel) (by decide +kernel)
theorem q842 : (Cond.soleField "BraidBookModel" "since") ∈ AW := AW_mem 842 (by decide +kernel) (by decide +kernel)
theorem q843 : (Cond.lays "BraidBookModel" "BraidBookModel" "gained" "I") ∈ AW := AW_mem 843 (by decide +kernel) (by decide +kernel)
theorem q844 : (Cond.soleField "BraidBookModel" "gained") ∈ AW := AW_mem 844 (by decide +kernel) (by decide +kernel)
theorem q845 : (Cond.lays "BraidBookModel" "BraidBookModel" "thrown" "I") ∈ AW := AW_mem 845 (by decide +kernel) (by decide +kernel)
theorem q846 : (Cond.soleField "BraidBookModel" "thrown") ∈ AW := AW_mem 846 (by decide +kernel) (by decide +kernel)
theorem q847 : (Cond.superclass "BraidBookModel" "java/lang/Object") ∈ AW := AW_mem 847 (by decide +kernel) (by decide +kernel)
theorem q848 : (Cond.arrayClass ClassFile.FieldType.boolean) ∈ AW := AW_mem 848 (by decide +kernel) (by decide +kernel)
theorem q849 : (Cond.methodLink "BraidBookLaw" 72 yX7_thrown) ∈ AW := AW_mem 849 (by decide +kernel) (by decide +kernel)
theorem q850 : (Cond.instanceMethod yX7_thrown) ∈ AW := AW_mem 850 (by decide +kernel) (by decide +kernel)
theorem q851 : (Cond.selects "BraidBookModel" yX7_thrown yX7_thrown) ∈ AW := AW_mem 851 (by decide +kernel) (by decide +kernel)
theorem q852 : (Cond.code yX7_thrown cX7_thrown 1 (Option.some ClassFile.FieldType.int)) ∈ AW := AW_mem 852 (by decide +kernel) (by decide +kernel)
theorem q853 : (Cond.methodLink "BraidBookLaw" 71 yX7_entry) ∈ AW := AW_mem 853 (by decide +kernel) (by decide +kernel)
theorem q854 : (Cond.instanceMethod yX7_entry) ∈ AW := AW_mem 854 (by decide +kernel) (by decide +kernel)
theorem q855 : (Cond.selects "BraidBookModel" yX7_entry yX7_entry) ∈ AW := AW_mem 855 (by decide +kernel) (by decide +kernel)
theorem q856 : (Cond.code yX7_entry cX7_entry 3 (Option.some ClassFile.FieldType.int)) ∈ AW := AW_mem 856 (by decide +kernel) (by decide +kernel)
theorem q857 : (Cond.methodLink "BraidBookModel" 58 yX7_isDevice) ∈ AW := AW_mem 857 (by decide +kernel) (by decide +kernel)
theorem q858 : (Cond.static yX7_isDevice) ∈ AW := AW_mem 858 (by decide +kernel) (by decide +kernel)
theorem q859 : (Cond.code yX7_isDevice cX7_isDevice 1 (Option.some ClassFile.FieldType.boolean)) ∈ AW := AW_mem 859 (by decide +kernel) (by decide +kernel)
theorem q860 : (Cond.methodLink "BraidBookModel" 51 yX7_isIn) ∈ AW := AW_mem 860 (by decide +kernel) (by decide +kernel)
theorem q861 : (Cond.static yX7_isIn) ∈ AW := AW_mem 861 (by decide +kernel) (by decide +kernel)
theorem q862 : (Cond.code yX7_isIn cX7_isIn 3 (Option.some ClassFile.FieldType.boolean)) ∈ AW := AW_mem 862 (by decide +kernel) (by decide +kernel)
theorem q863 : (Cond.methodLink "BraidBookModel" 69 yX7_fails) ∈ AW := AW_mem 863 (by decide +kernel) (by decide +kernel)
theorem q865 : (Cond.instanceMethod yX7_fails) ∈ AW := AW_mem 865 (by decide +kernel) (by decide +kernel)
theorem q866 : (Cond.code yX7_fails cX7_fails 2 (Option.some ClassFile.FieldType.boolean)) ∈ AW := AW_mem 866 (by decide +kernel) (by decide +kernel)
theorem q867 : (Cond.methodLink "BraidBookModel" 65 yX7_pair) ∈ AW := AW_mem 867 (by decide +kernel) (by decide +kernel)
theorem q868 : (Cond.static yX7_pair) ∈ AW := AW_mem 868 (by decide +kernel) (by decide +kernel)
theorem q869 : (Cond.code yX7_pair cX7_pair 2 (Option.some ClassFile.FieldType.int)) ∈ AW := AW_mem 869 (by decide +kernel) (by decide +kernel)
theorem q870 : (Cond.methodLink "BraidBookLaw" 79 yX7_tell) ∈ AW := AW_mem 870 (by decide +kernel) (by decide +kernel)
theorem q871 : (Cond.instanceMethod yX7_tell) ∈ AW := AW_mem 871 (by decide +kernel) (by decide +kernel)
theorem q872 : (Cond.selects "BraidBookModel" yX7_tell yX7_tell) ∈ AW := AW_mem 872 (by decide +kernel) (by decide +kernel)
theorem q873 : (Cond.code yX7_tell cX7_tell 8 (Option.some ClassFile.FieldType.int)) ∈ AW := AW_mem 873 (by decide +kernel) (by decide +kernel)
theorem q874 : (Cond.methodLink "BraidBookModel" 80 yX7_isKnown) ∈ AW := AW_mem 874 (by decide +kernel) (by decide +kernel)
theorem q876 : (Cond.instanceMethod yX7_isKnown) ∈ AW := AW_mem 876 (by decide +kernel) (by decide +kernel)
theorem q877 : (Cond.code yX7_isKnown cX7_isKnown 3 (Option.some ClassFile.FieldType.boolean)) ∈ AW := AW_mem 877 (by decide +kernel) (by decide +kernel)
theorem q878 : (Cond.methodLink "BraidBookModel" 62 yX7_isEntry) ∈ AW := AW_mem 878 (by decide +kernel) (by decide +kernel)
theorem q880 : (Cond.instanceMethod yX7_isEntry) ∈ AW := AW_mem 880 (by decide +kernel) (by decide +kernel)
theorem q881 : (Cond.code yX7_isEntry cX7_isEntry 2 (Option.some ClassFile.FieldType.boolean)) ∈ AW := AW_mem 881 (by decide +kernel) (by decide +kernel)
theorem q882 : (Cond.methodLink "BraidBookModel" 84 yX7_isField) ∈ AW := AW_mem 882 (by decide +kernel) (by decide +kernel)
theorem q883 : (Cond.static yX7_isField) ∈ AW := AW_mem 883 (by decide +kernel) (by decide +kernel)
theorem q884 : (Cond.code yX7_isField cX7_isField 1 (Option.some ClassFile.FieldType.boolean)) ∈ AW := AW_mem 884 (by decide +kernel) (by decide +kernel)
theorem q885 : (Cond.methodLink "BraidBookModel" 87 yX7_may) ∈ AW := AW_mem 885 (by decide +kernel) (by decide +kernel)
theorem q887 : (Cond.instanceMethod yX7_may) ∈ AW := AW_mem 887 (by decide +kernel) (by decide +kernel)
theorem q888 : (Cond.code yX7_may cX7_may 4 (Option.some ClassFile.FieldType.boolean)) ∈ AW := AW_mem 888 (by decide +kernel) (by decide +kernel)
theorem q889 : (Cond.methodLink "BraidBookModel" 76 yX7_count) ∈ AW := AW_mem 889 (by decide +kernel) (by decide +kernel)
theorem q891 : (Cond.instanceMethod yX7_count) ∈ AW := AW_mem 891 (by decide +kernel) (by decide +kernel)
theorem q892 : (Cond.code yX7_count cX7_count 6 (Option.some ClassFile.FieldType.int)) ∈ AW := AW_mem 892 (by decide +kernel) (by decide +kernel)
theorem q893 : (Cond.methodLink "BraidBookModel" 72 yX7_place) ∈ AW := AW_mem 893 (by decide +kernel) (by decide +kernel)
theorem q894 : (Cond.static yX7_place) ∈ AW := AW_mem 894 (by decide +kernel) (by decide +kernel)
theorem q895 : (Cond.code yX7_place cX7_place 4 (Option.some ClassFile.FieldType.int)) ∈ AW := AW_mem 895 (by decide +kernel) (by decide +kernel)
theorem q896 : (Cond.methodLink "BraidBookLaw" 83 yX7_delete) ∈ AW := AW_mem 896 (by decide +kernel) (by decide +kernel)
theorem q897 : (Cond.instanceMethod yX7_delete) ∈ AW := AW_mem 897 (by decide +kernel) (by decide +kernel)
theorem q898 : (Cond.selects "BraidBookModel" yX7_delete yX7_delete) ∈ AW := AW_mem 898 (by decide +kernel) (by decide +kernel)
theorem q899 : (Cond.code yX7_delete cX7_delete 5 (Option.some ClassFile.FieldType.int)) ∈ AW := AW_mem 899 (by decide +kernel) (by decide +kernel)
theorem q900 : (Cond.methodLink "BraidBookModel" 105 yX7_isThere) ∈ AW := AW_mem 900 (by decide +kernel) (by decide +kernel)
theorem q902 : (Cond.instanceMethod yX7_isThere) ∈ AW := AW_mem 902 (by decide +kernel) (by decide +kernel)
theorem q903 : (Cond.code yX7_isThere cX7_isThere 3 (Option.some ClassFile.FieldType.boolean)) ∈ AW := AW_mem 903 (by decide +kernel) (by decide +kernel)
theorem q904 : (Cond.methodLink "BraidBookModel" 99 yX7_all) ∈ AW := AW_mem 904 (by decide +kernel) (by decide +kernel)
theorem q906 : (Cond.instanceMethod yX7_all) ∈ AW := AW_mem 906 (by decide +kernel) (by decide +kernel)
theorem q907 : (Cond.code yX7_all cX7_all 5 (Option.some ClassFile.FieldType.int)) ∈ AW := AW_mem 907 (by decide +kernel) (by decide +kernel)
theorem q908 : (Cond.methodLink "BraidBookModel" 102 yX7_isCovered) ∈ AW := AW_mem 908 (by decide +kernel) (by decide +kernel)
theorem q910 : (Cond.instanceMethod yX7_isCovered) ∈ AW := AW_mem 910 (by decide +kernel) (by decide +kernel)
theorem q911 : (Cond.code yX7_isCovered cX7_isCovered 5 (Option.some ClassFile.FieldType.boolean)) ∈ AW := AW_mem 911 (by decide +kernel) (by decide +kernel)
theorem q912 : (Cond.methodLink "BraidBookModel" 93 yX7_isKnownMark) ∈ AW := AW_mem 912 (by decide +kernel) (by decide +kernel)
theorem q914 : (Cond.instanceMethod yX7_isKnownMark) ∈ AW := AW_mem 914 (by decide +kernel) (by decide +kernel)
theorem q915 : (Cond.code yX7_isKnownMark cX7_isKnownMark 3 (Option.some ClassFile.FieldType.boolean)) ∈ AW := AW_mem 915 (by decide +kernel) (by decide +kernel)
theorem q916 : (Cond.methodLink "BraidBookModel" 96 yX7_covers) ∈ AW := AW_mem 916 (by decide +kernel) (by decide +kernel)
theorem q918 : (Cond.instanceMethod yX7_covers) ∈ AW := AW_mem 918 (by decide +kernel) (by decide +kernel)
theorem q919 : (Cond.code yX7_covers cX7_covers 6 (Option.some ClassFile.FieldType.boolean)) ∈ AW := AW_mem 919 (by decide +kernel) (by decide +kernel)
theorem q920 : (Cond.methodLink "BraidBookLaw" 86 yX7_share) ∈ AW := AW_mem 920 (by decide +kernel) (by decide +kernel)
theorem q921 : (Cond.instanceMethod yX7_share) ∈ AW := AW_mem 921 (by decide +kernel) (by decide +kernel)
theorem q922 : (Cond.selects "BraidBookModel" yX7_share yX7_share) ∈ AW := AW_mem 922 (by decide +kernel) (by decide +kernel)
theorem q923 : (Cond.code yX7_share cX7_share 10 (Option.some ClassFile.FieldType.int)) ∈ AW := AW_mem 923 (by decide +kernel) (by decide +kernel)
theorem q924 : (Cond.methodLink "BraidBookLaw" 89 yX7_merge) ∈ AW := AW_mem 924 (by decide +kernel) (by decide +kernel)
theorem q925 : (Cond.instanceMethod yX7_merge) ∈ AW := AW_mem 925 (by decide +kernel) (by decide +kernel)
theorem q926 : (Cond.selects "BraidBookModel" yX7_merge yX7_merge) ∈ AW := AW_mem 926 (by decide +kernel) (by decide +kernel)
theorem q927 : (Cond.code yX7_merge cX7_merge 8 (Option.some ClassFile.FieldType.int)) ∈ AW := AW_mem 927 (by decide +kernel) (by decide +kernel)
theorem q928 : (Cond.methodLink "BraidBookModel" 124 yX7_areShared) ∈ AW := AW_mem 928 (by decide +kernel) (by decide +kernel)
theorem q930 : (Cond.instanceMethod yX7_areShared) ∈ AW := AW_mem 930 (by decide +kernel) (by decide +kernel)
theorem q931 : (Cond.code yX7_areShared cX7_areShared 6 (Option.some ClassFile.FieldType.boolean)) ∈ AW := AW_mem 931 (by decide +kernel) (by decide +kernel)
theorem q932 : (Cond.methodLink "BraidBookModel" 127 yX7_isOld) ∈ AW := AW_mem 932 (by decide +kernel) (by decide +kernel)
theorem q934 : (Cond.instanceMethod yX7_isOld) ∈ AW := AW_mem 934 (by decide +kernel) (by decide +kernel)
theorem q935 : (Cond.code yX7_isOld cX7_isOld 6 (Option.some ClassFile.FieldType.boolean)) ∈ AW := AW_mem 935 (by decide +kernel) (by decide +kernel)
theorem q936 : (Cond.methodLink "BraidBookModel" 130 yX7_forgets) ∈ AW := AW_mem 936 (by decide +kernel) (by decide +kernel)
theorem q938 : (Cond.instanceMethod yX7_forgets) ∈ AW := AW_mem 938 (by decide +kernel) (by decide +kernel)
theorem q939 : (Cond.code yX7_forgets cX7_forgets 6 (Option.none : Option ClassFile.FieldType)) ∈ AW := AW_mem 939 (by decide +kernel) (by decide +kernel)
theorem q940 : (Cond.methodLink "BraidBookModel" 111 yX7_greater) ∈ AW := AW_mem 940 (by decide +kernel) (by decide +kernel)
theorem q941 : (Cond.static yX7_greater) ∈ AW := AW_mem 941 (by decide +kernel) (by decide +kernel)
theorem q942 : (Cond.code yX7_greater cX7_greater 2 (Option.some ClassFile.FieldType.int)) ∈ AW := AW_mem 942 (by decide +kernel) (by decide +kernel)
theorem q943 : (Cond.methodLink "BraidBookModel" 133 yX7_joins) ∈ AW := AW_mem 943 (by decide +kernel) (by decide +kernel)
theorem q945 : (Cond.instanceMethod yX7_joins) ∈ AW := AW_mem 945 (by decide +kernel) (by decide +kernel)
theorem q946 : (Cond.code yX7_joins cX7_joins 6 (Option.none : Option ClassFile.FieldType)) ∈ AW := AW_mem 946 (by decide +kernel) (by decide +kernel)
theorem q947 : (Cond.methodLink "BraidBookModel" 117 yX7_merges) ∈ AW := AW_mem 947 (by decide +kernel) (by decide +kernel)
theorem q949 : (Cond.instanceMethod yX7_merges) ∈ AW := AW_mem 949 (by decide +kernel) (by decide +kernel)
theorem q950 : (Cond.code yX7_merges cX7_merges 10 (Option.none : Option ClassFile.FieldType)) ∈ AW := AW_mem 950 (by decide +kernel) (by decide +kernel)
theorem q951 : (Cond.methodLink "BraidBookModel" 121 yX7_learns) ∈ AW := AW_mem 951 (by decide +kernel) (by decide +kernel)
theorem q953 : (Cond.instanceMethod yX7_learns) ∈ AW := AW_mem 953 (by decide +kernel) (by decide +kernel)
theorem q954 : (Cond.code yX7_learns cX7_learns 3 (Option.none : Option ClassFile.FieldType)) ∈ AW := AW_mem 954 (by decide +kernel) (by decide +kernel)
theorem q955 : (Cond.methodLink "BraidBookModel" 137 yX7_notes) ∈ AW := AW_mem 955 (by decide +kernel) (by decide +kernel)
theorem q957 : (Cond.instanceMethod yX7_notes) ∈ AW := AW_mem 957 (by decide +kernel) (by decide +kernel)
theorem q958 : (Cond.code yX7_notes cX7_notes 7 (Option.none : Option ClassFile.FieldType)) ∈ AW := AW_mem 958 (by decide +kernel) (by decide +kernel)
theorem q959 : (Cond.methodLink "BraidBookLaw" 92 yX7_pass) ∈ AW := AW_mem 959 (by decide +kernel) (by decide +kernel)
theorem q960 : (Cond.instanceMethod yX7_pass) ∈ AW := AW_mem 960 (by decide +kernel) (by decide +kernel)
theorem q961 : (Cond.selects "BraidBookModel" yX7_pass yX7_pass) ∈ AW := AW_mem 961 (by decide +kernel) (by decide +kernel)
theorem q962 : (Cond.code yX7_pass cX7_pass 5 (Option.some ClassFile.FieldType.int)) ∈ AW := AW_mem 962 (by decide +kernel) (by decide +kernel)
theorem q963 : (Cond.methodLink "BraidBookModel" 140 yX7_isAged) ∈ AW := AW_mem 963 (by decide +kernel) (by decide +kernel)
theorem q965 : (Cond.instanceMethod yX7_isAged) ∈ AW := AW_mem 965 (by decide +kernel) (by decide +kernel)
theorem q966 : (Cond.code yX7_isAged cX7_isAged 6 (Option.some ClassFile.FieldType.boolean)) ∈ AW := AW_mem 966 (by decide +kernel) (by decide +kernel)
theorem q967 : (Cond.methodLink "BraidBookLaw" 95 yX7_state) ∈ AW := AW_mem 967 (by decide +kernel) (by decide +kernel)
theorem q968 : (Cond.instanceMethod yX7_state) ∈ AW := AW_mem 968 (by decide +kernel) (by decide +kernel)
theorem q969 : (Cond.selects "BraidBookModel" yX7_state yX7_state) ∈ AW := AW_mem 969 (by decide +kernel) (by decide +kernel)
theorem q970 : (Cond.code yX7_state cX7_state 4 (Option.some ClassFile.FieldType.int)) ∈ AW := AW_mem 970 (by decide +kernel) (by decide +kernel)
theorem q971 : (Cond.methodLink "BraidBookLaw" 98 yX7_value) ∈ AW := AW_mem 971 (by decide +kernel) (by decide +kernel)
theorem q972 : (Cond.instanceMethod yX7_value) ∈ AW := AW_mem 972 (by decide +kernel) (by decide +kernel)
theorem q973 : (Cond.selects "BraidBookModel" yX7_value yX7_value) ∈ AW := AW_mem 973 (by decide +kernel) (by decide +kernel)
theorem q974 : (Cond.code yX7_value cX7_value 5 (Option.some ClassFile.FieldType.int)) ∈ AW := AW_mem 974 (by decide +kernel) (by decide +kernel)
theorem q975 : (Cond.methodLink "BraidBookModel" 146 yX7_valueOf) ∈ AW := AW_mem 975 (by decide +kernel) (by decide +kernel)
theorem q977 : (Cond.instanceMethod yX7_valueOf) ∈ AW := AW_mem 977 (by decide +kernel) (by decide +kernel)
theorem q978 : (Cond.code yX7_valueOf cX7_valueOf 7 (Option.some ClassFile.FieldType.int)) ∈ AW := AW_mem 978 (by decide +kernel) (by decide +kernel)
theorem q979 : (Cond.methodLink "BraidBookModel" 143 yX7_teller) ∈ AW := AW_mem 979 (by decide +kernel) (by decide +kernel)
theorem q981 : (Cond.instanceMethod yX7_teller) ∈ AW := AW_mem 981 (by decide +kernel) (by decide +kernel)
theorem q982 : (Cond.code yX7_teller cX7_teller 7 (Option.some ClassFile.FieldType.int)) ∈ AW := AW_mem 982 (by decide +kernel) (by decide +kernel)
theorem q983 : (Cond.methodLink "BraidBookLaw" 101 yX7_valueAnew) ∈ AW := AW_mem 983 (by decide +kernel) (by decide +kernel)
theorem q984 : (Cond.instanceMethod yX7_valueAnew) ∈ AW := AW_mem 984 (by decide +kernel) (by decide +kernel)
theorem q985 : (Cond.selects "BraidBookModel" yX7_valueAnew yX7_valueAnew) ∈ AW := AW_mem 985 (by decide +kernel) (by decide +kernel)
theorem q986 : (Cond.code yX7_valueAnew cX7_valueAnew 5 (Option.some ClassFile.FieldType.int)) ∈ AW := AW_mem 986 (by decide +kernel) (by decide +kernel)
theorem q987 : (Cond.methodLink "BraidBookLaw" 105 yX7_values) ∈ AW := AW_mem 987 (by decide +kernel) (by decide +kernel)
theorem q988 : (Cond.instanceMethod yX7_values) ∈ AW := AW_mem 988 (by decide +kernel) (by decide +kernel)
theorem q989 : (Cond.selects "BraidBookModel" yX7_values yX7_values) ∈ AW := AW_mem 989 (by decide +kernel) (by decide +kernel)
theorem q990 : (Cond.code yX7_values cX7_values 5 (Option.some ClassFile.FieldType.int)) ∈ AW := AW_mem 990 (by decide +kernel) (by decide +kernel)
theorem q991 : (Cond.methodLink "BraidBookLaw" 108 yX7_seen) ∈ AW := AW_mem 991 (by decide +kernel) (by decide +kernel)
theorem q992 : (Cond.instanceMethod yX7_seen) ∈ AW := AW_mem 992 (by decide +kernel) (by decide +kernel)
theorem q993 : (Cond.selects "BraidBookModel" yX7_seen yX7_seen) ∈ AW := AW_mem 993 (by decide +kernel) (by decide +kernel)
theorem q994 : (Cond.code yX7_seen cX7_seen 6 (Option.some ClassFile.FieldType.int)) ∈ AW := AW_mem 994 (by decide +kernel) (by decide +kernel)
theorem q995 : (Cond.methodLink "BraidBookLaw" 111 yX7_marks) ∈ AW := AW_mem 995 (by decide +kernel) (by decide +kernel)
theorem q996 : (Cond.instanceMethod yX7_marks) ∈ AW := AW_mem 996 (by decide +kernel) (by decide +kernel)
theorem q997 : (Cond.selects "BraidBookModel" yX7_marks yX7_marks) ∈ AW := AW_mem 997 (by decide +kernel) (by decide +kernel)
theorem q998 : (Cond.code yX7_marks cX7_marks 6 (Option.some ClassFile.FieldType.int)) ∈ AW := AW_mem 998 (by decide +kernel) (by decide +kernel)
theorem q999 : (Cond.methodLink "BraidBookLaw" 114 yX7_clashes) ∈ AW := AW_mem 999 (by decide +kernel) (by decide +kernel)
theorem q1000 : (Cond.instanceMethod yX7_clashes) ∈ AW := AW_mem 1000 (by decide +kernel) (by decide +kernel)
theorem q1001 : (Cond.selects "BraidBookModel" yX7_clashes yX7_clashes) ∈ AW := AW_mem 1001 (by decide +kernel) (by decide +kernel)
theorem q1002 : (Cond.code yX7_clashes cX7_clashes 5 (Option.some ClassFile.FieldType.int)) ∈ AW := AW_mem 1002 (by decide +kernel) (by decide +kernel)
theorem q1003 : (Cond.methodLink "BraidBookLaw" 118 yX7_agreement) ∈ AW := AW_mem 1003 (by decide +kernel) (by decide +kernel)
theorem q1004 : (Cond.instanceMethod yX7_agreement) ∈ AW := AW_mem 1004 (by decide +kernel) (by decide +kernel)
theorem q1005 : (Cond.selects "BraidBookModel" yX7_agreement yX7_agreement) ∈ AW := AW_mem 1005 (by decide +kernel) (by decide +kernel)
theorem q1006 : (Cond.code yX7_agreement cX7_agreement 8 (Option.some ClassFile.FieldType.float)) ∈ AW := AW_mem 1006 (by decide +kernel) (by decide +kernel)
theorem q1007 : (Cond.methodLink "BraidBookModel" 149 yX7_areSame) ∈ AW := AW_mem 1007 (by decide +kernel) (by decide +kernel)
theorem q1009 : (Cond.instanceMethod yX7_areSame) ∈ AW := AW_mem 1009 (by decide +kernel) (by decide +kernel)
theorem q1010 : (Cond.code yX7_areSame cX7_areSame 7 (Option.some ClassFile.FieldType.boolean)) ∈ AW := AW_mem 1010 (by decide +kernel) (by decide +kernel)
theorem q1011 : (Cond.arrayClass ClassFile.FieldType.long) ∈ AW := AW_mem 1011 (by decide +kernel) (by decide +kernel)
theorem q1012 : (Cond.arrayClass ClassFile.FieldType.double) ∈ AW := AW_mem 1012 (by decide +kernel) (by decide +kernel)
theorem q1013 : (Cond.sameMethod "java/lang/Throwable" "java/lang/Throwable" "fillInStackTrace" "(I)Ljava/lang/Throwable;") ∈ AW := AW_mem 1013 (by decide +kernel) (by decide +kernel)
theorem q1028 : (Cond.sameMethod "[Ljava/lang/Object;" "java/lang/Object" "getClass" "()Ljava/lang/Class;") ∈ AW := AW_mem 1028 (by decide +kernel) (by decide +kernel)
theorem q1029 : (Cond.selects "[Ljava/lang/Object;" ⟨"java/lang/Object", "getClass", "()Ljava/lang/Class;"⟩ ⟨"java/lang/Object", "getClass", "()Ljava/lang/Class;"⟩) ∈ AW := AW_mem 1029 (by decide +kernel) (by decide +kernel)
end
section
/-! The whole world of a call: cells by NAMES. ad: where the cell of a name lies; st: what it holds; Ks: the names that live. -/
abbrev KN : Type := Nat × Nat × Nat × Nat
abbrev TC : Type := Nat → ClassId
abbrev tysOf (tc : TC) : List (ClassId × FieldType) := [(tc 0, .int), (tc 1, .boolean), (tc 2, .long), (tc 3, .double), (tc 4, .object "BraidBook$Entry"), (tc 5, .object "BraidBook$Copy"), (tc 6, .object "java/lang/Object")]
def sset {α : Type} (st : KN → α) (k : KN) (e : α) : KN → α := fun k' => if k' = k then e else st k'
theorem sset_eq {α : Type} (st : KN → α) (k : KN) (e : α) : sset st k e k = e := by simp [sset]
theorem sset_ne {α : Type} (st : KN → α) {k k' : KN} (e : α) (h : k' ≠ k) : sset st k e k' = st k' := by simp [sset, h]
def Hw (D : va_G) (ad : KN → Nat) (Ks : List KN) (st : KN → va_E) (H : Heap) : Prop := ∀ k, k ∈ Ks → va_at D vwCl (ad k, st k) H
def Hd (A : Nat → Prop) (ad : KN → Nat) (Ks : List KN) : Prop := Ks.Nodup ∧ (∀ k, k ∈ Ks → ∀ k', k' ∈ Ks → ad k = ad k' → k = k') ∧ ∀ k, k ∈ Ks → A (ad k)
def wA (ad : KN → Nat) (Ks : List KN) (sz : Nat) : Nat → Prop := fun q => (∃ k, k ∈ Ks ∧ q = ad k) ∨ sz ≤ q
abbrev wl (ad : KN → Nat) (Ks : List KN) (st : KN → va_E) : va_W := Ks.map (fun k => (ad k, st k))
theorem wl_get {ad : KN → Nat} {Ks : List KN} {st : KN → va_E} {i : Nat} {q : Nat × va_E} (h : (wl ad Ks st)[i]? = some q) : ∃ k, Ks[i]? = some k ∧ q = (ad k, st k) := by
  rw [List.getElem?_map] at h
  cases hk : Ks[i]? with
  | none => rw [hk] at h; cases h
  | some k => rw [hk] at h; cases h; exact ⟨k, rfl, rfl⟩
theorem wl_at {ad : KN → Nat} {Ks : List KN} {st : KN → va_E} {i : Nat} {k : KN} (h : Ks[i]? = some k) : (wl ad Ks st)[i]? = some (ad k, st k) := by
  rw [List.getElem?_map, h]; rfl
theorem Hw.P {D : va_G} {ad : KN → Nat} {Ks : List KN} {st : KN → va_E} {H : Heap} (h : Hw D ad Ks st H) : va_P D vwCl (wl ad Ks st) H := by
  intro i q hi
  obtain ⟨k, h1, rfl⟩ := wl_get hi
  exact h k (List.mem_of_getElem? h1)
theorem Hw.ofP {D : va_G} {ad : KN → Nat} {Ks : List KN} {st : KN → va_E} {H : Heap} (h : va_P D vwCl (wl ad Ks st) H) : Hw D ad Ks st H := by
  intro k hk
  obtain ⟨i, hi⟩ := List.getElem?_of_mem hk
  exact h i _ (wl_at hi)
theorem nodup_at {Ks : List KN} (hn : Ks.Nodup) {i j : Nat} {k : KN} (h1 : Ks[i]? = some k) (h2 : Ks[j]? = some k) : i = j := by
  have l1 := (List.getElem?_eq_some_iff.mp h1).1
  exact (List.getElem?_inj l1 hn).mp (h1.trans h2.symm)
theorem Hd.Dw {A : Nat → Prop} {ad : KN → Nat} {Ks : List KN} (st : KN → va_E) (h : Hd A ad Ks) : va_D A (wl ad Ks st) := by
  refine ⟨fun i j p q hi hj e => ?_, fun i q hi => ?_⟩
  · obtain ⟨k, h1, rfl⟩ := wl_get hi
    obtain ⟨k', h2, rfl⟩ := wl_get hj
    have := h.2.1 k (List.mem_of_getElem? h1) k' (List.mem_of_getElem? h2) e
    subst this
    exact nodup_at h.1 h1 h2
  · obtain ⟨k, h1, rfl⟩ := wl_get hi
    exact h.2.2 k (List.mem_of_getElem? h1)
theorem Hw.congr {D : va_G} {ad : KN → Nat} {Ks : List KN} {st st' : KN → va_E} {H : Heap} (h : Hw D ad Ks st H) (e : ∀ k, k ∈ Ks → st k = st' k) : Hw D ad Ks st' H := fun k hk => by rw [← e k hk]; exact h k hk
/-- one cell written -/
theorem Hw.set {D : va_G} {ad : KN → Nat} {Ks : List KN} {st : KN → va_E} {H1 : Heap} {i : Nat} {k : KN} {e : va_E} (hn : Ks.Nodup) (hi : Ks[i]? = some k) (h : va_P D vwCl ((wl ad Ks st).set i (ad k, e)) H1) : Hw D ad Ks (sset st k e) H1 := by
  intro k' hk'
  obtain ⟨j, hj⟩ := List.getElem?_of_mem hk'
  have hl : i < (wl ad Ks st).length := (List.getElem?_eq_some_iff.mp (wl_at (ad := ad) (st := st) hi)).1
  by_cases hji : j = i
  · subst hji
    cases hi.symm.trans hj
    rw [sset_eq]
    exact h j _ (List.getElem?_set_self hl)
  · have hkk : k' ≠ k := fun z => hji (nodup_at hn (z ▸ hj) hi)
    rw [sset_ne _ _ hkk]
    exact h j _ (by rw [List.getElem?_set_ne (Ne.symm hji)]; exact wl_at hj)
/-- one cell made -/
theorem Hw.push {D : va_G} {ad : KN → Nat} {Ks : List KN} {st : KN → va_E} {H1 : Heap} {k : KN} {q : Nat} {e : va_E} (hk : k ∉ Ks) (h : va_P D vwCl (wl ad Ks st ++ [(q, e)]) H1) : Hw D (sset ad k q) (k :: Ks) (sset st k e) H1 := by
  intro k' hk'
  by_cases hkk : k' = k
  · subst hkk
    rw [sset_eq, sset_eq]
    have : (wl ad Ks st ++ [(q, e)])[(wl ad Ks st).length]? = some (q, e) := by simp
    exact h _ _ this
  · rw [sset_ne _ _ hkk, sset_ne _ _ hkk]
    have hm : k' ∈ Ks := (List.mem_cons.mp hk').resolve_left hkk
    obtain ⟨j, hj⟩ := List.getElem?_of_mem hm
    have h1 := wl_at (ad := ad) (st := st) hj
    exact h j _ (by rw [List.getElem?_append_left (List.getElem?_eq_some_iff.mp h1).1]; exact h1)
theorem Hd.push {A : Nat → Prop} {ad : KN → Nat} {Ks : List KN} {st : KN → va_E} {k : KN} {q : Nat} {e : va_E} (hd : Hd A ad Ks) (hk : k ∉ Ks) (h : va_D A (wl ad Ks st ++ [(q, e)])) : Hd A (sset ad k q) (k :: Ks) := by
  have hq : (wl ad Ks st ++ [(q, e)])[(wl ad Ks st).length]? = some (q, e) := by simp
  have old : ∀ k', k' ∈ Ks → k' ≠ k ∧ ad k' ≠ q := by
    intro k' hm
    refine ⟨fun z => hk (z ▸ hm), fun z => ?_⟩
    obtain ⟨j, hj⟩ := List.getElem?_of_mem hm
    have h1 := wl_at (ad := ad) (st := st) hj
    have hl := (List.getElem?_eq_some_iff.mp h1).1
    have h2 : (wl ad Ks st ++ [(q, e)])[j]? = some (ad k', st k') := by rw [List.getElem?_append_left hl]; exact h1
    have := h.1 _ _ _ _ h2 hq z
    omega
  refine ⟨List.nodup_cons.mpr ⟨hk, hd.1⟩, fun k1 h1 k2 h2 e12 => ?_, fun k1 h1 => ?_⟩
  · rcases List.mem_cons.mp h1 with g1 | g1 <;> rcases List.mem_cons.mp h2 with g2 | g2
    · rw [g1, g2]
    · rw [g1, sset_eq, sset_ne _ _ (old _ g2).1] at e12
      exact absurd e12.symm (old _ g2).2
    · rw [g2, sset_eq, sset_ne _ _ (old _ g1).1] at e12
      exact absurd e12 (old _ g1).2
    · rw [sset_ne _ _ (old _ g1).1, sset_ne _ _ (old _ g2).1] at e12
      exact hd.2.1 _ g1 _ g2 e12
  · rcases List.mem_cons.mp h1 with rfl | h1
    · rw [sset_eq]; exact h.2 _ _ hq
    · rw [sset_ne _ _ (old _ h1).1]; exact hd.2.2 _ h1
/-- what the tables say beyond the good words, at a state -/
abbrev exI : String := "java/lang/IndexOutOfBoundsException"
abbrev exA : String := "java/lang/IllegalArgumentException"
abbrev exS : String := "java/lang/IllegalStateException"
abbrev ncL : List (String × String) := [(exI, exA), (exI, exS), (exA, exI), (exA, exS), (exS, exI), (exS, exA)]
def NW (s : State) : Prop := (∀ a i x h, Cond.methodLinkNest a i x h ∈ lw_tbl → va_Nw (.methodLinkNest a i x h) s) ∧ (∀ C T, Cond.castable C T ∈ lw_tbl → va_Nw (.castable C T) s) ∧ (∀ x, Cond.declares x ∈ lw_tbl → va_Nw (.declares x) s) ∧ (∀ own k tx, Cond.stringRef own k tx ∈ lw_tbl → ∃ a, vk_R own k tx a s) ∧ (∀ C, Cond.arrayOver (.object C) ∈ lw_tbl → va_AO C s) ∧ (∃ mi, va_Mi "[Ljava/lang/Object;" mi s) ∧ ∀ q, q ∈ ncL → va_Nc q.1 q.2 s
theorem NW.warm {s U : State} (hW : s.WarmedH U.vm) (h : NW s) : NW U := ⟨fun a i x h9 m => va_Nw.warmM hW (h.1 a i x h9 m), fun C T m => va_Nw.warmC hW (h.2.1 C T m), fun x m => va_Nw.warmD hW (h.2.2.1 x m), fun own k tx m => by obtain ⟨a, ha⟩ := h.2.2.2.1 own k tx m; exact ⟨a, vk_R.warm hW ha⟩, fun C m => va_AO.moved hW.alike (h.2.2.2.2.1 C m), by obtain ⟨mi, hm⟩ := h.2.2.2.2.2.1; exact ⟨mi, va_Mi.moved hW.alike hm⟩, fun q hq => va_Nc.moved hW.alike (h.2.2.2.2.2.2 q hq)⟩
/-- the statics that the class's throws and its lists read, and the empty array of lists, at dz -/
def ZS (dz : Nat) (A : Nat → Prop) (U : State) (H : Heap) : Prop := vx_Zq Bundle.tN "UNASSIGNED_STACK" Bundle.steD A U H ∧ vx_Zq Bundle.tN "SUPPRESSED_SENTINEL" Bundle.listD A U H ∧ va_Z "java/util/ArrayList" "DEFAULTCAPACITY_EMPTY_ELEMENTDATA" "[Ljava/lang/Object;" (.ref dz) A U H ∧ va_T (.object "java/lang/Object") dz 0 (fun _ => .null) A U H
theorem ZS.moved {dz : Nat} {A : Nat → Prop} {u U : State} {H : Heap} (hvm : u.vm.Alike U.vm) (h : ZS dz A u H) : ZS dz A U H := ⟨vx_Zq.moved hvm h.1, vx_Zq.moved hvm h.2.1, va_Z.moved hvm h.2.2.1, va_T.moved hvm h.2.2.2⟩
theorem ZS.kept {dz : Nat} {A : Nat → Prop} {U : State} {H H1 : Heap} (h : ZS dz A U H) (hq : ∀ a : Nat, a < H.size → ¬ A a → H1[a]? = H[a]?) : ZS dz A U H1 := ⟨vx_Zq.kept h.1 hq, vx_Zq.kept h.2.1 hq, va_Z.kept h.2.2.1 hq, va_T.kept h.2.2.2 hq⟩
theorem ZS.narrow {dz : Nat} {A B : Nat → Prop} {U : State} {H : Heap} (h : ZS dz A U H) (hAB : ∀ q, B q → A q) : ZS dz B U H := ⟨vx_Zq.narrow h.1 hAB, vx_Zq.narrow h.2.1 hAB, va_Z.narrow h.2.2.1 hAB, va_T.narrow h.2.2.2 hAB⟩
/-- the frame of a method: fixed facts -/
def Cx (p : Program) (s : State) (m : MethodId) (args : Array Value) (meth : Method) (c : Code) (cc : ByteArray) (own : String) (nL : Nat) (D : va_G) (tc : TC) (dz : Nat) (A : Nat → Prop) : Prop :=
  CallFix p m c cc nL s args AW own ∧ meth.locks = false ∧ va_K D vwCl (tysOf tc) s ∧ NW s ∧ ZS dz A s s.heap ∧ ∀ q : Nat, s.heap.size ≤ q → A q
/-- the world at a heap -/
def Sx (D : va_G) (A : Nat → Prop) (ad : KN → Nat) (Ks : List KN) (st : KN → va_E) (s : State) (H : Heap) (locs : List Loc) : Prop := Hw D ad Ks st H ∧ Hd A ad Ks ∧ va_S A s.heap H locs
theorem Sx.congr {D : va_G} {A : Nat → Prop} {ad : KN → Nat} {Ks : List KN} {st st' : KN → va_E} {s : State} {H : Heap} {locs : List Loc} (h : Sx D A ad Ks st s H locs) (e : ∀ k, k ∈ Ks → st k = st' k) : Sx D A ad Ks st' s H locs := ⟨h.1.congr e, h.2⟩
theorem Sx.eq {D : va_G} {A : Nat → Prop} {ad : KN → Nat} {Ks : List KN} {st st' : KN → va_E} {s : State} {H : Heap} {locs : List Loc} (h : Sx D A ad Ks st s H locs) (e : st = st') : Sx D A ad Ks st' s H locs := e ▸ h
/-- a contract's start -/
def PreW (D : va_G) (tc : TC) (dz : Nat) (ad : KN → Nat) (Ks : List KN) (st : KN → va_E) (sz : Nat) (U : State) : Prop :=
  U.heap.size = sz ∧ Hw D ad Ks st U.heap ∧ Hd (fun _ => True) ad Ks ∧ va_K D vwCl (tysOf tc) U ∧ NW U ∧ ZS dz (wA ad Ks sz) U U.heap
theorem PreW.blind {D : va_G} {tc : TC} {dz : Nat} {ad : KN → Nat} {Ks : List KN} {st : KN → va_E} {sz : Nat} {av : List Value} : FrameBlind (va_Pc av (PreW D tc dz ad Ks st sz)) := by
  intro a U g mk q
  obtain ⟨q0, q1, q2, q3, q4, q5, q6⟩ := q
  refine ⟨q0, q1, q2, q3, va_K.moved (u := U) (U := U.calling g mk a) (Vm.Alike.refl U.vm) q4, ⟨fun a1 i x h9 m => va_Nw.same rfl rfl (q5.1 a1 i x h9 m), fun C T m => va_Nw.same rfl rfl (q5.2.1 C T m), fun x m => va_Nw.same rfl rfl (q5.2.2.1 x m), fun own k tx m => ?_, fun C m => va_AO.moved (u := U) (U := U.calling g mk a) (Vm.Alike.refl U.vm) (q5.2.2.2.2.1 C m), ?_, fun q hq => va_Nc.moved (u := U) (U := U.calling g mk a) (Vm.Alike.refl U.vm) (q5.2.2.2.2.2.2 q hq)⟩, ZS.moved (u := U) (U := U.calling g mk a) (Vm.Alike.refl U.vm) q6⟩
  · obtain ⟨a1, ha⟩ := q5.2.2.2.1 own k tx m
    exact ⟨a1, vk_R.same (u := U) (U := U.calling g mk a) rfl ha⟩
  · obtain ⟨mi, hm⟩ := q5.2.2.2.2.2.1
    exact ⟨mi, va_Mi.moved (u := U) (U := U.calling g mk a) (Vm.Alike.refl U.vm) hm⟩
theorem wA_sub {A : Nat → Prop} {ad : KN → Nat} {Ks : List KN} {H0 H : Heap} {locs : List Loc} (hd : Hd A ad Ks) (hS : va_S A H0 H locs) (hA : ∀ q : Nat, H0.size ≤ q → A q) : ∀ q, wA ad Ks H.size q → A q := by
  intro q h
  rcases h with ⟨k, hk, rfl⟩ | h
  · exact hd.2.2 k hk
  · exact hA q (Nat.le_trans hS.1 h)
/-- a callee's start, from the caller's world -/
theorem PreW.of {p : Program} {s : State} {m : MethodId} {args : Array Value} {meth : Method} {c : Code} {cc : ByteArray} {own : String} {nL : Nat} {D : va_G} {tc : TC} {dz : Nat} {A : Nat → Prop} {ad : KN → Nat} {Ks : List KN} {st : KN → va_E} {H : Heap} {locs : List Loc}
    (X : Cx p s m args meth c cc own nL D tc dz A) (h : Sx D A ad Ks st s H locs) (U : State) (hU : U.heap = H) (hW : s.WarmedH U.vm) : PreW D tc dz ad Ks st H.size U := by
  obtain ⟨-, -, hK, hN, hZ, hA⟩ := X
  obtain ⟨h1, h2, h3⟩ := h
  refine ⟨by rw [hU], by rw [hU]; exact h1, ⟨h2.1, h2.2.1, fun _ _ => trivial⟩, va_K.moved hW.alike hK, NW.warm hW hN, ?_⟩
  rw [hU]
  exact ((hZ.kept h3.2.1).narrow (wA_sub h2 h3 hA)).moved hW.alike
/-- a callee's words: its own code first, then AW -/
abbrev wsA (y : MethodName) (cc : ByteArray) (maxL : Nat) (ret : Option FieldType) : List Cond := Cond.code y cc maxL ret :: AW
theorem AW_good {w : Cond} (h : w ∈ AW) : (w.onTables && w.keeps) = true ∨ ∃ ty, w = .arrayClass ty := good_of_word (List.mem_filter.mp h).2
theorem goodIn_A {y : MethodName} {cc : ByteArray} {maxL : Nat} {ret : Option FieldType} (h : Cond.code y cc maxL ret ∈ AW) : GoodIn AW (wsA y cc maxL ret) := fun w hw => by
  rcases List.mem_cons.mp hw with rfl | hw
  · exact ⟨h, AW_good h⟩
  · exact ⟨hw, AW_good hw⟩
/-- what a call needs to know of a method: its code among the words, its class made, its arity -/
def YF (y : MethodName) (cc : ByteArray) (maxL : Nat) (ret : Option FieldType) (n : Nat) : Prop :=
  Cond.code y cc maxL ret ∈ AW ∧ Cond.initialized y.cls ∈ AW ∧ y.cls ≠ "java/lang/invoke/MethodHandle" ∧ y.cls ≠ "java/lang/invoke/VarHandle" ∧ (parseMethodDescriptor y.desc).map (fun d => d.parameters.length) = some n
/-- room: a level for the depth of calls below -/
abbrev rmL (lv mc ms : Nat) : Room := { frames := lv, cells := mc, slots := ms, locals := 32 * lv }
end
section
/-! Rows over the whole world: one for each instruction that reads or writes it, and for calls -/
section ROWS
variable {p : Program} {l : Launch} {e : Env} {R : Room} {s : State} {m : MethodId} {args : Array Value} {below : List Frame} {meth : Method} {c : Code} {H : Heap} {locs : List Loc} {cells slots : Nat} {Q : State → Prop}
variable {cc : ByteArray} {own : String} {nL : Nat} {D : va_G} {tc : TC} {dz : Nat} {A : Nat → Prop} {ad : KN → Nat} {Ks : List KN} {st : KN → va_E} {pc : Nat} {ls : Array Slot} {rest : List Value}
theorem x_get (X : Cx p s m args meth c cc own nL D tc dz A) (h : Sx D A ad Ks st s H locs) {k : KN} (hk : k ∈ Ks) {ci : Nat} {fs : List Value} {C ref : String} {T : u_T} {N index : Nat} (he : st k = .inr (ci, fs)) (hc : vwCl[ci]? = some (C, T, N)) (hin : ∀ w ∈ u_ws C T N, w ∈ AW) (i : Nat) (hi : i < N) (hq : Cond.fieldLink own index ref (T i).2.1 (T i).2.2.1 ∈ AW) (hsame : (T i).1 = ref) {v : Value} (hv : fs[i]? = some v) (hdg : decode cc pc = .ok (.getfield index, 3))
    (kk : W p l e R s m args below meth c H locs cells slots Q (F0 m (pc + 3) ls (v :: rest))) : W p l e R s m args below meth c H locs cells slots Q (F0 m pc ls (.ref (ad k) :: rest)) := by
  obtain ⟨⟨hx, hb, -, hown, hts⟩, -, hK, -⟩ := X
  obtain ⟨j, hj⟩ := List.getElem?_of_mem hk
  have hj2 := wl_at (ad := ad) (st := st) hj
  rw [he] at hj2
  exact va_get hx hb hts hin hown hK h.1.P j hj2 hc i hi (hts _ hq) (by rw [hsame]; exact fun _ h => h) hv hdg kk
theorem x_put (X : Cx p s m args meth c cc own nL D tc dz A) (h : Sx D A ad Ks st s H locs) {k : KN} (hk : k ∈ Ks) {ci : Nat} {fs : List Value} {C ref : String} {T : u_T} {N index : Nat} (he : st k = .inr (ci, fs)) (hc : vwCl[ci]? = some (C, T, N)) (hin : ∀ w ∈ u_ws C T N, w ∈ AW) {ty0 : Nat → FieldType} (hty : ∀ k, k < N → parseFieldDescriptor (T k).2.2.1 = some (ty0 k)) (hnm : ∀ a, a < N → ∀ b, b < N → a ≠ b → (T a).2.1 ≠ (T b).2.1) (i : Nat) (hi : i < N) (hq : Cond.fieldLink own index ref (T i).2.1 (T i).2.2.1 ∈ AW) (hsame : (T i).1 = ref) (hfin : (T i).2.2.2 = false) {v : Value} (hn : narrow (ty0 i) v = v) (hfit : fits (ty0 i) v = true) (hl : i < fs.length) (hdg : decode cc pc = .ok (.putfield index, 3))
    (kk : ∀ (H1 : Heap) (locs1 : List Loc), Sx D A ad Ks (sset st k (.inr (ci, fs.set i v))) s H1 locs1 → W p l e R s m args below meth c H1 locs1 cells slots Q (F0 m (pc + 3) ls rest)) : W p l e R s m args below meth c H locs cells slots Q (F0 m pc ls (v :: .ref (ad k) :: rest)) := by
  obtain ⟨⟨hx, hb, -, hown, hts⟩, -, hK, -⟩ := X
  obtain ⟨j, hj⟩ := List.getElem?_of_mem hk
  have hj2 := wl_at (ad := ad) (st := st) hj
  rw [he] at hj2
  exact va_put hx hb hts hin ty0 hty hnm hown hK h.1.P (h.2.1.Dw st) h.2.2 j hj2 hc i hi (hts _ hq) (by rw [hsame]; exact fun _ h => h) hfin (hty i hi) hn hfit hl hdg (fun H1 locs1 hP _ hS => kk H1 locs1 ⟨Hw.set h.2.1.1 hj hP, h.2.1, hS⟩)
theorem x_putF (X : Cx p s m args meth c cc own nL D tc dz A) (h : Sx D A ad Ks st s H locs) (hin2 : meth.name = "<init>") {k : KN} (hk : k ∈ Ks) {ci : Nat} {fs : List Value} {C ref : String} {T : u_T} {N index : Nat} (he : st k = .inr (ci, fs)) (hc : vwCl[ci]? = some (C, T, N)) (hin : ∀ w ∈ u_ws C T N, w ∈ AW) {ty0 : Nat → FieldType} (hty : ∀ k, k < N → parseFieldDescriptor (T k).2.2.1 = some (ty0 k)) (hnm : ∀ a, a < N → ∀ b, b < N → a ≠ b → (T a).2.1 ≠ (T b).2.1) (i : Nat) (hi : i < N) (hq : Cond.fieldLink own index ref (T i).2.1 (T i).2.2.1 ∈ AW) (hsame : (T i).1 = ref) (hdecl : (T i).1 = own) (hfin : (T i).2.2.2 = true) {v : Value} (hn : narrow (ty0 i) v = v) (hfit : fits (ty0 i) v = true) (hl : i < fs.length) (hdg : decode cc pc = .ok (.putfield index, 3))
    (kk : ∀ (H1 : Heap) (locs1 : List Loc), Sx D A ad Ks (sset st k (.inr (ci, fs.set i v))) s H1 locs1 → W p l e R s m args below meth c H1 locs1 cells slots Q (F0 m (pc + 3) ls rest)) : W p l e R s m args below meth c H locs cells slots Q (F0 m pc ls (v :: .ref (ad k) :: rest)) := by
  obtain ⟨⟨hx, hb, -, hown, hts⟩, -, hK, -⟩ := X
  obtain ⟨j, hj⟩ := List.getElem?_of_mem hk
  have hj2 := wl_at (ad := ad) (st := st) hj
  rw [he] at hj2
  exact va_putF hx hb hts hin ty0 hty hnm hown hK h.1.P (h.2.1.Dw st) h.2.2 j hj2 hc i hi (hts _ hq) (by rw [hsame]; exact fun _ h => h) hfin hin2 hdecl (hty i hi) hn hfit hl hdg (fun H1 locs1 hP _ hS => kk H1 locs1 ⟨Hw.set h.2.1.1 hj hP, h.2.1, hS⟩)
theorem x_iald (X : Cx p s m args meth c cc own nL D tc dz A) (h : Sx D A ad Ks st s H locs) {k : KN} (hk : k ∈ Ks) {n : Nat} {f : Nat → Int32} (he : st k = .inl (tc 0, n, .inl f)) (j : Nat) (hj : j < n) (hn : n < 2 ^ 31) (hdg : decode cc pc = .ok (.iaload, 1))
    (kk : W p l e R s m args below meth c H locs cells slots Q (F0 m (pc + 1) ls (.int (f j) :: rest))) : W p l e R s m args below meth c H locs cells slots Q (F0 m pc ls (.int (nI j) :: .ref (ad k) :: rest)) := by
  obtain ⟨⟨hx, hb, -, hown, hts⟩, -, hK, -⟩ := X
  obtain ⟨i, hi⟩ := List.getElem?_of_mem hk
  have hi2 := wl_at (ad := ad) (st := st) hi
  rw [he] at hi2
  exact va_iald hx hb hK h.1.P i 0 hi2 rfl (vp_in_nI hj hn) hdg (by rw [nI_clamp (Nat.lt_trans hj hn)]; exact kk)
theorem x_iast (X : Cx p s m args meth c cc own nL D tc dz A) (h : Sx D A ad Ks st s H locs) {k : KN} (hk : k ∈ Ks) {n : Nat} {f : Nat → Int32} (he : st k = .inl (tc 0, n, .inl f)) (j : Nat) {x : Int32} (hj : j < n) (hn : n < 2 ^ 31) (hdg : decode cc pc = .ok (.iastore, 1))
    (kk : ∀ (H1 : Heap) (locs1 : List Loc), Sx D A ad Ks (sset st k (.inl (tc 0, n, .inl (upd f j x)))) s H1 locs1 → W p l e R s m args below meth c H1 locs1 cells slots Q (F0 m (pc + 1) ls rest)) : W p l e R s m args below meth c H locs cells slots Q (F0 m pc ls (.int x :: .int (nI j) :: .ref (ad k) :: rest)) := by
  obtain ⟨⟨hx, hb, -, hown, hts⟩, -, hK, -⟩ := X
  obtain ⟨i, hi⟩ := List.getElem?_of_mem hk
  have hi2 := wl_at (ad := ad) (st := st) hi
  rw [he] at hi2
  refine va_iast hx hb hK h.1.P (h.2.1.Dw st) h.2.2 i 0 hi2 rfl (vp_in_nI hj hn) hdg (fun H1 locs1 hP _ hS => ?_)
  rw [nI_clamp (Nat.lt_trans hj hn)] at hP
  exact kk H1 locs1 ⟨Hw.set h.2.1.1 hi hP, h.2.1, hS⟩
theorem x_zald (X : Cx p s m args meth c cc own nL D tc dz A) (h : Sx D A ad Ks st s H locs) {k : KN} (hk : k ∈ Ks) {n : Nat} {f : Nat → Int32} (he : st k = .inl (tc 1, n, .inl f)) (j : Nat) (hj : j < n) (hn : n < 2 ^ 31) (hdg : decode cc pc = .ok (.baload, 1))
    (kk : W p l e R s m args below meth c H locs cells slots Q (F0 m (pc + 1) ls (.int (f j) :: rest))) : W p l e R s m args below meth c H locs cells slots Q (F0 m pc ls (.int (nI j) :: .ref (ad k) :: rest)) := by
  obtain ⟨⟨hx, hb, -, hown, hts⟩, -, hK, -⟩ := X
  obtain ⟨i, hi⟩ := List.getElem?_of_mem hk
  have hi2 := wl_at (ad := ad) (st := st) hi
  rw [he] at hi2
  exact va_zald hx hb hK h.1.P i 1 hi2 rfl (vp_in_nI hj hn) hdg (by rw [nI_clamp (Nat.lt_trans hj hn)]; exact kk)
theorem x_zast (X : Cx p s m args meth c cc own nL D tc dz A) (h : Sx D A ad Ks st s H locs) {k : KN} (hk : k ∈ Ks) {n : Nat} {f : Nat → Int32} (he : st k = .inl (tc 1, n, .inl f)) (j : Nat) {x : Int32} (hx01 : vp_nar .boolean x = x) (hj : j < n) (hn : n < 2 ^ 31) (hdg : decode cc pc = .ok (.bastore, 1))
    (kk : ∀ (H1 : Heap) (locs1 : List Loc), Sx D A ad Ks (sset st k (.inl (tc 1, n, .inl (upd f j x)))) s H1 locs1 → W p l e R s m args below meth c H1 locs1 cells slots Q (F0 m (pc + 1) ls rest)) : W p l e R s m args below meth c H locs cells slots Q (F0 m pc ls (.int x :: .int (nI j) :: .ref (ad k) :: rest)) := by
  obtain ⟨⟨hx, hb, -, hown, hts⟩, -, hK, -⟩ := X
  obtain ⟨i, hi⟩ := List.getElem?_of_mem hk
  have hi2 := wl_at (ad := ad) (st := st) hi
  rw [he] at hi2
  refine va_zast hx hb hK h.1.P (h.2.1.Dw st) h.2.2 i 1 hi2 rfl (vp_in_nI hj hn) hdg (fun H1 locs1 hP _ hS => ?_)
  rw [nI_clamp (Nat.lt_trans hj hn), hx01] at hP
  exact kk H1 locs1 ⟨Hw.set h.2.1.1 hi hP, h.2.1, hS⟩
theorem x_lald (X : Cx p s m args meth c cc own nL D tc dz A) (h : Sx D A ad Ks st s H locs) {k : KN} (hk : k ∈ Ks) {n : Nat} {f : Nat → Int64} (he : st k = .inl (tc 2, n, .inr (.inl f))) (j : Nat) (hj : j < n) (hn : n < 2 ^ 31) (hdg : decode cc pc = .ok (.laload, 1))
    (kk : W p l e R s m args below meth c H locs cells slots Q (F0 m (pc + 1) ls (.long (f j) :: rest))) : W p l e R s m args below meth c H locs cells slots Q (F0 m pc ls (.int (nI j) :: .ref (ad k) :: rest)) := by
  obtain ⟨⟨hx, hb, -, hown, hts⟩, -, hK, -⟩ := X
  obtain ⟨i, hi⟩ := List.getElem?_of_mem hk
  have hi2 := wl_at (ad := ad) (st := st) hi
  rw [he] at hi2
  exact va_lald hx hb hK h.1.P i 2 hi2 rfl (vp_in_nI hj hn) hdg (by rw [nI_clamp (Nat.lt_trans hj hn)]; exact kk)
theorem x_last (X : Cx p s m args meth c cc own nL D tc dz A) (h : Sx D A ad Ks st s H locs) {k : KN} (hk : k ∈ Ks) {n : Nat} {f : Nat → Int64} (he : st k = .inl (tc 2, n, .inr (.inl f))) (j : Nat) {x : Int64} (hj : j < n) (hn : n < 2 ^ 31) (hdg : decode cc pc = .ok (.lastore, 1))
    (kk : ∀ (H1 : Heap) (locs1 : List Loc), Sx D A ad Ks (sset st k (.inl (tc 2, n, .inr (.inl (vp_updL f j x))))) s H1 locs1 → W p l e R s m args below meth c H1 locs1 cells slots Q (F0 m (pc + 1) ls rest)) : W p l e R s m args below meth c H locs cells slots Q (F0 m pc ls (.long x :: .int (nI j) :: .ref (ad k) :: rest)) := by
  obtain ⟨⟨hx, hb, -, hown, hts⟩, -, hK, -⟩ := X
  obtain ⟨i, hi⟩ := List.getElem?_of_mem hk
  have hi2 := wl_at (ad := ad) (st := st) hi
  rw [he] at hi2
  refine va_last hx hb hK h.1.P (h.2.1.Dw st) h.2.2 i 2 hi2 rfl (vp_in_nI hj hn) hdg (fun H1 locs1 hP _ hS => ?_)
  rw [nI_clamp (Nat.lt_trans hj hn)] at hP
  exact kk H1 locs1 ⟨Hw.set h.2.1.1 hi hP, h.2.1, hS⟩
theorem x_dald (X : Cx p s m args meth c cc own nL D tc dz A) (h : Sx D A ad Ks st s H locs) {k : KN} (hk : k ∈ Ks) {n : Nat} {f : Nat → UInt64} (he : st k = .inl (tc 3, n, .inr (.inr (.inr (.inl f))))) (j : Nat) (hj : j < n) (hn : n < 2 ^ 31) (hdg : decode cc pc = .ok (.daload, 1))
    (kk : W p l e R s m args below meth c H locs cells slots Q (F0 m (pc + 1) ls (.double (f j) :: rest))) : W p l e R s m args below meth c H locs cells slots Q (F0 m pc ls (.int (nI j) :: .ref (ad k) :: rest)) := by
  obtain ⟨⟨hx, hb, -, hown, hts⟩, -, hK, -⟩ := X
  obtain ⟨i, hi⟩ := List.getElem?_of_mem hk
  have hi2 := wl_at (ad := ad) (st := st) hi
  rw [he] at hi2
  exact va_dald hx hb hK h.1.P i 3 hi2 rfl (vp_in_nI hj hn) hdg (by rw [nI_clamp (Nat.lt_trans hj hn)]; exact kk)
/-- a reference out of an array of references -/
theorem x_aald (X : Cx p s m args meth c cc own nL D tc dz A) (h : Sx D A ad Ks st s H locs) {k : KN} (hk : k ∈ Ks) {n : Nat} {f : Nat → Option Nat} (t0 : Nat) {cA : ClassId} {C : String} (ht : (tysOf tc)[t0]? = some (cA, .object C)) (he : st k = .inl (cA, n, .inr (.inr (.inr (.inr f))))) (j : Nat) (hj : j < n) (hn : n < 2 ^ 31) {a : Nat} (ha : f j = some a) (hdg : decode cc pc = .ok (.aaload, 1))
    (kk : W p l e R s m args below meth c H locs cells slots Q (F0 m (pc + 1) ls (.ref a :: rest))) : W p l e R s m args below meth c H locs cells slots Q (F0 m pc ls (.int (nI j) :: .ref (ad k) :: rest)) := by
  obtain ⟨⟨hx, hb, -, hown, hts⟩, -, hK, -⟩ := X
  obtain ⟨i, hi⟩ := List.getElem?_of_mem hk
  have hi2 := wl_at (ad := ad) (st := st) hi
  rw [he] at hi2
  exact va_aldq hx hb hK h.1.P i t0 hi2 ht (vp_in_nI hj hn) hdg (by rw [nI_clamp (Nat.lt_trans hj hn), ha]; exact kk)
theorem x_alen (X : Cx p s m args meth c cc own nL D tc dz A) (h : Sx D A ad Ks st s H locs) {k : KN} (hk : k ∈ Ks) {cA : ClassId} {x : vp_A} (t0 : Nat) {ty : FieldType} (ht : (tysOf tc)[t0]? = some (cA, ty)) (he : st k = .inl (cA, x)) (hdg : decode cc pc = .ok (.arraylength, 1))
    (kk : W p l e R s m args below meth c H locs cells slots Q (F0 m (pc + 1) ls (.int (nI x.1) :: rest))) : W p l e R s m args below meth c H locs cells slots Q (F0 m pc ls (.ref (ad k) :: rest)) := by
  obtain ⟨⟨hx, hb, -, hown, hts⟩, -, hK, -⟩ := X
  obtain ⟨i, hi⟩ := List.getElem?_of_mem hk
  have hi2 := wl_at (ad := ad) (st := st) hi
  rw [he] at hi2
  exact va_alen hx hb hK h.1.P i t0 hi2 ht (v := nI x.1) rfl hdg kk
/-- Math.max, Math.min -/
theorem x_max (X : Cx p s m args meth c cc own nL D tc dz A) (hsize : ls.size = nL) {index : Nat} (hq : Cond.methodLink own index Lib.Math.max.name ∈ AW) (hf : 1 ≤ R.frames) (hl : (rest.map fun v => v.category).sum + 13 ≤ R.locals) (hc : cells ≤ R.cells) (hs : slots ≤ R.slots) {x y : Int32} (hdg : decode cc pc = .ok (.invokestatic index, 3))
    (kk : W p l e R s m args below meth c H locs cells slots Q (F0 m (pc + 3) ls (.int (if x < y then y else x) :: rest))) : W p l e R s m args below meth c H locs cells slots Q (F0 m pc ls (.int y :: .int x :: rest)) := by
  obtain ⟨⟨hx, hb, hml, hown, hts⟩, -⟩ := X
  exact va_mmax hx hb (hml.trans hsize.symm) hown (hts _ hq) (hts _ q507) (hts _ q47) (hts _ q508) hf hl hc hs hdg kk
theorem x_min (X : Cx p s m args meth c cc own nL D tc dz A) (hsize : ls.size = nL) {index : Nat} (hq : Cond.methodLink own index Lib.Math.min.name ∈ AW) (hf : 1 ≤ R.frames) (hl : (rest.map fun v => v.category).sum + 13 ≤ R.locals) (hc : cells ≤ R.cells) (hs : slots ≤ R.slots) {x y : Int32} (hdg : decode cc pc = .ok (.invokestatic index, 3))
    (kk : W p l e R s m args below meth c H locs cells slots Q (F0 m (pc + 3) ls (.int (if y < x then y else x) :: rest))) : W p l e R s m args below meth c H locs cells slots Q (F0 m pc ls (.int y :: .int x :: rest)) := by
  obtain ⟨⟨hx, hb, hml, hown, hts⟩, -⟩ := X
  exact va_mmin hx hb (hml.trans hsize.symm) hown (hts _ hq) (hts _ q539) (hts _ q47) (hts _ q540) hf hl hc hs hdg kk
end ROWS
end
section
/-! Contracts over the whole world; their starts, ends and calls -/
theorem Hw.onto {D : va_G} {ad : KN → Nat} {Ks : List KN} {st : KN → va_E} {H : Heap} {t : State} (h : Hw D ad Ks st H) (ht : t.heap = H) : Hw D ad Ks st t.heap := by rw [ht]; exact h
/-- returns the int r, the world is st' then; the same names at the same places -/
def MI (l : Launch) (y : MethodName) (cc : ByteArray) (maxL : Nat) (ret : Option FieldType) (lv : Nat) (D : va_G) (tc : TC) (dz : Nat) (ad : KN → Nat) (Ks : List KN) (st : KN → va_E) (av : List Value) (r : Int32) (st' : KN → va_E) : Prop :=
  ∀ sz : Nat, Met l y (wsA y cc maxL ret) (rmL lv 0 0) (va_Pc av (PreW D tc dz ad Ks st sz)) (va_Qi (fun (x : Int32) (_ : Unit) => x = r) (fun _ t => Hw D ad Ks st' t.heap) (wA ad Ks sz)) 0 0 (wA ad Ks sz)
def MF (l : Launch) (y : MethodName) (cc : ByteArray) (maxL : Nat) (ret : Option FieldType) (lv : Nat) (D : va_G) (tc : TC) (dz : Nat) (ad : KN → Nat) (Ks : List KN) (st : KN → va_E) (av : List Value) (r : UInt32) (st' : KN → va_E) : Prop :=
  ∀ sz : Nat, Met l y (wsA y cc maxL ret) (rmL lv 0 0) (va_Pc av (PreW D tc dz ad Ks st sz)) (va_Qf (fun (x : UInt32) (_ : Unit) => x = r) (fun _ t => Hw D ad Ks st' t.heap) (wA ad Ks sz)) 0 0 (wA ad Ks sz)
def MV (l : Launch) (y : MethodName) (cc : ByteArray) (maxL : Nat) (lv : Nat) (D : va_G) (tc : TC) (dz : Nat) (ad : KN → Nat) (Ks : List KN) (st : KN → va_E) (av : List Value) (st' : KN → va_E) : Prop :=
  ∀ sz : Nat, Met l y (wsA y cc maxL none) (rmL lv 0 0) (va_Pc av (PreW D tc dz ad Ks st sz)) (va_Qv (fun (_ : Unit) => True) (fun _ t => Hw D ad Ks st' t.heap) (wA ad Ks sz)) 0 0 (wA ad Ks sz)
def MR (l : Launch) (y : MethodName) (cc : ByteArray) (maxL : Nat) (ret : Option FieldType) (lv : Nat) (D : va_G) (tc : TC) (dz : Nat) (ad : KN → Nat) (Ks : List KN) (st : KN → va_E) (av : List Value) (r : Option Nat) (st' : KN → va_E) : Prop :=
  ∀ sz : Nat, Met l y (wsA y cc maxL ret) (rmL lv 0 0) (va_Pc av (PreW D tc dz ad Ks st sz)) (va_Qq (fun (x : Option Nat) (_ : Unit) => x = r) (fun _ t => Hw D ad Ks st' t.heap) (wA ad Ks sz)) 0 0 (wA ad Ks sz)
/-- a method's body, from its entry -/
theorem x_ofW {l : Launch} {y : MethodName} {cc : ByteArray} {maxL : Nat} {ret : Option FieldType} {rm : Room} {av : List Value} {Qc : Array Value → State → Outcome → State → Prop} {mc ms : Nat} {free : Addr → Prop} {D : va_G} {tc : TC} {dz : Nat} {ad : KN → Nat} {Ks : List KN} {st : KN → va_E} {sz : Nat}
    (hy : plainName y.cls = true) (hav : (lg_sl av).length ≤ maxL)
    (body : ∀ (p : Program) (e : Env) (s : State) (m : MethodId) (below : List Frame) (meth : Method) (c : Code) (ls : Array Slot), Cx p s m av.toArray meth c cc y.cls maxL D tc dz (wA ad Ks s.heap.size) → meth.sig.returnType = ret → meth.name = y.name → s.heap.size = sz → Sx D (wA ad Ks s.heap.size) ad Ks st s s.heap [] → lv_has ls maxL (lv_args 0 av) →
      W p l e rm s m av.toArray below meth c s.heap [] 0 0 (MQ below Qc av.toArray s mc ms free) (F0 m 0 ls [])) :
    Met l y (wsA y cc maxL ret) rm (va_Pc av (PreW D tc dz ad Ks st sz)) Qc mc ms free := by
  refine Met.ofW (cc := cc) (maxL := maxL) (ret := ret) hy rfl ?_
  intro p e s m args below meth c s₁ B hml hv
  obtain ⟨rfl, hsz, hw, hd, hK, hN, hZ⟩ := hv
  have hts0 := atoms_spec (ws := wsA y cc maxL ret) B.pre
  have hown : s.vm.findClass y.cls = some m.cls := findClass_of_methodNamed B.named
  subst hsz
  rw [lg_entry_eq]
  refine body p e s m below meth c _ ⟨⟨B.exec, B.bytes, hml, hown, fun w hw => hts0 w (List.mem_cons_of_mem _ hw)⟩, B.notSynchronized, hK, hN, hZ, fun q h => Or.inr h⟩ B.returns (name_of_methodNamed B.named B.method).1 rfl ⟨hw, ⟨hd.1, hd.2.1, fun k hk => Or.inl ⟨k, hk, rfl⟩⟩, va_S.rf⟩ (lv_entry av hav)
section CALLS
variable {p : Program} {l : Launch} {e : Env} {R : Room} {s : State} {m : MethodId} {args : Array Value} {below : List Frame} {meth : Method} {c : Code} {H : Heap} {locs : List Loc} {cells slots : Nat} {Q : State → Prop}
variable {cc : ByteArray} {own : String} {nL : Nat} {D : va_G} {tc : TC} {dz : Nat} {A : Nat → Prop} {ad : KN → Nat} {Ks : List KN} {st : KN → va_E} {pc : Nat} {ls : Array Slot} {rest : List Value}
theorem x_iret (X : Cx p s m args meth c cc own nL D tc dz (wA ad Ks s.heap.size)) {st' : KN → va_E} (h : Sx D (wA ad Ks s.heap.size) ad Ks st s H locs) {ty : FieldType} (hr : meth.sig.returnType = some ty) {v r : Int32} (hn : narrow ty (.int v) = .int v) (hv : v = r) (he : ∀ k, k ∈ Ks → st k = st' k) (hdg : decode cc pc = .ok (.ireturn, 1)) :
    W p l e R s m args below meth c H locs cells slots (MQ below (va_Qi (fun (x : Int32) (_ : Unit) => x = r) (fun _ t => Hw D ad Ks st' t.heap) (wA ad Ks s.heap.size)) args s cells slots (wA ad Ks s.heap.size)) (F0 m pc ls [.int v]) := by
  obtain ⟨⟨hx, hb, -, hown, hts⟩, hlocks, -⟩ := X
  exact W.zret hx hb hr hn (fun t ht hW => ⟨⟨v, (), rfl, hv, (h.1.congr he).onto ht⟩, h.2.2.F ht⟩) h.2.2.2.2 hdg hlocks
theorem x_fret (X : Cx p s m args meth c cc own nL D tc dz (wA ad Ks s.heap.size)) {st' : KN → va_E} (h : Sx D (wA ad Ks s.heap.size) ad Ks st s H locs) (hr : meth.sig.returnType = some .float) {v r : UInt32} (hv : v = r) (he : ∀ k, k ∈ Ks → st k = st' k) (hdg : decode cc pc = .ok (.freturn, 1)) :
    W p l e R s m args below meth c H locs cells slots (MQ below (va_Qf (fun (x : UInt32) (_ : Unit) => x = r) (fun _ t => Hw D ad Ks st' t.heap) (wA ad Ks s.heap.size)) args s cells slots (wA ad Ks s.heap.size)) (F0 m pc ls [.float v]) := by
  obtain ⟨⟨hx, hb, -, hown, hts⟩, hlocks, -⟩ := X
  exact W.fret hx hb hr (fun t ht hW => ⟨⟨v, (), rfl, hv, (h.1.congr he).onto ht⟩, h.2.2.F ht⟩) h.2.2.2.2 hdg hlocks
theorem x_vret (X : Cx p s m args meth c cc own nL D tc dz (wA ad Ks s.heap.size)) {st' : KN → va_E} (h : Sx D (wA ad Ks s.heap.size) ad Ks st s H locs) (hr : meth.sig.returnType = none) (he : ∀ k, k ∈ Ks → st k = st' k) (hdg : decode cc pc = .ok (.return_, 1)) :
    W p l e R s m args below meth c H locs cells slots (MQ below (va_Qv (fun (_ : Unit) => True) (fun _ t => Hw D ad Ks st' t.heap) (wA ad Ks s.heap.size)) args s cells slots (wA ad Ks s.heap.size)) (F0 m pc ls []) := by
  obtain ⟨⟨hx, hb, -, hown, hts⟩, hlocks, -⟩ := X
  exact W.vret hx hb hr (fun t ht hW => ⟨⟨(), rfl, trivial, (h.1.congr he).onto ht⟩, h.2.2.F ht⟩) h.2.2.2.2 hdg hlocks
theorem x_aret (X : Cx p s m args meth c cc own nL D tc dz (wA ad Ks s.heap.size)) {st' : KN → va_E} (h : Sx D (wA ad Ks s.heap.size) ad Ks st s H locs) {rt : FieldType} (hr : meth.sig.returnType = some rt) (hrt : (∃ n, rt = .object n) ∨ ∃ t, rt = .array t) {v : Value} {r : Option Nat} (hv : v = va_rf r) (he : ∀ k, k ∈ Ks → st k = st' k) (hdg : decode cc pc = .ok (.areturn, 1)) :
    W p l e R s m args below meth c H locs cells slots (MQ below (va_Qq (fun (x : Option Nat) (_ : Unit) => x = r) (fun _ t => Hw D ad Ks st' t.heap) (wA ad Ks s.heap.size)) args s cells slots (wA ad Ks s.heap.size)) (F0 m pc ls [v]) := by
  obtain ⟨⟨hx, hb, -, hown, hts⟩, hlocks, -⟩ := X
  exact W.aret hx hb hr hrt (by rw [hv]; exact va_rf_or r) (fun t ht hW => ⟨⟨r, (), by rw [hv], rfl, (h.1.congr he).onto ht⟩, h.2.2.F ht⟩) h.2.2.2.2 hdg hlocks
/-- what a caller's room and words say of a call of y -/
theorem x_cb (X : Cx p s m args meth c cc own nL D tc dz A) {y : MethodName} {bytes : ByteArray} {maxL n lv mc ms index : Nat} {ret : Option FieldType} (F : YF y bytes maxL ret n) (w1 : Cond.methodLink own index y ∈ AW) (hf : lv + 1 ≤ R.frames) (hlo : 8 + (maxL + 11) + 32 * lv ≤ R.locals) : CallB R s args own index y bytes maxL ret (wsA y bytes maxL ret) (rmL lv mc ms) mc ms n := by
  obtain ⟨⟨hx, hb, -, hown, hts⟩, -⟩ := X
  exact callB_of n hts (goodIn_A F.1) rfl rfl rfl (hts _ F.2.1) (hts _ w1) F.2.2 ⟨hf, hlo⟩
theorem x_cn (X : Cx p s m args meth c cc own nL D tc dz A) {y : MethodName} {bytes : ByteArray} {maxL n lv mc ms index : Nat} {host : String} {ret : Option FieldType} (F : YF y bytes maxL ret n) (w1 : Cond.methodLinkNest own index y host ∈ lw_tbl) (hf : lv + 1 ≤ R.frames) (hlo : 8 + (maxL + 11) + 32 * lv ≤ R.locals) : va_CN R s args own index y host bytes maxL ret (wsA y bytes maxL ret) (rmL lv mc ms) mc ms n := by
  obtain ⟨⟨hx, hb, -, hown, hts⟩, -, -, hN, -⟩ := X
  exact va_cnB n hts (goodIn_A F.1) rfl rfl rfl (hN.1 _ _ _ _ w1) (hts _ F.2.1) F.2.2 ⟨hf, hlo⟩
theorem x_recv (X : Cx p s m args meth c cc own nL D tc dz A) (h : Sx D A ad Ks st s H locs) {k : KN} (hk : k ∈ Ks) {ci : Nat} {fs : List Value} {q : vw_C} (he : st k = .inr (ci, fs)) (hc : vwCl[ci]? = some q) : ∃ cell : Cell, H[ad k]? = some cell ∧ cell.vm.isStatics = false ∧ s.vm.findClass q.1 = some cell.cls := by
  obtain ⟨i, hi⟩ := List.getElem?_of_mem hk
  have hi2 := wl_at (ad := ad) (st := st) hi
  rw [he] at hi2
  exact va_recv X.2.2.1 h.1.P hc hi2
variable {y : MethodName} {bytes : ByteArray} {maxL n lv mc ms index : Nat} {ret : Option FieldType} {As : List Value} {Qc : Array Value → State → Outcome → State → Prop} {free : Addr → Prop}
/-- the runs: a virtual, a static, a nest mate's static, a constructor, a nest mate's constructor -/
theorem x_runV (X : Cx p s m args meth c cc own nL D tc dz A) (h : Sx D A ad Ks st s H locs) {k : KN} {ci : Nat} {fs : List Value} {q : vw_C} (hM : Met l y (wsA y bytes maxL ret) (rmL lv mc ms) (va_Pc (.ref (ad k) :: As) (PreW D tc dz ad Ks st H.size)) Qc mc ms free) (F : YF y bytes maxL ret n) (w1 : Cond.methodLink own index y ∈ AW) (w2 : Cond.instanceMethod y ∈ AW) (w3 : Cond.selects q.1 y y ∈ AW) (hk : k ∈ Ks) (he : st k = .inr (ci, fs)) (hc : vwCl[ci]? = some q) (hn : As.length = n) (hf : lv + 1 ≤ R.frames) (hlo : 8 + (maxL + 11) + 32 * lv ≤ R.locals) (hcl : cells + mc ≤ R.cells ∧ slots + ms ≤ R.slots) (hsize : ls.size = nL) (hcat : (rest.map fun v => v.category).sum ≤ 8) (hdg : decode cc pc = .ok (.invokevirtual index, 3)) {st0 : List Value} (hst : st0 = As.reverse ++ .ref (ad k) :: rest) :
    va_Run p l e R s m args below meth c H locs cells slots mc ms (F0 m pc ls st0) rest (Qc (Value.ref (ad k) :: As).toArray) free := by
  exact va_runV (C := q.1) X.1 hM ⟨x_cb X F w1 hf hlo, X.1.2.2.2.2 _ w2, X.1.2.2.2.2 _ w3⟩ ⟨PreW.blind, x_recv X h hk he hc, fun U hU hW => ⟨rfl, PreW.of X h U hU hW⟩⟩ rfl hn hsize hst (lv_room hcat) hdg hcl
theorem x_runS (X : Cx p s m args meth c cc own nL D tc dz A) (h : Sx D A ad Ks st s H locs) (hM : Met l y (wsA y bytes maxL ret) (rmL lv mc ms) (va_Pc As (PreW D tc dz ad Ks st H.size)) Qc mc ms free) (F : YF y bytes maxL ret n) (w1 : Cond.methodLink own index y ∈ AW) (w2 : Cond.static y ∈ AW) (hn : As.length = n) (hf : lv + 1 ≤ R.frames) (hlo : 8 + (maxL + 11) + 32 * lv ≤ R.locals) (hcl : cells + mc ≤ R.cells ∧ slots + ms ≤ R.slots) (hsize : ls.size = nL) (hcat : (rest.map fun v => v.category).sum ≤ 8) (hdg : decode cc pc = .ok (.invokestatic index, 3)) {st0 : List Value} (hst : st0 = As.reverse ++ rest) :
    va_Run p l e R s m args below meth c H locs cells slots mc ms (F0 m pc ls st0) rest (Qc As.toArray) free := by
  exact va_runS X.1 hM ⟨x_cb X F w1 hf hlo, X.1.2.2.2.2 _ w2⟩ ⟨PreW.blind, fun U hU hW => ⟨rfl, PreW.of X h U hU hW⟩⟩ rfl hn hsize hst (lv_room hcat) hdg hcl
theorem x_runSN {host : String} (X : Cx p s m args meth c cc own nL D tc dz A) (h : Sx D A ad Ks st s H locs) (hM : Met l y (wsA y bytes maxL ret) (rmL lv mc ms) (va_Pc As (PreW D tc dz ad Ks st H.size)) Qc mc ms free) (F : YF y bytes maxL ret n) (w1 : Cond.methodLinkNest own index y host ∈ lw_tbl) (w2 : Cond.static y ∈ AW) (hn : As.length = n) (hf : lv + 1 ≤ R.frames) (hlo : 8 + (maxL + 11) + 32 * lv ≤ R.locals) (hcl : cells + mc ≤ R.cells ∧ slots + ms ≤ R.slots) (hsize : ls.size = nL) (hcat : (rest.map fun v => v.category).sum ≤ 8) (hdg : decode cc pc = .ok (.invokestatic index, 3)) {st0 : List Value} (hst : st0 = As.reverse ++ rest) :
    va_Run p l e R s m args below meth c H locs cells slots mc ms (F0 m pc ls st0) rest (Qc As.toArray) free := by
  exact va_runSN X.1 hM ⟨x_cn X F w1 hf hlo, X.1.2.2.2.2 _ w2, trivial⟩ ⟨PreW.blind, fun U hU hW => ⟨rfl, PreW.of X h U hU hW⟩⟩ rfl hn hsize hst (lv_room hcat) hdg hcl
/-- behind a call that keeps the names at their places -/
theorem x_doneI (X : Cx p s m args meth c cc own nL D tc dz A) (h : Sx D A ad Ks st s H locs) {st' : KN → va_E} {r : Int32} {st0 : List Value} {a : Array Value} (hr : va_Run p l e R s m args below meth c H locs cells slots mc ms (F0 m pc ls st0) rest (va_Qi (fun (x : Int32) (_ : Unit) => x = r) (fun _ t => Hw D ad Ks st' t.heap) (wA ad Ks H.size) a) (wA ad Ks H.size))
    (kk : ∀ (H1 : Heap) (locs1 : List Loc), Sx D A ad Ks st' s H1 locs1 → W p l e R s m args below meth c H1 locs1 (cells + mc) (slots + ms) Q (F0 m (pc + 3) ls (.int r :: rest))) : W p l e R s m args below meth c H locs cells slots Q (F0 m pc ls st0) := by
  have hA := wA_sub h.2.1 h.2.2 X.2.2.2.2.2
  refine va_calli hr h.2.2 (fun q _ hq => hA q hq) hA (fun r1 u t H1 locs1 ht hvm hp hB hz hk hS => ?_)
  subst hp
  exact kk H1 locs1 ⟨ht ▸ hB, h.2.1, hS⟩
theorem x_doneF (X : Cx p s m args meth c cc own nL D tc dz A) (h : Sx D A ad Ks st s H locs) {st' : KN → va_E} {r : UInt32} {st0 : List Value} {a : Array Value} (hr : va_Run p l e R s m args below meth c H locs cells slots mc ms (F0 m pc ls st0) rest (va_Qf (fun (x : UInt32) (_ : Unit) => x = r) (fun _ t => Hw D ad Ks st' t.heap) (wA ad Ks H.size) a) (wA ad Ks H.size))
    (kk : ∀ (H1 : Heap) (locs1 : List Loc), Sx D A ad Ks st' s H1 locs1 → W p l e R s m args below meth c H1 locs1 (cells + mc) (slots + ms) Q (F0 m (pc + 3) ls (.float r :: rest))) : W p l e R s m args below meth c H locs cells slots Q (F0 m pc ls st0) := by
  have hA := wA_sub h.2.1 h.2.2 X.2.2.2.2.2
  refine va_callf hr h.2.2 (fun q _ hq => hA q hq) hA (fun r1 u t H1 locs1 ht hvm hp hB hz hk hS => ?_)
  subst hp
  exact kk H1 locs1 ⟨ht ▸ hB, h.2.1, hS⟩
theorem x_doneV (X : Cx p s m args meth c cc own nL D tc dz A) (h : Sx D A ad Ks st s H locs) {st' : KN → va_E} {st0 : List Value} {a : Array Value} (hr : va_Run p l e R s m args below meth c H locs cells slots mc ms (F0 m pc ls st0) rest (va_Qv (fun (_ : Unit) => True) (fun _ t => Hw D ad Ks st' t.heap) (wA ad Ks H.size) a) (wA ad Ks H.size))
    (kk : ∀ (H1 : Heap) (locs1 : List Loc), Sx D A ad Ks st' s H1 locs1 → W p l e R s m args below meth c H1 locs1 (cells + mc) (slots + ms) Q (F0 m (pc + 3) ls rest)) : W p l e R s m args below meth c H locs cells slots Q (F0 m pc ls st0) := by
  have hA := wA_sub h.2.1 h.2.2 X.2.2.2.2.2
  refine va_callv hr h.2.2 (fun q _ hq => hA q hq) hA (fun u t H1 locs1 ht hvm hp hB hz hk hS => ?_)
  exact kk H1 locs1 ⟨ht ▸ hB, h.2.1, hS⟩
theorem x_doneR (X : Cx p s m args meth c cc own nL D tc dz A) (h : Sx D A ad Ks st s H locs) {st' : KN → va_E} {r : Option Nat} {st0 : List Value} {a : Array Value} (hr : va_Run p l e R s m args below meth c H locs cells slots mc ms (F0 m pc ls st0) rest (va_Qq (fun (x : Option Nat) (_ : Unit) => x = r) (fun _ t => Hw D ad Ks st' t.heap) (wA ad Ks H.size) a) (wA ad Ks H.size))
    (kk : ∀ (H1 : Heap) (locs1 : List Loc), Sx D A ad Ks st' s H1 locs1 → W p l e R s m args below meth c H1 locs1 (cells + mc) (slots + ms) Q (F0 m (pc + 3) ls (va_rf r :: rest))) : W p l e R s m args below meth c H locs cells slots Q (F0 m pc ls st0) := by
  have hA := wA_sub h.2.1 h.2.2 X.2.2.2.2.2
  refine va_callq hr h.2.2 (fun q _ hq => hA q hq) hA (fun r1 u t H1 locs1 ht hvm hp hB hz hk hS => ?_)
  subst hp
  exact kk H1 locs1 ⟨ht ▸ hB, h.2.1, hS⟩
end CALLS
end
section
/-! The layout: a memory I gives ints to each name; cont says what the cell of a name holds. gm b e: how many Mark objects the list of entry e of book b has, and its array's length. -/
abbrev Mem : Type := KN → Nat → Int32
abbrev GM : Type := Nat → Nat → Nat × Nat
def cont (tc : TC) (ad : KN → Nat) (gm : GM) (dz : Nat) (k : KN) (f : Nat → Int32) : va_E := match k with
  | (0, _, _, _) => .inr (7, [.ref (ad (1, 0, 0, 0)), .ref (ad (1, 1, 0, 0)), .ref (ad (20, 0, 0, 0))])
  | (1, b, _, _) => .inr (1, [.int (f 0), .int (f 1), .ref (ad (2, b, 0, 0)), .ref (ad (3, b, 0, 0))])
  | (2, _, _, _) => .inl (tc 0, 6, .inl f)
  | (3, b, _, _) => .inl (tc 4, 10, .inr (.inr (.inr (.inr (fun e => some (ad (4, b, e, 0)))))))
  | (4, b, e, _) => .inr (3, [.int (f 0), .int (f 1), .ref (ad (5, b, e, 0)), .ref (ad (6, b, e, 0)), .ref (ad (7, b, e, 0))])
  | (5, _, _, _) => .inl (tc 0, 3, .inl f)
  | (6, b, e, _) => .inl (tc 5, 6, .inr (.inr (.inr (.inr (fun d => some (ad (9, b, e, d)))))))
  | (7, b, e, _) => .inr (0, [.int (f 0), .ref (if (gm b e).2 = 0 then dz else ad (8, b, e, 0)), .int (nI (gm b e).1)])
  | (8, b, e, _) => .inl (tc 6, (gm b e).2, .inr (.inr (.inr (.inr (fun j => if j < (gm b e).1 then some (ad (16, b, e, j)) else none)))))
  | (9, b, e, d) => .inr (2, [.int (f 0), .int (f 1), .ref (ad (10, b, e, d)), .ref (ad (11, b, e, d)), .ref (ad (12, b, e, d)), .ref (ad (14, b, e, d))])
  | (10, _, _, _) => .inl (tc 0, 24, .inl f)
  | (11, _, _, _) => .inl (tc 0, 24, .inl f)
  | (12, b, e, d) => .inr (6, [.ref (ad (13, b, e, d))])
  | (13, _, _, _) => .inl (tc 0, 24, .inl f)
  | (14, b, e, d) => .inr (6, [.ref (ad (15, b, e, d))])
  | (15, _, _, _) => .inl (tc 0, 24, .inl f)
  | (16, b, e, j) => .inr (5, [.ref (ad (17, b, e, j)), .ref (ad (19, b, e, j))])
  | (17, b, e, j) => .inr (6, [.ref (ad (18, b, e, j))])
  | (18, _, _, _) => .inl (tc 0, 24, .inl f)
  | (19, _, _, _) => .inl (tc 0, 6, .inl f)
  | (20, _, _, _) => .inr (4, [.int (f 0), .ref (ad (21, 0, 0, 0)), .ref (ad (22, 0, 0, 0)), .ref (ad (23, 0, 0, 0)), .ref (ad (24, 0, 0, 0)), .ref (ad (25, 0, 0, 0))])
  | (21, _, _, _) => .inl (tc 0, 512, .inl f)
  | (22, _, _, _) => .inl (tc 0, 512, .inl f)
  | (23, _, _, _) => .inl (tc 0, 512, .inl f)
  | (24, _, _, _) => .inl (tc 0, 512, .inl f)
  | (25, _, _, _) => .inl (tc 0, 512, .inl f)
  | (30, _, _, _) => .inr (8, [.int (f 0), .ref (ad (31, 0, 0, 0)), .int (f 1), .ref (ad (32, 0, 0, 0)), .ref (ad (33, 0, 0, 0)), .ref (ad (34, 0, 0, 0)), .ref (ad (35, 0, 0, 0)), .ref (ad (36, 0, 0, 0)), .ref (ad (37, 0, 0, 0)), .ref (ad (38, 0, 0, 0)), .ref (ad (39, 0, 0, 0)), .int (f 2), .ref (ad (40, 0, 0, 0)), .ref (ad (41, 0, 0, 0)), .ref (ad (42, 0, 0, 0)), .int (f 3), .int (f 4)])
  | (31, _, _, _) => .inl (tc 0, 6, .inl f)
  | (32, _, _, _) => .inl (tc 0, 10, .inl f)
  | (33, _, _, _) => .inl (tc 0, 30, .inl f)
  | (34, _, _, _) => .inl (tc 1, 60, .inl f)
  | (35, _, _, _) => .inl (tc 0, 1440, .inl f)
  | (36, _, _, _) => .inl (tc 0, 1440, .inl f)
  | (37, _, _, _) => .inl (tc 0, 1440, .inl f)
  | (38, _, _, _) => .inl (tc 1, 60, .inl f)
  | (39, _, _, _) => .inl (tc 0, 1440, .inl f)
  | (40, _, _, _) => .inl (tc 0, 1024, .inl f)
  | (41, _, _, _) => .inl (tc 0, 24576, .inl f)
  | (42, _, _, _) => .inl (tc 0, 6144, .inl f)
  | (50, _, _, _) => .inl (tc 2, 1, .inr (.inl (fun j => (f j).toInt64)))
  | (51, _, _, _) => .inl (tc 3, 1, .inr (.inr (.inr (.inl (fun j => FP.f2d (f j).toUInt32)))))
  | _ => .inl (tc 0, 0, .inl f)
def lay (tc : TC) (ad : KN → Nat) (gm : GM) (dz : Nat) (I : Mem) : KN → va_E := fun k => cont tc ad gm dz k (I k)
/-- the names that live -/
def lvS (gm : GM) (k : KN) : Prop := match k with
  | (0, b, e, d) => b = 0 ∧ e = 0 ∧ d = 0
  | (1, b, e, d) => b < 2 ∧ e = 0 ∧ d = 0
  | (2, b, e, d) => b < 2 ∧ e = 0 ∧ d = 0
  | (3, b, e, d) => b < 2 ∧ e = 0 ∧ d = 0
  | (4, b, e, d) => b < 2 ∧ e < 10 ∧ d = 0
  | (5, b, e, d) => b < 2 ∧ e < 10 ∧ d = 0
  | (6, b, e, d) => b < 2 ∧ e < 10 ∧ d = 0
  | (7, b, e, d) => b < 2 ∧ e < 10 ∧ d = 0
  | (8, b, e, d) => b < 2 ∧ e < 10 ∧ d = 0 ∧ 0 < (gm b e).2
  | (9, b, e, d) => b < 2 ∧ e < 10 ∧ d < 6
  | (10, b, e, d) => b < 2 ∧ e < 10 ∧ d < 6
  | (11, b, e, d) => b < 2 ∧ e < 10 ∧ d < 6
  | (12, b, e, d) => b < 2 ∧ e < 10 ∧ d < 6
  | (13, b, e, d) => b < 2 ∧ e < 10 ∧ d < 6
  | (14, b, e, d) => b < 2 ∧ e < 10 ∧ d < 6
  | (15, b, e, d) => b < 2 ∧ e < 10 ∧ d < 6
  | (16, b, e, j) => b < 2 ∧ e < 10 ∧ j < (gm b e).1
  | (17, b, e, j) => b < 2 ∧ e < 10 ∧ j < (gm b e).1
  | (18, b, e, j) => b < 2 ∧ e < 10 ∧ j < (gm b e).1
  | (19, b, e, j) => b < 2 ∧ e < 10 ∧ j < (gm b e).1
  | (n, b, e, d) => ((20 ≤ n ∧ n ≤ 25) ∨ (30 ≤ n ∧ n ≤ 42) ∨ n = 50 ∨ n = 51) ∧ b = 0 ∧ e = 0 ∧ d = 0
abbrev LV (gm : GM) (Ks : List KN) : Prop := ∀ k, lvS gm k → k ∈ Ks
theorem lay_set {tc : TC} {ad : KN → Nat} {gm : GM} {dz : Nat} {I : Mem} {k : KN} {f : Nat → Int32} : sset (lay tc ad gm dz I) k (cont tc ad gm dz k f) = lay tc ad gm dz (sset I k f) := by
  funext k'
  by_cases hk : k' = k
  · subst hk
    rw [sset_eq]
    show _ = cont tc ad gm dz k' (sset I k' f k')
    rw [sset_eq]
  · rw [sset_ne _ _ hk]
    show _ = cont tc ad gm dz k' (sset I k f k')
    rw [sset_ne _ _ hk]
    rfl
theorem Sx.layI {D : va_G} {A : Nat → Prop} {tc : TC} {ad : KN → Nat} {gm : GM} {dz : Nat} {Ks : List KN} {I : Mem} {k : KN} {f : Nat → Int32} {e : va_E} {s : State} {H : Heap} {locs : List Loc} (h : Sx D A ad Ks (sset (lay tc ad gm dz I) k e) s H locs) (he : e = cont tc ad gm dz k f) : Sx D A ad Ks (lay tc ad gm dz (sset I k f)) s H locs := by
  subst he
  rw [lay_set] at h
  exact h
theorem inX0 : ∀ w ∈ wsX00, w ∈ AW := by
  intro w hw
  obtain ⟨k, hk, rfl⟩ := List.mem_map.mp hw
  have hk := List.mem_range.mp hk
  rcases (show k = 0 ∨ k = 1 ∨ k = 2 ∨ k = 3 by omega) with rfl | rfl | rfl | rfl
  · exact q176
  · exact q178
  · exact q180
  · exact q182
theorem inX1 : ∀ w ∈ wsX10, w ∈ AW := by
  intro w hw
  obtain ⟨k, hk, rfl⟩ := List.mem_map.mp hw
  have hk := List.mem_range.mp hk
  rcases (show k = 0 ∨ k = 1 ∨ k = 2 ∨ k = 3 ∨ k = 4 ∨ k = 5 by omega) with rfl | rfl | rfl | rfl | rfl | rfl
  · exact q136
  · exact q138
  · exact q140
  · exact q142
  · exact q144
  · exact q146
theorem inX2 : ∀ w ∈ wsX20, w ∈ AW := by
  intro w hw
  obtain ⟨k, hk, rfl⟩ := List.mem_map.mp hw
  have hk := List.mem_range.mp hk
  rcases (show k = 0 ∨ k = 1 ∨ k = 2 ∨ k = 3 ∨ k = 4 by omega) with rfl | rfl | rfl | rfl | rfl
  · exact q159
  · exact q161
  · exact q163
  · exact q165
  · exact q167
theorem inX3 : ∀ w ∈ wsX30, w ∈ AW := by
  intro w hw
  obtain ⟨k, hk, rfl⟩ := List.mem_map.mp hw
  have hk := List.mem_range.mp hk
  rcases (show k = 0 ∨ k = 1 ∨ k = 2 ∨ k = 3 ∨ k = 4 ∨ k = 5 by omega) with rfl | rfl | rfl | rfl | rfl | rfl
  · exact q197
  · exact q199
  · exact q201
  · exact q203
  · exact q205
  · exact q207
theorem inX4 : ∀ w ∈ wsX40, w ∈ AW := by
  intro w hw
  obtain ⟨k, hk, rfl⟩ := List.mem_map.mp hw
  have hk := List.mem_range.mp hk
  rcases (show k = 0 ∨ k = 1 by omega) with rfl | rfl
  · exact q482
  · exact q484
theorem inX5 : ∀ w ∈ wsX50, w ∈ AW := by
  intro w hw
  obtain ⟨k, hk, rfl⟩ := List.mem_map.mp hw
  have hk := List.mem_range.mp hk
  rcases (show k = 0 by omega) with rfl
  · exact q116
theorem inX6 : ∀ w ∈ wsX60, w ∈ AW := by
  intro w hw
  obtain ⟨k, hk, rfl⟩ := List.mem_map.mp hw
  have hk := List.mem_range.mp hk
  rcases (show k = 0 ∨ k = 1 ∨ k = 2 by omega) with rfl | rfl | rfl
  · exact q213
  · exact q215
  · exact q217
theorem inX7 : ∀ w ∈ wsX70, w ∈ AW := by
  intro w hw
  obtain ⟨k, hk, rfl⟩ := List.mem_map.mp hw
  have hk := List.mem_range.mp hk
  rcases (show k = 0 ∨ k = 1 ∨ k = 2 ∨ k = 3 ∨ k = 4 ∨ k = 5 ∨ k = 6 ∨ k = 7 ∨ k = 8 ∨ k = 9 ∨ k = 10 ∨ k = 11 ∨ k = 12 ∨ k = 13 ∨ k = 14 ∨ k = 15 ∨ k = 16 by omega) with rfl | rfl | rfl | rfl | rfl | rfl | rfl | rfl | rfl | rfl | rfl | rfl | rfl | rfl | rfl | rfl | rfl
  · exact q813
  · exact q815
  · exact q817
  · exact q819
  · exact q821
  · exact q823
  · exact q825
  · exact q827
  · exact q829
  · exact q831
  · exact q833
  · exact q835
  · exact q837
  · exact q839
  · exact q841
  · exact q843
  · exact q845
theorem inJx4a65c : ∀ w ∈ wsJx4a65c0, w ∈ AW := by
  intro w hw
  obtain ⟨k, hk, rfl⟩ := List.mem_map.mp hw
  have hk := List.mem_range.mp hk
  rcases (show k = 0 ∨ k = 1 ∨ k = 2 by omega) with rfl | rfl | rfl
  · exact q97
  · exact q93
  · exact q95
section FIELDS
variable {p : Program} {l : Launch} {e : Env} {R : Room} {s : State} {m : MethodId} {args : Array Value} {below : List Frame} {meth : Method} {c : Code} {H : Heap} {locs : List Loc} {cells slots : Nat} {Q : State → Prop}
variable {cc : ByteArray} {own : String} {nL : Nat} {D : va_G} {tc : TC} {dz : Nat} {A : Nat → Prop} {ad : KN → Nat} {Ks : List KN} {gm : GM} {I : Mem} {pc : Nat} {ls : Array Slot} {rest : List Value} {b z1 z2 z3 index : Nat}
theorem y_ald (X : Cx p s m args meth c cc own nL D tc dz A) (h : Sx D A ad Ks (lay tc ad gm dz I) s H locs) {k : KN} {n : Nat} (he : ∀ f, cont tc ad gm dz k f = .inl (tc 0, n, .inl f)) (hn : n < 2 ^ 31) (hk : k ∈ Ks) {j : Nat} (hj : j < n) {v : Int32} (hv : I k j = v) (hdg : decode cc pc = .ok (.iaload, 1))
    (kk : W p l e R s m args below meth c H locs cells slots Q (F0 m (pc + 1) ls (.int v :: rest))) : W p l e R s m args below meth c H locs cells slots Q (F0 m pc ls (.int (nI j) :: .ref (ad k) :: rest)) := by
  subst hv
  exact x_iald X h hk (f := I k) (he (I k)) j hj hn hdg kk
theorem y_ast (X : Cx p s m args meth c cc own nL D tc dz A) (h : Sx D A ad Ks (lay tc ad gm dz I) s H locs) {k : KN} {n : Nat} (he : ∀ f, cont tc ad gm dz k f = .inl (tc 0, n, .inl f)) (hn : n < 2 ^ 31) (hk : k ∈ Ks) {j : Nat} (hj : j < n) {v : Int32} (hdg : decode cc pc = .ok (.iastore, 1))
    (kk : ∀ (H1 : Heap) (locs1 : List Loc), Sx D A ad Ks (lay tc ad gm dz (sset I k (upd (I k) j v))) s H1 locs1 → W p l e R s m args below meth c H1 locs1 cells slots Q (F0 m (pc + 1) ls rest)) : W p l e R s m args below meth c H locs cells slots Q (F0 m pc ls (.int v :: .int (nI j) :: .ref (ad k) :: rest)) := by
  exact x_iast X h hk (f := I k) (he (I k)) j hj hn hdg (fun H1 locs1 h1 => kk H1 locs1 (h1.layI (he _).symm))
theorem y_zald (X : Cx p s m args meth c cc own nL D tc dz A) (h : Sx D A ad Ks (lay tc ad gm dz I) s H locs) {k : KN} {n : Nat} (he : ∀ f, cont tc ad gm dz k f = .inl (tc 1, n, .inl f)) (hn : n < 2 ^ 31) (hk : k ∈ Ks) {j : Nat} (hj : j < n) {v : Int32} (hv : I k j = v) (hdg : decode cc pc = .ok (.baload, 1))
    (kk : W p l e R s m args below meth c H locs cells slots Q (F0 m (pc + 1) ls (.int v :: rest))) : W p l e R s m args below meth c H locs cells slots Q (F0 m pc ls (.int (nI j) :: .ref (ad k) :: rest)) := by
  subst hv
  exact x_zald X h hk (f := I k) (he (I k)) j hj hn hdg kk
theorem y_zast (X : Cx p s m args meth c cc own nL D tc dz A) (h : Sx D A ad Ks (lay tc ad gm dz I) s H locs) {k : KN} {n : Nat} (he : ∀ f, cont tc ad gm dz k f = .inl (tc 1, n, .inl f)) (hn : n < 2 ^ 31) (hk : k ∈ Ks) {j : Nat} (hj : j < n) {v : Int32} (hv : vp_nar .boolean v = v) (hdg : decode cc pc = .ok (.bastore, 1))
    (kk : ∀ (H1 : Heap) (locs1 : List Loc), Sx D A ad Ks (lay tc ad gm dz (sset I k (upd (I k) j v))) s H1 locs1 → W p l e R s m args below meth c H1 locs1 cells slots Q (F0 m (pc + 1) ls rest)) : W p l e R s m args below meth c H locs cells slots Q (F0 m pc ls (.int v :: .int (nI j) :: .ref (ad k) :: rest)) := by
  exact x_zast X h hk (f := I k) (he (I k)) j hv hj hn hdg (fun H1 locs1 h1 => kk H1 locs1 (h1.layI (he _).symm))
/-- loops: σ what changes from round to round -/
theorem y_loop {σ : Type} (stF : σ → KN → va_E) (lvF : σ → List (Nat × Value)) (skF : σ → List Value) (ok : σ → Prop) (μ : σ → Nat)
    (step : ∀ x, ok x → (∀ x', ok x' → μ x' < μ x → ∀ (H : Heap) (locs : List Loc) (ls : Array Slot), Sx D A ad Ks (stF x') s H locs → lv_has ls nL (lvF x') → W p l e R s m args below meth c H locs cells slots Q (F0 m pc ls (skF x'))) → ∀ (H : Heap) (locs : List Loc) (ls : Array Slot), Sx D A ad Ks (stF x) s H locs → lv_has ls nL (lvF x) → W p l e R s m args below meth c H locs cells slots Q (F0 m pc ls (skF x)))
    (x : σ) (h0 : ok x) (h : Sx D A ad Ks (stF x) s H locs) (hl : lv_has ls nL (lvF x)) {st0 : List Value} (hsk : st0 = skF x) : W p l e R s m args below meth c H locs cells slots Q (F0 m pc ls st0) := by
  subst hsk
  have key : ∀ n x, μ x < n → ok x → ∀ (H : Heap) (locs : List Loc) (ls : Array Slot), Sx D A ad Ks (stF x) s H locs → lv_has ls nL (lvF x) → W p l e R s m args below meth c H locs cells slots Q (F0 m pc ls (skF x)) := by
    intro n
    induction n with
    | zero => intro x hx; omega
    | succ n ih => intro x hx hok; exact step x hok (fun x' hok' hlt => ih x' (by omega) hok')
  exact key (μ x + 1) x (Nat.lt_succ_self _) h0 H locs ls h hl
/-- roads that join: σ what differs -/
theorem y_join {σ : Type} (pc1 : Nat) (stF : σ → KN → va_E) (lvF : σ → List (Nat × Value)) (skF : σ → List Value) (ok : σ → Prop) {g : JFrame}
    (k1 : (∀ x, ok x → ∀ (H : Heap) (locs : List Loc) (ls : Array Slot), Sx D A ad Ks (stF x) s H locs → lv_has ls nL (lvF x) → W p l e R s m args below meth c H locs cells slots Q (F0 m pc1 ls (skF x))) → W p l e R s m args below meth c H locs cells slots Q g)
    (k2 : ∀ x, ok x → ∀ (H : Heap) (locs : List Loc) (ls : Array Slot), Sx D A ad Ks (stF x) s H locs → lv_has ls nL (lvF x) → W p l e R s m args below meth c H locs cells slots Q (F0 m pc1 ls (skF x))) : W p l e R s m args below meth c H locs cells slots Q g := k1 k2
theorem gf_Books_month (X : Cx p s m args meth c cc own nL D tc dz A) (h : Sx D A ad Ks (lay tc ad gm dz I) s H locs) (hk : (1, b, z2, z3) ∈ Ks) (hq : Cond.fieldLink own index RX0 (TX0 0).2.1 (TX0 0).2.2.1 ∈ AW) {v : Int32} (hv : I (1, b, z2, z3) 0 = v) (hdg : decode cc pc = .ok (.getfield index, 3)) (kk : W p l e R s m args below meth c H locs cells slots Q (F0 m (pc + 3) ls (.int v :: rest))) : W p l e R s m args below meth c H locs cells slots Q (F0 m pc ls (.ref (ad (1, b, z2, z3)) :: rest)) := by
  subst hv
  exact x_get X h hk rfl rfl inX0 0 (by decide) hq rfl rfl hdg kk
theorem pf_Books_month (X : Cx p s m args meth c cc own nL D tc dz A) (h : Sx D A ad Ks (lay tc ad gm dz I) s H locs) (hk : (1, b, z2, z3) ∈ Ks) (hq : Cond.fieldLink own index RX0 (TX0 0).2.1 (TX0 0).2.2.1 ∈ AW) {v : Int32} (hdg : decode cc pc = .ok (.putfield index, 3)) (kk : ∀ (H1 : Heap) (locs1 : List Loc), Sx D A ad Ks (lay tc ad gm dz (sset I (1, b, z2, z3) (upd (I (1, b, z2, z3)) 0 v))) s H1 locs1 → W p l e R s m args below meth c H1 locs1 cells slots Q (F0 m (pc + 3) ls rest)) : W p l e R s m args below meth c H locs cells slots Q (F0 m pc ls (.int v :: .ref (ad (1, b, z2, z3)) :: rest)) :=
  x_put X h hk rfl rfl inX0 tyX0_ok nmX0 0 (by decide) hq rfl rfl rfl rfl (Nat.le_of_ble_eq_true rfl) hdg (fun H1 locs1 h1 => kk H1 locs1 (h1.layI rfl))
theorem gf_Books_entryCount (X : Cx p s m args meth c cc own nL D tc dz A) (h : Sx D A ad Ks (lay tc ad gm dz I) s H locs) (hk : (1, b, z2, z3) ∈ Ks) (hq : Cond.fieldLink own index RX0 (TX0 1).2.1 (TX0 1).2.2.1 ∈ AW) {v : Int32} (hv : I (1, b, z2, z3) 1 = v) (hdg : decode cc pc = .ok (.getfield index, 3)) (kk : W p l e R s m args below meth c H locs cells slots Q (F0 m (pc + 3) ls (.int v :: rest))) : W p l e R s m args below meth c H locs cells slots Q (F0 m pc ls (.ref (ad (1, b, z2, z3)) :: rest)) := by
  subst hv
  exact x_get X h hk rfl rfl inX0 1 (by decide) hq rfl rfl hdg kk
theorem pf_Books_entryCount (X : Cx p s m args meth c cc own nL D tc dz A) (h : Sx D A ad Ks (lay tc ad gm dz I) s H locs) (hk : (1, b, z2, z3) ∈ Ks) (hq : Cond.fieldLink own index RX0 (TX0 1).2.1 (TX0 1).2.2.1 ∈ AW) {v : Int32} (hdg : decode cc pc = .ok (.putfield index, 3)) (kk : ∀ (H1 : Heap) (locs1 : List Loc), Sx D A ad Ks (lay tc ad gm dz (sset I (1, b, z2, z3) (upd (I (1, b, z2, z3)) 1 v))) s H1 locs1 → W p l e R s m args below meth c H1 locs1 cells slots Q (F0 m (pc + 3) ls rest)) : W p l e R s m args below meth c H locs cells slots Q (F0 m pc ls (.int v :: .ref (ad (1, b, z2, z3)) :: rest)) :=
  x_put X h hk rfl rfl inX0 tyX0_ok nmX0 1 (by decide) hq rfl rfl rfl rfl (Nat.le_of_ble_eq_true rfl) hdg (fun H1 locs1 h1 => kk H1 locs1 (h1.layI rfl))
theorem gf_Books_actCounts (X : Cx p s m args meth c cc own nL D tc dz A) (h : Sx D A ad Ks (lay tc ad gm dz I) s H locs) (hk : (1, b, z2, z3) ∈ Ks) (hq : Cond.fieldLink own index RX0 (TX0 2).2.1 (TX0 2).2.2.1 ∈ AW) (hdg : decode cc pc = .ok (.getfield index, 3)) (kk : W p l e R s m args below meth c H locs cells slots Q (F0 m (pc + 3) ls (.ref (ad (2, b, 0, 0)) :: rest))) : W p l e R s m args below meth c H locs cells slots Q (F0 m pc ls (.ref (ad (1, b, z2, z3)) :: rest)) :=
  x_get X h hk rfl rfl inX0 2 (by decide) hq rfl rfl hdg kk
theorem gf_Books_entries (X : Cx p s m args meth c cc own nL D tc dz A) (h : Sx D A ad Ks (lay tc ad gm dz I) s H locs) (hk : (1, b, z2, z3) ∈ Ks) (hq : Cond.fieldLink own index RX0 (TX0 3).2.1 (TX0 3).2.2.1 ∈ AW) (hdg : decode cc pc = .ok (.getfield index, 3)) (kk : W p l e R s m args below meth c H locs cells slots Q (F0 m (pc + 3) ls (.ref (ad (3, b, 0, 0)) :: rest))) : W p l e R s m args below meth c H locs cells slots Q (F0 m pc ls (.ref (ad (1, b, z2, z3)) :: rest)) :=
  x_get X h hk rfl rfl inX0 3 (by decide) hq rfl rfl hdg kk
theorem gf_Copy_known (X : Cx p s m args meth c cc own nL D tc dz A) (h : Sx D A ad Ks (lay tc ad gm dz I) s H locs) (hk : (9, b, z2, z3) ∈ Ks) (hq : Cond.fieldLink own index RX1 (TX1 0).2.1 (TX1 0).2.2.1 ∈ AW) {v : Int32} (hv : I (9, b, z2, z3) 0 = v) (hdg : decode cc pc = .ok (.getfield index, 3)) (kk : W p l e R s m args below meth c H locs cells slots Q (F0 m (pc + 3) ls (.int v :: rest))) : W p l e R s m args below meth c H locs cells slots Q (F0 m pc ls (.ref (ad (9, b, z2, z3)) :: rest)) := by
  subst hv
  exact x_get X h hk rfl rfl inX1 0 (by decide) hq rfl rfl hdg kk
theorem pf_Copy_known (X : Cx p s m args meth c cc own nL D tc dz A) (h : Sx D A ad Ks (lay tc ad gm dz I) s H locs) (hk : (9, b, z2, z3) ∈ Ks) (hq : Cond.fieldLink own index RX1 (TX1 0).2.1 (TX1 0).2.2.1 ∈ AW) {v : Int32} (hv : narrow .boolean (.int v) = .int v) (hv2 : fits .boolean (.int v) = true) (hdg : decode cc pc = .ok (.putfield index, 3)) (kk : ∀ (H1 : Heap) (locs1 : List Loc), Sx D A ad Ks (lay tc ad gm dz (sset I (9, b, z2, z3) (upd (I (9, b, z2, z3)) 0 v))) s H1 locs1 → W p l e R s m args below meth c H1 locs1 cells slots Q (F0 m (pc + 3) ls rest)) : W p l e R s m args below meth c H locs cells slots Q (F0 m pc ls (.int v :: .ref (ad (9, b, z2, z3)) :: rest)) :=
  x_put X h hk rfl rfl inX1 tyX1_ok nmX1 0 (by decide) hq rfl rfl hv hv2 (Nat.le_of_ble_eq_true rfl) hdg (fun H1 locs1 h1 => kk H1 locs1 (h1.layI rfl))
theorem gf_Copy_noted (X : Cx p s m args meth c cc own nL D tc dz A) (h : Sx D A ad Ks (lay tc ad gm dz I) s H locs) (hk : (9, b, z2, z3) ∈ Ks) (hq : Cond.fieldLink own index RX1 (TX1 1).2.1 (TX1 1).2.2.1 ∈ AW) {v : Int32} (hv : I (9, b, z2, z3) 1 = v) (hdg : decode cc pc = .ok (.getfield index, 3)) (kk : W p l e R s m args below meth c H locs cells slots Q (F0 m (pc + 3) ls (.int v :: rest))) : W p l e R s m args below meth c H locs cells slots Q (F0 m pc ls (.ref (ad (9, b, z2, z3)) :: rest)) := by
  subst hv
  exact x_get X h hk rfl rfl inX1 1 (by decide) hq rfl rfl hdg kk
theorem pf_Copy_noted (X : Cx p s m args meth c cc own nL D tc dz A) (h : Sx D A ad Ks (lay tc ad gm dz I) s H locs) (hk : (9, b, z2, z3) ∈ Ks) (hq : Cond.fieldLink own index RX1 (TX1 1).2.1 (TX1 1).2.2.1 ∈ AW) {v : Int32} (hv : narrow .boolean (.int v) = .int v) (hv2 : fits .boolean (.int v) = true) (hdg : decode cc pc = .ok (.putfield index, 3)) (kk : ∀ (H1 : Heap) (locs1 : List Loc), Sx D A ad Ks (lay tc ad gm dz (sset I (9, b, z2, z3) (upd (I (9, b, z2, z3)) 1 v))) s H1 locs1 → W p l e R s m args below meth c H1 locs1 cells slots Q (F0 m (pc + 3) ls rest)) : W p l e R s m args below meth c H locs cells slots Q (F0 m pc ls (.int v :: .ref (ad (9, b, z2, z3)) :: rest)) :=
  x_put X h hk rfl rfl inX1 tyX1_ok nmX1 1 (by decide) hq rfl rfl hv hv2 (Nat.le_of_ble_eq_true rfl) hdg (fun H1 locs1 h1 => kk H1 locs1 (h1.layI rfl))
theorem gf_Copy_acts (X : Cx p s m args meth c cc own nL D tc dz A) (h : Sx D A ad Ks (lay tc ad gm dz I) s H locs) (hk : (9, b, z2, z3) ∈ Ks) (hq : Cond.fieldLink own index RX1 (TX1 2).2.1 (TX1 2).2.2.1 ∈ AW) (hdg : decode cc pc = .ok (.getfield index, 3)) (kk : W p l e R s m args below meth c H locs cells slots Q (F0 m (pc + 3) ls (.ref (ad (10, b, z2, z3)) :: rest))) : W p l e R s m args below meth c H locs cells slots Q (F0 m pc ls (.ref (ad (9, b, z2, z3)) :: rest)) :=
  x_get X h hk rfl rfl inX1 2 (by decide) hq rfl rfl hdg kk
theorem gf_Copy_told (X : Cx p s m args meth c cc own nL D tc dz A) (h : Sx D A ad Ks (lay tc ad gm dz I) s H locs) (hk : (9, b, z2, z3) ∈ Ks) (hq : Cond.fieldLink own index RX1 (TX1 3).2.1 (TX1 3).2.2.1 ∈ AW) (hdg : decode cc pc = .ok (.getfield index, 3)) (kk : W p l e R s m args below meth c H locs cells slots Q (F0 m (pc + 3) ls (.ref (ad (11, b, z2, z3)) :: rest))) : W p l e R s m args below meth c H locs cells slots Q (F0 m pc ls (.ref (ad (9, b, z2, z3)) :: rest)) :=
  x_get X h hk rfl rfl inX1 3 (by decide) hq rfl rfl hdg kk
theorem gf_Copy_seen (X : Cx p s m args meth c cc own nL D tc dz A) (h : Sx D A ad Ks (lay tc ad gm dz I) s H locs) (hk : (9, b, z2, z3) ∈ Ks) (hq : Cond.fieldLink own index RX1 (TX1 4).2.1 (TX1 4).2.2.1 ∈ AW) (hdg : decode cc pc = .ok (.getfield index, 3)) (kk : W p l e R s m args below meth c H locs cells slots Q (F0 m (pc + 3) ls (.ref (ad (12, b, z2, z3)) :: rest))) : W p l e R s m args below meth c H locs cells slots Q (F0 m pc ls (.ref (ad (9, b, z2, z3)) :: rest)) :=
  x_get X h hk rfl rfl inX1 4 (by decide) hq rfl rfl hdg kk
theorem gf_Copy_note (X : Cx p s m args meth c cc own nL D tc dz A) (h : Sx D A ad Ks (lay tc ad gm dz I) s H locs) (hk : (9, b, z2, z3) ∈ Ks) (hq : Cond.fieldLink own index RX1 (TX1 5).2.1 (TX1 5).2.2.1 ∈ AW) (hdg : decode cc pc = .ok (.getfield index, 3)) (kk : W p l e R s m args below meth c H locs cells slots Q (F0 m (pc + 3) ls (.ref (ad (14, b, z2, z3)) :: rest))) : W p l e R s m args below meth c H locs cells slots Q (F0 m pc ls (.ref (ad (9, b, z2, z3)) :: rest)) :=
  x_get X h hk rfl rfl inX1 5 (by decide) hq rfl rfl hdg kk
theorem gf_Entry_owner (X : Cx p s m args meth c cc own nL D tc dz A) (h : Sx D A ad Ks (lay tc ad gm dz I) s H locs) (hk : (4, b, z2, z3) ∈ Ks) (hq : Cond.fieldLink own index RX2 (TX2 0).2.1 (TX2 0).2.2.1 ∈ AW) {v : Int32} (hv : I (4, b, z2, z3) 0 = v) (hdg : decode cc pc = .ok (.getfield index, 3)) (kk : W p l e R s m args below meth c H locs cells slots Q (F0 m (pc + 3) ls (.int v :: rest))) : W p l e R s m args below meth c H locs cells slots Q (F0 m pc ls (.ref (ad (4, b, z2, z3)) :: rest)) := by
  subst hv
  exact x_get X h hk rfl rfl inX2 0 (by decide) hq rfl rfl hdg kk
theorem pf_Entry_owner (X : Cx p s m args meth c cc own nL D tc dz A) (h : Sx D A ad Ks (lay tc ad gm dz I) s H locs) (hk : (4, b, z2, z3) ∈ Ks) (hq : Cond.fieldLink own index RX2 (TX2 0).2.1 (TX2 0).2.2.1 ∈ AW) {v : Int32} (hdg : decode cc pc = .ok (.putfield index, 3)) (kk : ∀ (H1 : Heap) (locs1 : List Loc), Sx D A ad Ks (lay tc ad gm dz (sset I (4, b, z2, z3) (upd (I (4, b, z2, z3)) 0 v))) s H1 locs1 → W p l e R s m args below meth c H1 locs1 cells slots Q (F0 m (pc + 3) ls rest)) : W p l e R s m args below meth c H locs cells slots Q (F0 m pc ls (.int v :: .ref (ad (4, b, z2, z3)) :: rest)) :=
  x_put X h hk rfl rfl inX2 tyX2_ok nmX2 0 (by decide) hq rfl rfl rfl rfl (Nat.le_of_ble_eq_true rfl) hdg (fun H1 locs1 h1 => kk H1 locs1 (h1.layI rfl))
theorem gf_Entry_markCount (X : Cx p s m args meth c cc own nL D tc dz A) (h : Sx D A ad Ks (lay tc ad gm dz I) s H locs) (hk : (4, b, z2, z3) ∈ Ks) (hq : Cond.fieldLink own index RX2 (TX2 1).2.1 (TX2 1).2.2.1 ∈ AW) {v : Int32} (hv : I (4, b, z2, z3) 1 = v) (hdg : decode cc pc = .ok (.getfield index, 3)) (kk : W p l e R s m args below meth c H locs cells slots Q (F0 m (pc + 3) ls (.int v :: rest))) : W p l e R s m args below meth c H locs cells slots Q (F0 m pc ls (.ref (ad (4, b, z2, z3)) :: rest)) := by
  subst hv
  exact x_get X h hk rfl rfl inX2 1 (by decide) hq rfl rfl hdg kk
theorem pf_Entry_markCount (X : Cx p s m args meth c cc own nL D tc dz A) (h : Sx D A ad Ks (lay tc ad gm dz I) s H locs) (hk : (4, b, z2, z3) ∈ Ks) (hq : Cond.fieldLink own index RX2 (TX2 1).2.1 (TX2 1).2.2.1 ∈ AW) {v : Int32} (hdg : decode cc pc = .ok (.putfield index, 3)) (kk : ∀ (H1 : Heap) (locs1 : List Loc), Sx D A ad Ks (lay tc ad gm dz (sset I (4, b, z2, z3) (upd (I (4, b, z2, z3)) 1 v))) s H1 locs1 → W p l e R s m args below meth c H1 locs1 cells slots Q (F0 m (pc + 3) ls rest)) : W p l e R s m args below meth c H locs cells slots Q (F0 m pc ls (.int v :: .ref (ad (4, b, z2, z3)) :: rest)) :=
  x_put X h hk rfl rfl inX2 tyX2_ok nmX2 1 (by decide) hq rfl rfl rfl rfl (Nat.le_of_ble_eq_true rfl) hdg (fun H1 locs1 h1 => kk H1 locs1 (h1.layI rfl))
theorem gf_Entry_shared (X : Cx p s m args meth c cc own nL D tc dz A) (h : Sx D A ad Ks (lay tc ad gm dz I) s H locs) (hk : (4, b, z2, z3) ∈ Ks) (hq : Cond.fieldLink own index RX2 (TX2 2).2.1 (TX2 2).2.2.1 ∈ AW) (hdg : decode cc pc = .ok (.getfield index, 3)) (kk : W p l e R s m args below meth c H locs cells slots Q (F0 m (pc + 3) ls (.ref (ad (5, b, z2, 0)) :: rest))) : W p l e R s m args below meth c H locs cells slots Q (F0 m pc ls (.ref (ad (4, b, z2, z3)) :: rest)) :=
  x_get X h hk rfl rfl inX2 2 (by decide) hq rfl rfl hdg kk
theorem gf_Entry_copies (X : Cx p s m args meth c cc own nL D tc dz A) (h : Sx D A ad Ks (lay tc ad gm dz I) s H locs) (hk : (4, b, z2, z3) ∈ Ks) (hq : Cond.fieldLink own index RX2 (TX2 3).2.1 (TX2 3).2.2.1 ∈ AW) (hdg : decode cc pc = .ok (.getfield index, 3)) (kk : W p l e R s m args below meth c H locs cells slots Q (F0 m (pc + 3) ls (.ref (ad (6, b, z2, 0)) :: rest))) : W p l e R s m args below meth c H locs cells slots Q (F0 m pc ls (.ref (ad (4, b, z2, z3)) :: rest)) :=
  x_get X h hk rfl rfl inX2 3 (by decide) hq rfl rfl hdg kk
theorem gf_Entry_marks (X : Cx p s m args meth c cc own nL D tc dz A) (h : Sx D A ad Ks (lay tc ad gm dz I) s H locs) (hk : (4, b, z2, z3) ∈ Ks) (hq : Cond.fieldLink own index RX2 (TX2 4).2.1 (TX2 4).2.2.1 ∈ AW) (hdg : decode cc pc = .ok (.getfield index, 3)) (kk : W p l e R s m args below meth c H locs cells slots Q (F0 m (pc + 3) ls (.ref (ad (7, b, z2, 0)) :: rest))) : W p l e R s m args below meth c H locs cells slots Q (F0 m pc ls (.ref (ad (4, b, z2, z3)) :: rest)) :=
  x_get X h hk rfl rfl inX2 4 (by decide) hq rfl rfl hdg kk
theorem gf_Journal_size (X : Cx p s m args meth c cc own nL D tc dz A) (h : Sx D A ad Ks (lay tc ad gm dz I) s H locs) (hk : (20, b, z2, z3) ∈ Ks) (hq : Cond.fieldLink own index RX3 (TX3 0).2.1 (TX3 0).2.2.1 ∈ AW) {v : Int32} (hv : I (20, b, z2, z3) 0 = v) (hdg : decode cc pc = .ok (.getfield index, 3)) (kk : W p l e R s m args below meth c H locs cells slots Q (F0 m (pc + 3) ls (.int v :: rest))) : W p l e R s m args below meth c H locs cells slots Q (F0 m pc ls (.ref (ad (20, b, z2, z3)) :: rest)) := by
  subst hv
  exact x_get X h hk rfl rfl inX3 0 (by decide) hq rfl rfl hdg kk
theorem pf_Journal_size (X : Cx p s m args meth c cc own nL D tc dz A) (h : Sx D A ad Ks (lay tc ad gm dz I) s H locs) (hk : (20, b, z2, z3) ∈ Ks) (hq : Cond.fieldLink own index RX3 (TX3 0).2.1 (TX3 0).2.2.1 ∈ AW) {v : Int32} (hdg : decode cc pc = .ok (.putfield index, 3)) (kk : ∀ (H1 : Heap) (locs1 : List Loc), Sx D A ad Ks (lay tc ad gm dz (sset I (20, b, z2, z3) (upd (I (20, b, z2, z3)) 0 v))) s H1 locs1 → W p l e R s m args below meth c H1 locs1 cells slots Q (F0 m (pc + 3) ls rest)) : W p l e R s m args below meth c H locs cells slots Q (F0 m pc ls (.int v :: .ref (ad (20, b, z2, z3)) :: rest)) :=
  x_put X h hk rfl rfl inX3 tyX3_ok nmX3 0 (by decide) hq rfl rfl rfl rfl (Nat.le_of_ble_eq_true rfl) hdg (fun H1 locs1 h1 => kk H1 locs1 (h1.layI rfl))
theorem gf_Journal_kinds (X : Cx p s m args meth c cc own nL D tc dz A) (h : Sx D A ad Ks (lay tc ad gm dz I) s H locs) (hk : (20, b, z2, z3) ∈ Ks) (hq : Cond.fieldLink own index RX3 (TX3 1).2.1 (TX3 1).2.2.1 ∈ AW) (hdg : decode cc pc = .ok (.getfield index, 3)) (kk : W p l e R s m args below meth c H locs cells slots Q (F0 m (pc + 3) ls (.ref (ad (21, 0, 0, 0)) :: rest))) : W p l e R s m args below meth c H locs cells slots Q (F0 m pc ls (.ref (ad (20, b, z2, z3)) :: rest)) :=
  x_get X h hk rfl rfl inX3 1 (by decide) hq rfl rfl hdg kk
theorem gf_Journal_firsts (X : Cx p s m args meth c cc own nL D tc dz A) (h : Sx D A ad Ks (lay tc ad gm dz I) s H locs) (hk : (20, b, z2, z3) ∈ Ks) (hq : Cond.fieldLink own index RX3 (TX3 2).2.1 (TX3 2).2.2.1 ∈ AW) (hdg : decode cc pc = .ok (.getfield index, 3)) (kk : W p l e R s m args below meth c H locs cells slots Q (F0 m (pc + 3) ls (.ref (ad (22, 0, 0, 0)) :: rest))) : W p l e R s m args below meth c H locs cells slots Q (F0 m pc ls (.ref (ad (20, b, z2, z3)) :: rest)) :=
  x_get X h hk rfl rfl inX3 2 (by decide) hq rfl rfl hdg kk
theorem gf_Journal_seconds (X : Cx p s m args meth c cc own nL D tc dz A) (h : Sx D A ad Ks (lay tc ad gm dz I) s H locs) (hk : (20, b, z2, z3) ∈ Ks) (hq : Cond.fieldLink own index RX3 (TX3 3).2.1 (TX3 3).2.2.1 ∈ AW) (hdg : decode cc pc = .ok (.getfield index, 3)) (kk : W p l e R s m args below meth c H locs cells slots Q (F0 m (pc + 3) ls (.ref (ad (23, 0, 0, 0)) :: rest))) : W p l e R s m args below meth c H locs cells slots Q (F0 m pc ls (.ref (ad (20, b, z2, z3)) :: rest)) :=
  x_get X h hk rfl rfl inX3 3 (by decide) hq rfl rfl hdg kk
theorem gf_Journal_thirds (X : Cx p s m args meth c cc own nL D tc dz A) (h : Sx D A ad Ks (lay tc ad gm dz I) s H locs) (hk : (20, b, z2, z3) ∈ Ks) (hq : Cond.fieldLink own index RX3 (TX3 4).2.1 (TX3 4).2.2.1 ∈ AW) (hdg : decode cc pc = .ok (.getfield index, 3)) (kk : W p l e R s m args below meth c H locs cells slots Q (F0 m (pc + 3) ls (.ref (ad (24, 0, 0, 0)) :: rest))) : W p l e R s m args below meth c H locs cells slots Q (F0 m pc ls (.ref (ad (20, b, z2, z3)) :: rest)) :=
  x_get X h hk rfl rfl inX3 4 (by decide) hq rfl rfl hdg kk
theorem gf_Journal_fourths (X : Cx p s m args meth c cc own nL D tc dz A) (h : Sx D A ad Ks (lay tc ad gm dz I) s H locs) (hk : (20, b, z2, z3) ∈ Ks) (hq : Cond.fieldLink own index RX3 (TX3 5).2.1 (TX3 5).2.2.1 ∈ AW) (hdg : decode cc pc = .ok (.getfield index, 3)) (kk : W p l e R s m args below meth c H locs cells slots Q (F0 m (pc + 3) ls (.ref (ad (25, 0, 0, 0)) :: rest))) : W p l e R s m args below meth c H locs cells slots Q (F0 m pc ls (.ref (ad (20, b, z2, z3)) :: rest)) :=
  x_get X h hk rfl rfl inX3 5 (by decide) hq rfl rfl hdg kk
theorem gf_Mark_seen (X : Cx p s m args meth c cc own nL D tc dz A) (h : Sx D A ad Ks (lay tc ad gm dz I) s H locs) (hk : (16, b, z2, z3) ∈ Ks) (hq : Cond.fieldLink own index RX4 (TX4 0).2.1 (TX4 0).2.2.1 ∈ AW) (hdg : decode cc pc = .ok (.getfield index, 3)) (kk : W p l e R s m args below meth c H locs cells slots Q (F0 m (pc + 3) ls (.ref (ad (17, b, z2, z3)) :: rest))) : W p l e R s m args below meth c H locs cells slots Q (F0 m pc ls (.ref (ad (16, b, z2, z3)) :: rest)) :=
  x_get X h hk rfl rfl inX4 0 (by decide) hq rfl rfl hdg kk
theorem gf_Mark_knownSince (X : Cx p s m args meth c cc own nL D tc dz A) (h : Sx D A ad Ks (lay tc ad gm dz I) s H locs) (hk : (16, b, z2, z3) ∈ Ks) (hq : Cond.fieldLink own index RX4 (TX4 1).2.1 (TX4 1).2.2.1 ∈ AW) (hdg : decode cc pc = .ok (.getfield index, 3)) (kk : W p l e R s m args below meth c H locs cells slots Q (F0 m (pc + 3) ls (.ref (ad (19, b, z2, z3)) :: rest))) : W p l e R s m args below meth c H locs cells slots Q (F0 m pc ls (.ref (ad (16, b, z2, z3)) :: rest)) :=
  x_get X h hk rfl rfl inX4 1 (by decide) hq rfl rfl hdg kk
theorem gf_BraidBook_books (X : Cx p s m args meth c cc own nL D tc dz A) (h : Sx D A ad Ks (lay tc ad gm dz I) s H locs) (hk : (0, b, z2, z3) ∈ Ks) (hq : Cond.fieldLink own index RX6 (TX6 0).2.1 (TX6 0).2.2.1 ∈ AW) (hdg : decode cc pc = .ok (.getfield index, 3)) (kk : W p l e R s m args below meth c H locs cells slots Q (F0 m (pc + 3) ls (.ref (ad (1, 0, 0, 0)) :: rest))) : W p l e R s m args below meth c H locs cells slots Q (F0 m pc ls (.ref (ad (0, b, z2, z3)) :: rest)) :=
  x_get X h hk rfl rfl inX6 0 (by decide) hq rfl rfl hdg kk
theorem gf_BraidBook_booksAnew (X : Cx p s m args meth c cc own nL D tc dz A) (h : Sx D A ad Ks (lay tc ad gm dz I) s H locs) (hk : (0, b, z2, z3) ∈ Ks) (hq : Cond.fieldLink own index RX6 (TX6 1).2.1 (TX6 1).2.2.1 ∈ AW) (hdg : decode cc pc = .ok (.getfield index, 3)) (kk : W p l e R s m args below meth c H locs cells slots Q (F0 m (pc + 3) ls (.ref (ad (1, 1, 0, 0)) :: rest))) : W p l e R s m args below meth c H locs cells slots Q (F0 m pc ls (.ref (ad (0, b, z2, z3)) :: rest)) :=
  x_get X h hk rfl rfl inX6 1 (by decide) hq rfl rfl hdg kk
theorem gf_BraidBook_journal (X : Cx p s m args meth c cc own nL D tc dz A) (h : Sx D A ad Ks (lay tc ad gm dz I) s H locs) (hk : (0, b, z2, z3) ∈ Ks) (hq : Cond.fieldLink own index RX6 (TX6 2).2.1 (TX6 2).2.2.1 ∈ AW) (hdg : decode cc pc = .ok (.getfield index, 3)) (kk : W p l e R s m args below meth c H locs cells slots Q (F0 m (pc + 3) ls (.ref (ad (20, 0, 0, 0)) :: rest))) : W p l e R s m args below meth c H locs cells slots Q (F0 m pc ls (.ref (ad (0, b, z2, z3)) :: rest)) :=
  x_get X h hk rfl rfl inX6 2 (by decide) hq rfl rfl hdg kk
theorem gf_Model_month (X : Cx p s m args meth c cc own nL D tc dz A) (h : Sx D A ad Ks (lay tc ad gm dz I) s H locs) (hk : (30, b, z2, z3) ∈ Ks) (hq : Cond.fieldLink own index RX7 (TX7 0).2.1 (TX7 0).2.2.1 ∈ AW) {v : Int32} (hv : I (30, b, z2, z3) 0 = v) (hdg : decode cc pc = .ok (.getfield index, 3)) (kk : W p l e R s m args below meth c H locs cells slots Q (F0 m (pc + 3) ls (.int v :: rest))) : W p l e R s m args below meth c H locs cells slots Q (F0 m pc ls (.ref (ad (30, b, z2, z3)) :: rest)) := by
  subst hv
  exact x_get X h hk rfl rfl inX7 0 (by decide) hq rfl rfl hdg kk
theorem pf_Model_month (X : Cx p s m args meth c cc own nL D tc dz A) (h : Sx D A ad Ks (lay tc ad gm dz I) s H locs) (hk : (30, b, z2, z3) ∈ Ks) (hq : Cond.fieldLink own index RX7 (TX7 0).2.1 (TX7 0).2.2.1 ∈ AW) {v : Int32} (hdg : decode cc pc = .ok (.putfield index, 3)) (kk : ∀ (H1 : Heap) (locs1 : List Loc), Sx D A ad Ks (lay tc ad gm dz (sset I (30, b, z2, z3) (upd (I (30, b, z2, z3)) 0 v))) s H1 locs1 → W p l e R s m args below meth c H1 locs1 cells slots Q (F0 m (pc + 3) ls rest)) : W p l e R s m args below meth c H locs cells slots Q (F0 m pc ls (.int v :: .ref (ad (30, b, z2, z3)) :: rest)) :=
  x_put X h hk rfl rfl inX7 tyX7_ok nmX7 0 (by decide) hq rfl rfl rfl rfl (Nat.le_of_ble_eq_true rfl) hdg (fun H1 locs1 h1 => kk H1 locs1 (h1.layI rfl))
theorem gf_Model_acts (X : Cx p s m args meth c cc own nL D tc dz A) (h : Sx D A ad Ks (lay tc ad gm dz I) s H locs) (hk : (30, b, z2, z3) ∈ Ks) (hq : Cond.fieldLink own index RX7 (TX7 1).2.1 (TX7 1).2.2.1 ∈ AW) (hdg : decode cc pc = .ok (.getfield index, 3)) (kk : W p l e R s m args below meth c H locs cells slots Q (F0 m (pc + 3) ls (.ref (ad (31, 0, 0, 0)) :: rest))) : W p l e R s m args below meth c H locs cells slots Q (F0 m pc ls (.ref (ad (30, b, z2, z3)) :: rest)) :=
  x_get X h hk rfl rfl inX7 1 (by decide) hq rfl rfl hdg kk
theorem gf_Model_entries (X : Cx p s m args meth c cc own nL D tc dz A) (h : Sx D A ad Ks (lay tc ad gm dz I) s H locs) (hk : (30, b, z2, z3) ∈ Ks) (hq : Cond.fieldLink own index RX7 (TX7 2).2.1 (TX7 2).2.2.1 ∈ AW) {v : Int32} (hv : I (30, b, z2, z3) 1 = v) (hdg : decode cc pc = .ok (.getfield index, 3)) (kk : W p l e R s m args below meth c H locs cells slots Q (F0 m (pc + 3) ls (.int v :: rest))) : W p l e R s m args below meth c H locs cells slots Q (F0 m pc ls (.ref (ad (30, b, z2, z3)) :: rest)) := by
  subst hv
  exact x_get X h hk rfl rfl inX7 2 (by decide) hq rfl rfl hdg kk
theorem pf_Model_entries (X : Cx p s m args meth c cc own nL D tc dz A) (h : Sx D A ad Ks (lay tc ad gm dz I) s H locs) (hk : (30, b, z2, z3) ∈ Ks) (hq : Cond.fieldLink own index RX7 (TX7 2).2.1 (TX7 2).2.2.1 ∈ AW) {v : Int32} (hdg : decode cc pc = .ok (.putfield index, 3)) (kk : ∀ (H1 : Heap) (locs1 : List Loc), Sx D A ad Ks (lay tc ad gm dz (sset I (30, b, z2, z3) (upd (I (30, b, z2, z3)) 1 v))) s H1 locs1 → W p l e R s m args below meth c H1 locs1 cells slots Q (F0 m (pc + 3) ls rest)) : W p l e R s m args below meth c H locs cells slots Q (F0 m pc ls (.int v :: .ref (ad (30, b, z2, z3)) :: rest)) :=
  x_put X h hk rfl rfl inX7 tyX7_ok nmX7 2 (by decide) hq rfl rfl rfl rfl (Nat.le_of_ble_eq_true rfl) hdg (fun H1 locs1 h1 => kk H1 locs1 (h1.layI rfl))
theorem gf_Model_owner (X : Cx p s m args meth c cc own nL D tc dz A) (h : Sx D A ad Ks (lay tc ad gm dz I) s H locs) (hk : (30, b, z2, z3) ∈ Ks) (hq : Cond.fieldLink own index RX7 (TX7 3).2.1 (TX7 3).2.2.1 ∈ AW) (hdg : decode cc pc = .ok (.getfield index, 3)) (kk : W p l e R s m args below meth c H locs cells slots Q (F0 m (pc + 3) ls (.ref (ad (32, 0, 0, 0)) :: rest))) : W p l e R s m args below meth c H locs cells slots Q (F0 m pc ls (.ref (ad (30, b, z2, z3)) :: rest)) :=
  x_get X h hk rfl rfl inX7 3 (by decide) hq rfl rfl hdg kk
theorem gf_Model_shared (X : Cx p s m args meth c cc own nL D tc dz A) (h : Sx D A ad Ks (lay tc ad gm dz I) s H locs) (hk : (30, b, z2, z3) ∈ Ks) (hq : Cond.fieldLink own index RX7 (TX7 4).2.1 (TX7 4).2.2.1 ∈ AW) (hdg : decode cc pc = .ok (.getfield index, 3)) (kk : W p l e R s m args below meth c H locs cells slots Q (F0 m (pc + 3) ls (.ref (ad (33, 0, 0, 0)) :: rest))) : W p l e R s m args below meth c H locs cells slots Q (F0 m pc ls (.ref (ad (30, b, z2, z3)) :: rest)) :=
  x_get X h hk rfl rfl inX7 4 (by decide) hq rfl rfl hdg kk
theorem gf_Model_knows (X : Cx p s m args meth c cc own nL D tc dz A) (h : Sx D A ad Ks (lay tc ad gm dz I) s H locs) (hk : (30, b, z2, z3) ∈ Ks) (hq : Cond.fieldLink own index RX7 (TX7 5).2.1 (TX7 5).2.2.1 ∈ AW) (hdg : decode cc pc = .ok (.getfield index, 3)) (kk : W p l e R s m args below meth c H locs cells slots Q (F0 m (pc + 3) ls (.ref (ad (34, 0, 0, 0)) :: rest))) : W p l e R s m args below meth c H locs cells slots Q (F0 m pc ls (.ref (ad (30, b, z2, z3)) :: rest)) :=
  x_get X h hk rfl rfl inX7 5 (by decide) hq rfl rfl hdg kk
theorem gf_Model_act (X : Cx p s m args meth c cc own nL D tc dz A) (h : Sx D A ad Ks (lay tc ad gm dz I) s H locs) (hk : (30, b, z2, z3) ∈ Ks) (hq : Cond.fieldLink own index RX7 (TX7 6).2.1 (TX7 6).2.2.1 ∈ AW) (hdg : decode cc pc = .ok (.getfield index, 3)) (kk : W p l e R s m args below meth c H locs cells slots Q (F0 m (pc + 3) ls (.ref (ad (35, 0, 0, 0)) :: rest))) : W p l e R s m args below meth c H locs cells slots Q (F0 m pc ls (.ref (ad (30, b, z2, z3)) :: rest)) :=
  x_get X h hk rfl rfl inX7 6 (by decide) hq rfl rfl hdg kk
theorem gf_Model_value (X : Cx p s m args meth c cc own nL D tc dz A) (h : Sx D A ad Ks (lay tc ad gm dz I) s H locs) (hk : (30, b, z2, z3) ∈ Ks) (hq : Cond.fieldLink own index RX7 (TX7 7).2.1 (TX7 7).2.2.1 ∈ AW) (hdg : decode cc pc = .ok (.getfield index, 3)) (kk : W p l e R s m args below meth c H locs cells slots Q (F0 m (pc + 3) ls (.ref (ad (36, 0, 0, 0)) :: rest))) : W p l e R s m args below meth c H locs cells slots Q (F0 m pc ls (.ref (ad (30, b, z2, z3)) :: rest)) :=
  x_get X h hk rfl rfl inX7 7 (by decide) hq rfl rfl hdg kk
theorem gf_Model_seen (X : Cx p s m args meth c cc own nL D tc dz A) (h : Sx D A ad Ks (lay tc ad gm dz I) s H locs) (hk : (30, b, z2, z3) ∈ Ks) (hq : Cond.fieldLink own index RX7 (TX7 8).2.1 (TX7 8).2.2.1 ∈ AW) (hdg : decode cc pc = .ok (.getfield index, 3)) (kk : W p l e R s m args below meth c H locs cells slots Q (F0 m (pc + 3) ls (.ref (ad (37, 0, 0, 0)) :: rest))) : W p l e R s m args below meth c H locs cells slots Q (F0 m pc ls (.ref (ad (30, b, z2, z3)) :: rest)) :=
  x_get X h hk rfl rfl inX7 8 (by decide) hq rfl rfl hdg kk
theorem gf_Model_hasNote (X : Cx p s m args meth c cc own nL D tc dz A) (h : Sx D A ad Ks (lay tc ad gm dz I) s H locs) (hk : (30, b, z2, z3) ∈ Ks) (hq : Cond.fieldLink own index RX7 (TX7 9).2.1 (TX7 9).2.2.1 ∈ AW) (hdg : decode cc pc = .ok (.getfield index, 3)) (kk : W p l e R s m args below meth c H locs cells slots Q (F0 m (pc + 3) ls (.ref (ad (38, 0, 0, 0)) :: rest))) : W p l e R s m args below meth c H locs cells slots Q (F0 m pc ls (.ref (ad (30, b, z2, z3)) :: rest)) :=
  x_get X h hk rfl rfl inX7 9 (by decide) hq rfl rfl hdg kk
theorem gf_Model_note (X : Cx p s m args meth c cc own nL D tc dz A) (h : Sx D A ad Ks (lay tc ad gm dz I) s H locs) (hk : (30, b, z2, z3) ∈ Ks) (hq : Cond.fieldLink own index RX7 (TX7 10).2.1 (TX7 10).2.2.1 ∈ AW) (hdg : decode cc pc = .ok (.getfield index, 3)) (kk : W p l e R s m args below meth c H locs cells slots Q (F0 m (pc + 3) ls (.ref (ad (39, 0, 0, 0)) :: rest))) : W p l e R s m args below meth c H locs cells slots Q (F0 m pc ls (.ref (ad (30, b, z2, z3)) :: rest)) :=
  x_get X h hk rfl rfl inX7 10 (by decide) hq rfl rfl hdg kk
theorem gf_Model_marks (X : Cx p s m args meth c cc own nL D tc dz A) (h : Sx D A ad Ks (lay tc ad gm dz I) s H locs) (hk : (30, b, z2, z3) ∈ Ks) (hq : Cond.fieldLink own index RX7 (TX7 11).2.1 (TX7 11).2.2.1 ∈ AW) {v : Int32} (hv : I (30, b, z2, z3) 2 = v) (hdg : decode cc pc = .ok (.getfield index, 3)) (kk : W p l e R s m args below meth c H locs cells slots Q (F0 m (pc + 3) ls (.int v :: rest))) : W p l e R s m args below meth c H locs cells slots Q (F0 m pc ls (.ref (ad (30, b, z2, z3)) :: rest)) := by
  subst hv
  exact x_get X h hk rfl rfl inX7 11 (by decide) hq rfl rfl hdg kk
theorem pf_Model_marks (X : Cx p s m args meth c cc own nL D tc dz A) (h : Sx D A ad Ks (lay tc ad gm dz I) s H locs) (hk : (30, b, z2, z3) ∈ Ks) (hq : Cond.fieldLink own index RX7 (TX7 11).2.1 (TX7 11).2.2.1 ∈ AW) {v : Int32} (hdg : decode cc pc = .ok (.putfield index, 3)) (kk : ∀ (H1 : Heap) (locs1 : List Loc), Sx D A ad Ks (lay tc ad gm dz (sset I (30, b, z2, z3) (upd (I (30, b, z2, z3)) 2 v))) s H1 locs1 → W p l e R s m args below meth c H1 locs1 cells slots Q (F0 m (pc + 3) ls rest)) : W p l e R s m args below meth c H locs cells slots Q (F0 m pc ls (.int v :: .ref (ad (30, b, z2, z3)) :: rest)) :=
  x_put X h hk rfl rfl inX7 tyX7_ok nmX7 11 (by decide) hq rfl rfl rfl rfl (Nat.le_of_ble_eq_true rfl) hdg (fun H1 locs1 h1 => kk H1 locs1 (h1.layI rfl))
theorem gf_Model_markOf (X : Cx p s m args meth c cc own nL D tc dz A) (h : Sx D A ad Ks (lay tc ad gm dz I) s H locs) (hk : (30, b, z2, z3) ∈ Ks) (hq : Cond.fieldLink own index RX7 (TX7 12).2.1 (TX7 12).2.2.1 ∈ AW) (hdg : decode cc pc = .ok (.getfield index, 3)) (kk : W p l e R s m args below meth c H locs cells slots Q (F0 m (pc + 3) ls (.ref (ad (40, 0, 0, 0)) :: rest))) : W p l e R s m args below meth c H locs cells slots Q (F0 m pc ls (.ref (ad (30, b, z2, z3)) :: rest)) :=
  x_get X h hk rfl rfl inX7 12 (by decide) hq rfl rfl hdg kk
theorem gf_Model_copy (X : Cx p s m args meth c cc own nL D tc dz A) (h : Sx D A ad Ks (lay tc ad gm dz I) s H locs) (hk : (30, b, z2, z3) ∈ Ks) (hq : Cond.fieldLink own index RX7 (TX7 13).2.1 (TX7 13).2.2.1 ∈ AW) (hdg : decode cc pc = .ok (.getfield index, 3)) (kk : W p l e R s m args below meth c H locs cells slots Q (F0 m (pc + 3) ls (.ref (ad (41, 0, 0, 0)) :: rest))) : W p l e R s m args below meth c H locs cells slots Q (F0 m pc ls (.ref (ad (30, b, z2, z3)) :: rest)) :=
  x_get X h hk rfl rfl inX7 13 (by decide) hq rfl rfl hdg kk
theorem gf_Model_since (X : Cx p s m args meth c cc own nL D tc dz A) (h : Sx D A ad Ks (lay tc ad gm dz I) s H locs) (hk : (30, b, z2, z3) ∈ Ks) (hq : Cond.fieldLink own index RX7 (TX7 14).2.1 (TX7 14).2.2.1 ∈ AW) (hdg : decode cc pc = .ok (.getfield index, 3)) (kk : W p l e R s m args below meth c H locs cells slots Q (F0 m (pc + 3) ls (.ref (ad (42, 0, 0, 0)) :: rest))) : W p l e R s m args below meth c H locs cells slots Q (F0 m pc ls (.ref (ad (30, b, z2, z3)) :: rest)) :=
  x_get X h hk rfl rfl inX7 14 (by decide) hq rfl rfl hdg kk
theorem gf_Model_gained (X : Cx p s m args meth c cc own nL D tc dz A) (h : Sx D A ad Ks (lay tc ad gm dz I) s H locs) (hk : (30, b, z2, z3) ∈ Ks) (hq : Cond.fieldLink own index RX7 (TX7 15).2.1 (TX7 15).2.2.1 ∈ AW) {v : Int32} (hv : I (30, b, z2, z3) 3 = v) (hdg : decode cc pc = .ok (.getfield index, 3)) (kk : W p l e R s m args below meth c H locs cells slots Q (F0 m (pc + 3) ls (.int v :: rest))) : W p l e R s m args below meth c H locs cells slots Q (F0 m pc ls (.ref (ad (30, b, z2, z3)) :: rest)) := by
  subst hv
  exact x_get X h hk rfl rfl inX7 15 (by decide) hq rfl rfl hdg kk
theorem pf_Model_gained (X : Cx p s m args meth c cc own nL D tc dz A) (h : Sx D A ad Ks (lay tc ad gm dz I) s H locs) (hk : (30, b, z2, z3) ∈ Ks) (hq : Cond.fieldLink own index RX7 (TX7 15).2.1 (TX7 15).2.2.1 ∈ AW) {v : Int32} (hdg : decode cc pc = .ok (.putfield index, 3)) (kk : ∀ (H1 : Heap) (locs1 : List Loc), Sx D A ad Ks (lay tc ad gm dz (sset I (30, b, z2, z3) (upd (I (30, b, z2, z3)) 3 v))) s H1 locs1 → W p l e R s m args below meth c H1 locs1 cells slots Q (F0 m (pc + 3) ls rest)) : W p l e R s m args below meth c H locs cells slots Q (F0 m pc ls (.int v :: .ref (ad (30, b, z2, z3)) :: rest)) :=
  x_put X h hk rfl rfl inX7 tyX7_ok nmX7 15 (by decide) hq rfl rfl rfl rfl (Nat.le_of_ble_eq_true rfl) hdg (fun H1 locs1 h1 => kk H1 locs1 (h1.layI rfl))
theorem gf_Model_thrown (X : Cx p s m args meth c cc own nL D tc dz A) (h : Sx D A ad Ks (lay tc ad gm dz I) s H locs) (hk : (30, b, z2, z3) ∈ Ks) (hq : Cond.fieldLink own index RX7 (TX7 16).2.1 (TX7 16).2.2.1 ∈ AW) {v : Int32} (hv : I (30, b, z2, z3) 4 = v) (hdg : decode cc pc = .ok (.getfield index, 3)) (kk : W p l e R s m args below meth c H locs cells slots Q (F0 m (pc + 3) ls (.int v :: rest))) : W p l e R s m args below meth c H locs cells slots Q (F0 m pc ls (.ref (ad (30, b, z2, z3)) :: rest)) := by
  subst hv
  exact x_get X h hk rfl rfl inX7 16 (by decide) hq rfl rfl hdg kk
theorem pf_Model_thrown (X : Cx p s m args meth c cc own nL D tc dz A) (h : Sx D A ad Ks (lay tc ad gm dz I) s H locs) (hk : (30, b, z2, z3) ∈ Ks) (hq : Cond.fieldLink own index RX7 (TX7 16).2.1 (TX7 16).2.2.1 ∈ AW) {v : Int32} (hdg : decode cc pc = .ok (.putfield index, 3)) (kk : ∀ (H1 : Heap) (locs1 : List Loc), Sx D A ad Ks (lay tc ad gm dz (sset I (30, b, z2, z3) (upd (I (30, b, z2, z3)) 4 v))) s H1 locs1 → W p l e R s m args below meth c H1 locs1 cells slots Q (F0 m (pc + 3) ls rest)) : W p l e R s m args below meth c H locs cells slots Q (F0 m pc ls (.int v :: .ref (ad (30, b, z2, z3)) :: rest)) :=
  x_put X h hk rfl rfl inX7 tyX7_ok nmX7 16 (by decide) hq rfl rfl rfl rfl (Nat.le_of_ble_eq_true rfl) hdg (fun H1 locs1 h1 => kk H1 locs1 (h1.layI rfl))
theorem gf_Numbers_numbers (X : Cx p s m args meth c cc own nL D tc dz A) (h : Sx D A ad Ks (lay tc ad gm dz I) s H locs) {k ka : KN} (he : ∀ f, cont tc ad gm dz k f = .inr (6, [.ref (ad ka)])) (hk : k ∈ Ks) (hq : Cond.fieldLink own index RX5 (TX5 0).2.1 (TX5 0).2.2.1 ∈ AW) (hdg : decode cc pc = .ok (.getfield index, 3)) (kk : W p l e R s m args below meth c H locs cells slots Q (F0 m (pc + 3) ls (.ref (ad ka) :: rest))) : W p l e R s m args below meth c H locs cells slots Q (F0 m pc ls (.ref (ad k) :: rest)) :=
  x_get X h hk (he (I k)) rfl inX5 0 (by decide) hq rfl rfl hdg kk
theorem ra_entries (X : Cx p s m args meth c cc own nL D tc dz A) (h : Sx D A ad Ks (lay tc ad gm dz I) s H locs) (hk : (3, b, z2, z3) ∈ Ks) {j : Nat} (hj : j < 10) (hdg : decode cc pc = .ok (.aaload, 1)) (kk : W p l e R s m args below meth c H locs cells slots Q (F0 m (pc + 1) ls (.ref (ad (4, b, j, 0)) :: rest))) : W p l e R s m args below meth c H locs cells slots Q (F0 m pc ls (.int (nI j) :: .ref (ad (3, b, z2, z3)) :: rest)) :=
  x_aald X h hk 4 rfl rfl j hj (Nat.lt_trans (by decide : 10 < 2 ^ 30) (by decide)) rfl hdg kk
theorem ra_copies (X : Cx p s m args meth c cc own nL D tc dz A) (h : Sx D A ad Ks (lay tc ad gm dz I) s H locs) (hk : (6, b, z2, z3) ∈ Ks) {j : Nat} (hj : j < 6) (hdg : decode cc pc = .ok (.aaload, 1)) (kk : W p l e R s m args below meth c H locs cells slots Q (F0 m (pc + 1) ls (.ref (ad (9, b, z2, j)) :: rest))) : W p l e R s m args below meth c H locs cells slots Q (F0 m pc ls (.int (nI j) :: .ref (ad (6, b, z2, z3)) :: rest)) :=
  x_aald X h hk 5 rfl rfl j hj (Nat.lt_trans (by decide : 6 < 2 ^ 30) (by decide)) rfl hdg kk
end FIELDS
end
section
/-! small rows: ints that are natural numbers, ints that are booleans -/
def bI (b : Bool) : Int32 := if b then 1 else 0
theorem bI_t : bI true = 1 := rfl
theorem bI_f : bI false = 0 := rfl
theorem bI_nar (b : Bool) : narrow .boolean (.int (bI b)) = .int (bI b) := by cases b <;> decide
theorem bI_fit (b : Bool) : fits .boolean (.int (bI b)) = true := by cases b <;> decide
theorem bI_narI (b : Bool) : narrow .int (.int (bI b)) = .int (bI b) := by cases b <;> decide
theorem bI_vp (b : Bool) : vp_nar .boolean (bI b) = bI b := by cases b <;> decide
theorem nI_mul (a b : Nat) : nI a * nI b = nI (a * b) := by
  apply Int32.toBitVec_inj.mp
  simp [nI, Int32.toBitVec_mul]
theorem nI_sub {a b : Nat} (h : b ≤ a) : nI a - nI b = nI (a - b) := by
  have e : nI a = nI (a - b) + nI b := by rw [nI_add, Nat.sub_add_cancel h]
  rw [e]
  exact Int32.add_sub_cancel ..
theorem nI_bd {a : Nat} (h : a < 2 ^ 31) : (nI a).toInt = a := nI_toInt h
section HELP
variable {p : Program} {l : Launch} {e : Env} {R : Room} {s : State} {m : MethodId} {args : Array Value} {below : List Frame} {meth : Method} {c : Code} {H : Heap} {locs : List Loc} {cells slots : Nat} {Q : State → Prop}
variable {cc : ByteArray} {pc : Nat} {ls : Array Slot} {rest : List Value}
theorem n_iadd (hx : p.tables.exec = Jvm.exec) (hb : c.code = cc) {a b : Nat} (hdg : decode cc pc = .ok (.iadd, 1)) (k : W p l e R s m args below meth c H locs cells slots Q (F0 m (pc + 1) ls (.int (nI (a + b)) :: rest))) : W p l e R s m args below meth c H locs cells slots Q (F0 m pc ls (.int (nI b) :: .int (nI a) :: rest)) := lv_iadd hx hb hdg (by rw [nI_add]; exact k)
theorem n_imul (hx : p.tables.exec = Jvm.exec) (hb : c.code = cc) {a b : Nat} (hdg : decode cc pc = .ok (.imul, 1)) (k : W p l e R s m args below meth c H locs cells slots Q (F0 m (pc + 1) ls (.int (nI (a * b)) :: rest))) : W p l e R s m args below meth c H locs cells slots Q (F0 m pc ls (.int (nI b) :: .int (nI a) :: rest)) := lv_imul hx hb hdg (by rw [nI_mul]; exact k)
theorem n_isub (hx : p.tables.exec = Jvm.exec) (hb : c.code = cc) {a b : Nat} (h : b ≤ a) (hdg : decode cc pc = .ok (.isub, 1)) (k : W p l e R s m args below meth c H locs cells slots Q (F0 m (pc + 1) ls (.int (nI (a - b)) :: rest))) : W p l e R s m args below meth c H locs cells slots Q (F0 m pc ls (.int (nI b) :: .int (nI a) :: rest)) := lv_isub hx hb hdg (by rw [nI_sub h]; exact k)
theorem n_idiv (hx : p.tables.exec = Jvm.exec) (hb : c.code = cc) {a b : Nat} (ha : a < 2 ^ 31) (h0 : 0 < b) (hb2 : b < 2 ^ 31) (hdg : decode cc pc = .ok (.idiv, 1)) (k : W p l e R s m args below meth c H locs cells slots Q (F0 m (pc + 1) ls (.int (nI (a / b)) :: rest))) : W p l e R s m args below meth c H locs cells slots Q (F0 m pc ls (.int (nI b) :: .int (nI a) :: rest)) := lv_idiv hx hb hdg (nI_ne0 h0 hb2) (by rw [pk_div ha h0 hb2]; exact k)
theorem n_iinc (hx : p.tables.exec = Jvm.exec) (hb : c.code = cc) {i nL k j n : Nat} {z : Int} {lv lv' : List (Nat × Value)} (hdg : decode cc pc = .ok (.iinc i z, 3)) (h : lv_has ls nL lv) (hk : lv[k]? = some (i, .int (nI j))) (hz : Int32.ofInt z = nI n) (hn : i < nL) (hl : (i, Value.int (nI (j + n))) :: lv.filter (fun q => !(q.1 == i) && !(q.1 + 1 == i && q.2.category == 2)) = lv')
    (kk : ∀ ls' : Array Slot, lv_has ls' nL lv' → W p l e R s m args below meth c H locs cells slots Q (F0 m (pc + 3) ls' rest)) : W p l e R s m args below meth c H locs cells slots Q (F0 m pc ls rest) := lv_iinc (v := nI (j + n)) hx hb hdg h hk (by rw [hz, nI_add]) hn hl kk
theorem n_icmp_ge (hx : p.tables.exec = Jvm.exec) (hb : c.code = cc) {a b : Nat} (ha : a < 2 ^ 31) (hbb : b < 2 ^ 31) {off : Int} {tgt : Nat} (hdg : decode cc pc = .ok (.if_icmp .ge off, 3)) (ht : (pc : Int) + off = (tgt : Int)) (kt : b ≤ a → W p l e R s m args below meth c H locs cells slots Q (F0 m tgt ls rest)) (kf : a < b → W p l e R s m args below meth c H locs cells slots Q (F0 m (pc + 3) ls rest)) : W p l e R s m args below meth c H locs cells slots Q (F0 m pc ls (.int (nI b) :: .int (nI a) :: rest)) := lv_icmp_ge hx hb hdg ht (fun q => kt ((nI_leI hbb ha).mp q)) (fun q => kf (Nat.not_le.mp fun z => q ((nI_leI hbb ha).mpr z)))
theorem n_icmp_le (hx : p.tables.exec = Jvm.exec) (hb : c.code = cc) {a b : Nat} (ha : a < 2 ^ 31) (hbb : b < 2 ^ 31) {off : Int} {tgt : Nat} (hdg : decode cc pc = .ok (.if_icmp .le off, 3)) (ht : (pc : Int) + off = (tgt : Int)) (kt : a ≤ b → W p l e R s m args below meth c H locs cells slots Q (F0 m tgt ls rest)) (kf : b < a → W p l e R s m args below meth c H locs cells slots Q (F0 m (pc + 3) ls rest)) : W p l e R s m args below meth c H locs cells slots Q (F0 m pc ls (.int (nI b) :: .int (nI a) :: rest)) := lv_icmp_le hx hb hdg ht (fun q => kt ((nI_leI ha hbb).mp q)) (fun q => kf (Nat.not_le.mp fun z => q ((nI_leI ha hbb).mpr z)))
theorem n_icmp_lt (hx : p.tables.exec = Jvm.exec) (hb : c.code = cc) {a b : Nat} (ha : a < 2 ^ 31) (hbb : b < 2 ^ 31) {off : Int} {tgt : Nat} (hdg : decode cc pc = .ok (.if_icmp .lt off, 3)) (ht : (pc : Int) + off = (tgt : Int)) (kt : a < b → W p l e R s m args below meth c H locs cells slots Q (F0 m tgt ls rest)) (kf : b ≤ a → W p l e R s m args below meth c H locs cells slots Q (F0 m (pc + 3) ls rest)) : W p l e R s m args below meth c H locs cells slots Q (F0 m pc ls (.int (nI b) :: .int (nI a) :: rest)) := lv_icmp_lt hx hb hdg ht (fun q => kt ((nI_ltI ha hbb).mp q)) (fun q => kf (Nat.not_lt.mp fun z => q ((nI_ltI ha hbb).mpr z)))
theorem n_icmp_gt (hx : p.tables.exec = Jvm.exec) (hb : c.code = cc) {a b : Nat} (ha : a < 2 ^ 31) (hbb : b < 2 ^ 31) {off : Int} {tgt : Nat} (hdg : decode cc pc = .ok (.if_icmp .gt off, 3)) (ht : (pc : Int) + off = (tgt : Int)) (kt : b < a → W p l e R s m args below meth c H locs cells slots Q (F0 m tgt ls rest)) (kf : a ≤ b → W p l e R s m args below meth c H locs cells slots Q (F0 m (pc + 3) ls rest)) : W p l e R s m args below meth c H locs cells slots Q (F0 m pc ls (.int (nI b) :: .int (nI a) :: rest)) := lv_icmp_gt hx hb hdg ht (fun q => kt ((nI_ltI hbb ha).mp q)) (fun q => kf (Nat.not_lt.mp fun z => q ((nI_ltI hbb ha).mpr z)))
theorem n_icmp_eq (hx : p.tables.exec = Jvm.exec) (hb : c.code = cc) {a b : Nat} (ha : a < 2 ^ 31) (hbb : b < 2 ^ 31) {off : Int} {tgt : Nat} (hdg : decode cc pc = .ok (.if_icmp .eq off, 3)) (ht : (pc : Int) + off = (tgt : Int)) (kt : a = b → W p l e R s m args below meth c H locs cells slots Q (F0 m tgt ls rest)) (kf : a ≠ b → W p l e R s m args below meth c H locs cells slots Q (F0 m (pc + 3) ls rest)) : W p l e R s m args below meth c H locs cells slots Q (F0 m pc ls (.int (nI b) :: .int (nI a) :: rest)) := lv_icmp_eq hx hb hdg ht (fun q => kt ((nI_eq ha hbb).mp q)) (fun q => kf fun z => q ((nI_eq ha hbb).mpr z))
theorem n_icmp_ne (hx : p.tables.exec = Jvm.exec) (hb : c.code = cc) {a b : Nat} (ha : a < 2 ^ 31) (hbb : b < 2 ^ 31) {off : Int} {tgt : Nat} (hdg : decode cc pc = .ok (.if_icmp .ne off, 3)) (ht : (pc : Int) + off = (tgt : Int)) (kt : a ≠ b → W p l e R s m args below meth c H locs cells slots Q (F0 m tgt ls rest)) (kf : a = b → W p l e R s m args below meth c H locs cells slots Q (F0 m (pc + 3) ls rest)) : W p l e R s m args below meth c H locs cells slots Q (F0 m pc ls (.int (nI b) :: .int (nI a) :: rest)) := lv_icmp_ne hx hb hdg ht (fun q => kt fun z => q ((nI_eq ha hbb).mpr z)) (fun q => kf ((nI_eq ha hbb).mp q))
theorem n_if_eq (hx : p.tables.exec = Jvm.exec) (hb : c.code = cc) {a : Nat} (ha : a < 2 ^ 31) {off : Int} {tgt : Nat} (hdg : decode cc pc = .ok (.ifCond .eq off, 3)) (ht : (pc : Int) + off = (tgt : Int)) (kt : a = 0 → W p l e R s m args below meth c H locs cells slots Q (F0 m tgt ls rest)) (kf : 0 < a → W p l e R s m args below meth c H locs cells slots Q (F0 m (pc + 3) ls rest)) : W p l e R s m args below meth c H locs cells slots Q (F0 m pc ls (.int (nI a) :: rest)) := lv_if_eq hx hb hdg ht (fun q => kt (Decidable.byContradiction fun z => nI_ne0 (Nat.pos_of_ne_zero z) ha q)) (fun q => kf (Nat.pos_of_ne_zero fun z => q (by rw [z]; rfl)))
theorem n_if_ne (hx : p.tables.exec = Jvm.exec) (hb : c.code = cc) {a : Nat} (ha : a < 2 ^ 31) {off : Int} {tgt : Nat} (hdg : decode cc pc = .ok (.ifCond .ne off, 3)) (ht : (pc : Int) + off = (tgt : Int)) (kt : 0 < a → W p l e R s m args below meth c H locs cells slots Q (F0 m tgt ls rest)) (kf : a = 0 → W p l e R s m args below meth c H locs cells slots Q (F0 m (pc + 3) ls rest)) : W p l e R s m args below meth c H locs cells slots Q (F0 m pc ls (.int (nI a) :: rest)) := lv_if_ne hx hb hdg ht (fun q => kt (Nat.pos_of_ne_zero fun z => q (by rw [z]; rfl))) (fun q => kf (Decidable.byContradiction fun z => nI_ne0 (Nat.pos_of_ne_zero z) ha q))
theorem b_if_eq (hx : p.tables.exec = Jvm.exec) (hb : c.code = cc) {v : Bool} {off : Int} {tgt : Nat} (hdg : decode cc pc = .ok (.ifCond .eq off, 3)) (ht : (pc : Int) + off = (tgt : Int)) (kt : v = false → W p l e R s m args below meth c H locs cells slots Q (F0 m tgt ls rest)) (kf : v = true → W p l e R s m args below meth c H locs cells slots Q (F0 m (pc + 3) ls rest)) : W p l e R s m args below meth c H locs cells slots Q (F0 m pc ls (.int (bI v) :: rest)) := lv_if_eq hx hb hdg ht (fun q => kt (by cases v with | false => rfl | true => exact absurd q (by decide))) (fun q => kf (by cases v with | true => rfl | false => exact absurd rfl q))
theorem b_if_ne (hx : p.tables.exec = Jvm.exec) (hb : c.code = cc) {v : Bool} {off : Int} {tgt : Nat} (hdg : decode cc pc = .ok (.ifCond .ne off, 3)) (ht : (pc : Int) + off = (tgt : Int)) (kt : v = true → W p l e R s m args below meth c H locs cells slots Q (F0 m tgt ls rest)) (kf : v = false → W p l e R s m args below meth c H locs cells slots Q (F0 m (pc + 3) ls rest)) : W p l e R s m args below meth c H locs cells slots Q (F0 m pc ls (.int (bI v) :: rest)) := lv_if_ne hx hb hdg ht (fun q => kt (by cases v with | true => rfl | false => exact absurd rfl q)) (fun q => kf (by cases v with | false => rfl | true => exact absurd q (by decide)))
end HELP
end
section
theorem F_X6_init : YF yX6_init cX6_init 1 (Option.none : Option ClassFile.FieldType) 0 := ⟨q55, q27, by decide, by decide, by decide +kernel⟩
theorem F_X0_init : YF yX0_init cX0_init 2 (Option.none : Option ClassFile.FieldType) 0 := ⟨q63, q28, by decide, by decide, by decide +kernel⟩
theorem F_X2_init : YF yX2_init cX2_init 2 (Option.none : Option ClassFile.FieldType) 0 := ⟨q70, q29, by decide, by decide, by decide +kernel⟩
theorem F_Jx4a65c_init_da8c8 : YF yJx4a65c_init_da8c8 cJx4a65c_init_da8c8 1 (Option.none : Option ClassFile.FieldType) 0 := ⟨q78, q32, by decide, by decide, by decide +kernel⟩
theorem F_Jxc12de_init_da8c8 : YF yJxc12de_init_da8c8 cJxc12de_init_da8c8 1 (Option.none : Option ClassFile.FieldType) 0 := ⟨q81, q31, by decide, by decide, by decide +kernel⟩
theorem F_Jxa1e45_init_da8c8 : YF yJxa1e45_init_da8c8 cJxa1e45_init_da8c8 1 (Option.none : Option ClassFile.FieldType) 0 := ⟨q84, q30, by decide, by decide, by decide +kernel⟩
theorem F_X1_init : YF yX1_init cX1_init 1 (Option.none : Option ClassFile.FieldType) 0 := ⟨q104, q33, by decide, by decide, by decide +kernel⟩
theorem F_X5_init : YF yX5_init cX5_init 1 (Option.none : Option ClassFile.FieldType) 0 := ⟨q110, q34, by decide, by decide, by decide +kernel⟩
theorem F_X3_init : YF yX3_init cX3_init 1 (Option.none : Option ClassFile.FieldType) 0 := ⟨q189, q35, by decide, by decide, by decide +kernel⟩
theorem F_X6_entry : YF yX6_entry cX6_entry 2 (Option.some ClassFile.FieldType.int) 1 := ⟨q228, q27, by decide, by decide, by decide +kernel⟩
theorem F_X6_requireDevice : YF yX6_requireDevice cX6_requireDevice 1 (Option.none : Option ClassFile.FieldType) 1 := ⟨q231, q27, by decide, by decide, by decide +kernel⟩
theorem F_X6_isDevice : YF yX6_isDevice cX6_isDevice 1 (Option.some ClassFile.FieldType.boolean) 1 := ⟨q234, q27, by decide, by decide, by decide +kernel⟩
theorem F_X6_requireRoomInJournal : YF yX6_requireRoomInJournal cX6_requireRoomInJournal 1 (Option.none : Option ClassFile.FieldType) 0 := ⟨q322, q27, by decide, by decide, by decide +kernel⟩
theorem F_X3_isFull : YF yX3_isFull cX3_isFull 1 (Option.some ClassFile.FieldType.boolean) 0 := ⟨q326, q35, by decide, by decide, by decide +kernel⟩
theorem F_X3_write : YF yX3_write cX3_write 6 (Option.none : Option ClassFile.FieldType) 5 := ⟨q331, q35, by decide, by decide, by decide +kernel⟩
theorem F_X0_makeEntry : YF yX0_makeEntry cX0_makeEntry 3 (Option.some ClassFile.FieldType.int) 1 := ⟨q336, q28, by decide, by decide, by decide +kernel⟩
theorem F_X6_personOf : YF yX6_personOf cX6_personOf 1 (Option.some ClassFile.FieldType.int) 1 := ⟨q340, q27, by decide, by decide, by decide +kernel⟩
theorem F_X6_tell : YF yX6_tell cX6_tell 6 (Option.some ClassFile.FieldType.int) 4 := ⟨q348, q27, by decide, by decide, by decide +kernel⟩
theorem F_X6_knownEntry : YF yX6_knownEntry cX6_knownEntry 4 (Option.some (ClassFile.FieldType.object "BraidBook$Entry")) 3 := ⟨q351, q27, by decide, by decide, by decide +kernel⟩
theorem F_X0_find : YF yX0_find cX0_find 2 (Option.some (ClassFile.FieldType.object "BraidBook$Entry")) 1 := ⟨q355, q28, by decide, by decide, by decide +kernel⟩
theorem F_X6_requireField : YF yX6_requireField cX6_requireField 1 (Option.none : Option ClassFile.FieldType) 1 := ⟨q359, q27, by decide, by decide, by decide +kernel⟩
theorem F_X6_isField : YF yX6_isField cX6_isField 1 (Option.some ClassFile.FieldType.boolean) 1 := ⟨q362, q27, by decide, by decide, by decide +kernel⟩
theorem F_X2_fieldsFor : YF yX2_fieldsFor cX2_fieldsFor 3 (Option.some ClassFile.FieldType.int) 1 := ⟨q383, q29, by decide, by decide, by decide +kernel⟩
theorem F_X6_contains : YF yX6_contains cX6_contains 2 (Option.some ClassFile.FieldType.boolean) 2 := ⟨q387, q27, by decide, by decide, by decide +kernel⟩
theorem F_X0_tellValue : YF yX0_tellValue cX0_tellValue 10 (Option.some ClassFile.FieldType.int) 4 := ⟨q392, q28, by decide, by decide, by decide +kernel⟩
theorem F_X1_countValues : YF yX1_countValues cX1_countValues 4 (Option.some ClassFile.FieldType.int) 1 := ⟨q398, q33, by decide, by decide, by decide +kernel⟩
theorem F_X6_cell : YF yX6_cell cX6_cell 2 (Option.some ClassFile.FieldType.int) 2 := ⟨q401, q27, by decide, by decide, by decide +kernel⟩
theorem F_X1_dropValues : YF yX1_dropValues cX1_dropValues 3 (Option.none : Option ClassFile.FieldType) 1 := ⟨q405, q33, by decide, by decide, by decide +kernel⟩
theorem F_X0_nextAct : YF yX0_nextAct cX0_nextAct 2 (Option.some ClassFile.FieldType.int) 1 := ⟨q409, q28, by decide, by decide, by decide +kernel⟩
theorem F_X6_delete : YF yX6_delete cX6_delete 4 (Option.some ClassFile.FieldType.int) 2 := ⟨q417, q27, by decide, by decide, by decide +kernel⟩
theorem F_X6_requireOwner : YF yX6_requireOwner cX6_requireOwner 2 (Option.none : Option ClassFile.FieldType) 2 := ⟨q420, q27, by decide, by decide, by decide +kernel⟩
theorem F_X2_stateOn : YF yX2_stateOn cX2_stateOn 3 (Option.some ClassFile.FieldType.int) 1 := ⟨q426, q29, by decide, by decide, by decide +kernel⟩
theorem F_X2_isCovered : YF yX2_isCovered cX2_isCovered 4 (Option.some ClassFile.FieldType.boolean) 1 := ⟨q430, q29, by decide, by decide, by decide +kernel⟩
theorem F_Jx4a65c_size_8abf5 : YF yJx4a65c_size_8abf5 cJx4a65c_size_8abf5 1 (Option.some ClassFile.FieldType.int) 0 := ⟨q434, q32, by decide, by decide, by decide +kernel⟩
theorem F_Jx4a65c_get_915e3 : YF yJx4a65c_get_915e3 cJx4a65c_get_915e3 2 (Option.some (ClassFile.FieldType.object "java/lang/Object")) 1 := ⟨q438, q32, by decide, by decide, by decide +kernel⟩
theorem F_J15_checkIndex_7cf53 : YF yJ15_checkIndex_7cf53 cJ15_checkIndex_7cf53 2 (Option.some ClassFile.FieldType.int) 2 := ⟨q441, q43, by decide, by decide, by decide +kernel⟩
theorem F_J3_checkIndex_8e157 : YF yJ3_checkIndex_8e157 cJ3_checkIndex_8e157 3 (Option.some ClassFile.FieldType.int) 3 := ⟨q444, q44, by decide, by decide, by decide +kernel⟩
theorem F_Jx4a65c_elementData_915e3 : YF yJx4a65c_elementData_915e3 cJx4a65c_elementData_915e3 2 (Option.some (ClassFile.FieldType.object "java/lang/Object")) 1 := ⟨q448, q32, by decide, by decide, by decide +kernel⟩
theorem F_X4_isKnownOn : YF yX4_isKnownOn cX4_isKnownOn 2 (Option.some ClassFile.FieldType.boolean) 1 := ⟨q453, q45, by decide, by decide, by decide +kernel⟩
theorem F_X5_coverAll : YF yX5_coverAll cX5_coverAll 3 (Option.some ClassFile.FieldType.boolean) 1 := ⟨q457, q34, by decide, by decide, by decide +kernel⟩
theorem F_X1_countAllValues : YF yX1_countAllValues cX1_countAllValues 3 (Option.some ClassFile.FieldType.int) 0 := ⟨q461, q33, by decide, by decide, by decide +kernel⟩
theorem F_X0_setMark : YF yX0_setMark cX0_setMark 4 (Option.some ClassFile.FieldType.int) 2 := ⟨q466, q28, by decide, by decide, by decide +kernel⟩
theorem F_X2_addMark : YF yX2_addMark cX2_addMark 3 (Option.none : Option ClassFile.FieldType) 2 := ⟨q470, q29, by decide, by decide, by decide +kernel⟩
theorem F_X4_init : YF yX4_init cX4_init 1 (Option.none : Option ClassFile.FieldType) 0 := ⟨q474, q45, by decide, by decide, by decide +kernel⟩
theorem F_Jx4a65c_add_9ea2d : YF yJx4a65c_add_9ea2d cJx4a65c_add_9ea2d 2 (Option.some ClassFile.FieldType.boolean) 1 := ⟨q490, q32, by decide, by decide, by decide +kernel⟩
theorem F_Jx4a65c_add_72be8 : YF yJx4a65c_add_72be8 cJx4a65c_add_72be8 4 (Option.none : Option ClassFile.FieldType) 3 := ⟨q494, q32, by decide, by decide, by decide +kernel⟩
theorem F_Jx4a65c_grow_d5877 : YF yJx4a65c_grow_d5877 cJx4a65c_grow_d5877 1 (Option.some (ClassFile.FieldType.array (ClassFile.FieldType.object "java/lang/Object"))) 0 := ⟨q498, q32, by decide, by decide, by decide +kernel⟩
theorem F_Jx4a65c_grow_92f84 : YF yJx4a65c_grow_92f84 cJx4a65c_grow_92f84 4 (Option.some (ClassFile.FieldType.array (ClassFile.FieldType.object "java/lang/Object"))) 1 := ⟨q502, q32, by decide, by decide, by decide +kernel⟩
theorem F_J8_newLength_cabcc : YF yJ8_newLength_cabcc cJ8_newLength_cabcc 4 (Option.some ClassFile.FieldType.int) 3 := ⟨q505, q46, by decide, by decide, by decide +kernel⟩
theorem F_J9_max_7cf53 : YF yJ9_max_7cf53 cJ9_max_7cf53 2 (Option.some ClassFile.FieldType.int) 2 := ⟨q508, q47, by decide, by decide, by decide +kernel⟩
theorem F_J8_hugeLength_7cf53 : YF yJ8_hugeLength_7cf53 cJ8_hugeLength_7cf53 3 (Option.some ClassFile.FieldType.int) 2 := ⟨q512, q46, by decide, by decide, by decide +kernel⟩
theorem F_J7_copyOf_1904c : YF yJ7_copyOf_1904c cJ7_copyOf_1904c 2 (Option.some (ClassFile.FieldType.array (ClassFile.FieldType.object "java/lang/Object"))) 2 := ⟨q515, q48, by decide, by decide, by decide +kernel⟩
theorem F_J7_copyOf_6403c : YF yJ7_copyOf_6403c cJ7_copyOf_6403c 4 (Option.some (ClassFile.FieldType.array (ClassFile.FieldType.object "java/lang/Object"))) 3 := ⟨q534, q48, by decide, by decide, by decide +kernel⟩
theorem F_J9_min_7cf53 : YF yJ9_min_7cf53 cJ9_min_7cf53 2 (Option.some ClassFile.FieldType.int) 2 := ⟨q540, q47, by decide, by decide, by decide +kernel⟩
theorem F_X4_set : YF yX4_set cX4_set 5 (Option.none : Option ClassFile.FieldType) 3 := ⟨q549, q45, by decide, by decide, by decide +kernel⟩
theorem F_X5_clear : YF yX5_clear cX5_clear 2 (Option.none : Option ClassFile.FieldType) 0 := ⟨q553, q34, by decide, by decide, by decide +kernel⟩
theorem F_X5_raiseTo : YF yX5_raiseTo cX5_raiseTo 3 (Option.none : Option ClassFile.FieldType) 1 := ⟨q557, q34, by decide, by decide, by decide +kernel⟩
theorem F_X6_share : YF yX6_share cX6_share 6 (Option.some ClassFile.FieldType.int) 4 := ⟨q566, q27, by decide, by decide, by decide +kernel⟩
theorem F_X6_isPerson : YF yX6_isPerson cX6_isPerson 1 (Option.some ClassFile.FieldType.boolean) 1 := ⟨q569, q27, by decide, by decide, by decide +kernel⟩
theorem F_X0_shareFields : YF yX0_shareFields cX0_shareFields 7 (Option.some ClassFile.FieldType.int) 3 := ⟨q576, q28, by decide, by decide, by decide +kernel⟩
theorem F_X1_keepFields : YF yX1_keepFields cX1_keepFields 3 (Option.none : Option ClassFile.FieldType) 1 := ⟨q581, q33, by decide, by decide, by decide +kernel⟩
theorem F_X6_merge : YF yX6_merge cX6_merge 3 (Option.some ClassFile.FieldType.int) 2 := ⟨q589, q27, by decide, by decide, by decide +kernel⟩
theorem F_X0_mergeDevices : YF yX0_mergeDevices cX0_mergeDevices 5 (Option.some ClassFile.FieldType.int) 2 := ⟨q594, q28, by decide, by decide, by decide +kernel⟩
theorem F_X2_mergeOn : YF yX2_mergeOn cX2_mergeOn 6 (Option.some ClassFile.FieldType.int) 3 := ⟨q598, q29, by decide, by decide, by decide +kernel⟩
theorem F_X2_isOutdated : YF yX2_isOutdated cX2_isOutdated 5 (Option.some ClassFile.FieldType.boolean) 2 := ⟨q603, q29, by decide, by decide, by decide +kernel⟩
theorem F_X2_forget : YF yX2_forget cX2_forget 5 (Option.none : Option ClassFile.FieldType) 1 := ⟨q607, q29, by decide, by decide, by decide +kernel⟩
theorem F_X2_braid : YF yX2_braid cX2_braid 7 (Option.some ClassFile.FieldType.int) 4 := ⟨q613, q29, by decide, by decide, by decide +kernel⟩
theorem F_X1_braid : YF yX1_braid cX1_braid 7 (Option.some ClassFile.FieldType.int) 2 := ⟨q618, q33, by decide, by decide, by decide +kernel⟩
theorem F_X1_braidCell : YF yX1_braidCell cX1_braidCell 5 (Option.some ClassFile.FieldType.int) 2 := ⟨q622, q33, by decide, by decide, by decide +kernel⟩
theorem F_X4_spread : YF yX4_spread cX4_spread 4 (Option.none : Option ClassFile.FieldType) 3 := ⟨q627, q45, by decide, by decide, by decide +kernel⟩
theorem F_X1_exchangeNotes : YF yX1_exchangeNotes cX1_exchangeNotes 2 (Option.none : Option ClassFile.FieldType) 1 := ⟨q632, q33, by decide, by decide, by decide +kernel⟩
theorem F_X6_pass : YF yX6_pass cX6_pass 2 (Option.some ClassFile.FieldType.int) 1 := ⟨q640, q27, by decide, by decide, by decide +kernel⟩
theorem F_X0_passMonths : YF yX0_passMonths cX0_passMonths 4 (Option.some ClassFile.FieldType.int) 1 := ⟨q645, q28, by decide, by decide, by decide +kernel⟩
theorem F_X2_forgetWhereOld : YF yX2_forgetWhereOld cX2_forgetWhereOld 4 (Option.some ClassFile.FieldType.int) 1 := ⟨q649, q29, by decide, by decide, by decide +kernel⟩
theorem F_X2_newestMark : YF yX2_newestMark cX2_newestMark 4 (Option.some ClassFile.FieldType.int) 1 := ⟨q654, q29, by decide, by decide, by decide +kernel⟩
theorem F_X6_state : YF yX6_state cX6_state 4 (Option.some ClassFile.FieldType.int) 2 := ⟨q662, q27, by decide, by decide, by decide +kernel⟩
theorem F_X6_value : YF yX6_value cX6_value 5 (Option.some ClassFile.FieldType.int) 4 := ⟨q670, q27, by decide, by decide, by decide +kernel⟩
theorem F_X6_valueIn : YF yX6_valueIn cX6_valueIn 7 (Option.some ClassFile.FieldType.int) 5 := ⟨q673, q27, by decide, by decide, by decide +kernel⟩
theorem F_X1_valueAt : YF yX1_valueAt cX1_valueAt 6 (Option.some ClassFile.FieldType.int) 2 := ⟨q679, q33, by decide, by decide, by decide +kernel⟩
theorem F_X6_valueAnew : YF yX6_valueAnew cX6_valueAnew 5 (Option.some ClassFile.FieldType.int) 4 := ⟨q686, q27, by decide, by decide, by decide +kernel⟩
theorem F_X0_clear : YF yX0_clear cX0_clear 2 (Option.none : Option ClassFile.FieldType) 0 := ⟨q690, q28, by decide, by decide, by decide +kernel⟩
theorem F_X2_clear : YF yX2_clear cX2_clear 2 (Option.none : Option ClassFile.FieldType) 0 := ⟨q694, q29, by decide, by decide, by decide +kernel⟩
theorem F_X1_clear : YF yX1_clear cX1_clear 1 (Option.none : Option ClassFile.FieldType) 0 := ⟨q698, q33, by decide, by decide, by decide +kernel⟩
theorem F_X3_repeatOn : YF yX3_repeatOn cX3_repeatOn 6 (Option.none : Option ClassFile.FieldType) 1 := ⟨q704, q35, by decide, by decide, by decide +kernel⟩
theorem F_X6_values : YF yX6_values cX6_values 5 (Option.some ClassFile.FieldType.int) 3 := ⟨q717, q27, by decide, by decide, by decide +kernel⟩
theorem F_X6_seen : YF yX6_seen cX6_seen 6 (Option.some ClassFile.FieldType.int) 4 := ⟨q724, q27, by decide, by decide, by decide +kernel⟩
theorem F_X6_marks : YF yX6_marks cX6_marks 6 (Option.some ClassFile.FieldType.int) 2 := ⟨q732, q27, by decide, by decide, by decide +kernel⟩
theorem F_X2_countMarks : YF yX2_countMarks cX2_countMarks 4 (Option.some ClassFile.FieldType.int) 1 := ⟨q736, q29, by decide, by decide, by decide +kernel⟩
theorem F_X6_clashes : YF yX6_clashes cX6_clashes 2 (Option.some ClassFile.FieldType.int) 1 := ⟨q745, q27, by decide, by decide, by decide +kernel⟩
theorem F_X0_countClashes : YF yX0_countClashes cX0_countClashes 4 (Option.some ClassFile.FieldType.int) 1 := ⟨q749, q28, by decide, by decide, by decide +kernel⟩
theorem F_X1_countClashes : YF yX1_countClashes cX1_countClashes 3 (Option.some ClassFile.FieldType.int) 0 := ⟨q754, q33, by decide, by decide, by decide +kernel⟩
theorem F_X6_agreement : YF yX6_agreement cX6_agreement 4 (Option.some ClassFile.FieldType.float) 2 := ⟨q762, q27, by decide, by decide, by decide +kernel⟩
theorem F_X0_countCompared : YF yX0_countCompared cX0_countCompared 5 (Option.some ClassFile.FieldType.int) 2 := ⟨q766, q28, by decide, by decide, by decide +kernel⟩
theorem F_X2_comparedFields : YF yX2_comparedFields cX2_comparedFields 3 (Option.some ClassFile.FieldType.int) 2 := ⟨q770, q29, by decide, by decide, by decide +kernel⟩
theorem F_J6_bitCount_0f7a4 : YF yJ6_bitCount_0f7a4 cJ6_bitCount_0f7a4 1 (Option.some ClassFile.FieldType.int) 1 := ⟨q773, q50, by decide, by decide, by decide +kernel⟩
theorem F_X0_countSame : YF yX0_countSame cX0_countSame 5 (Option.some ClassFile.FieldType.int) 2 := ⟨q780, q28, by decide, by decide, by decide +kernel⟩
theorem F_X2_countSame : YF yX2_countSame cX2_countSame 6 (Option.some ClassFile.FieldType.int) 2 := ⟨q784, q29, by decide, by decide, by decide +kernel⟩
theorem F_X1_hasSameValues : YF yX1_hasSameValues cX1_hasSameValues 4 (Option.some ClassFile.FieldType.boolean) 2 := ⟨q789, q33, by decide, by decide, by decide +kernel⟩
theorem F_X7_init : YF yX7_init cX7_init 1 (Option.none : Option ClassFile.FieldType) 0 := ⟨q794, q36, by decide, by decide, by decide +kernel⟩
theorem F_X7_thrown : YF yX7_thrown cX7_thrown 1 (Option.some ClassFile.FieldType.int) 0 := ⟨q852, q36, by decide, by decide, by decide +kernel⟩
theorem F_X7_entry : YF yX7_entry cX7_entry 3 (Option.some ClassFile.FieldType.int) 1 := ⟨q856, q36, by decide, by decide, by decide +kernel⟩
theorem F_X7_isDevice : YF yX7_isDevice cX7_isDevice 1 (Option.some ClassFile.FieldType.boolean) 1 := ⟨q859, q36, by decide, by decide, by decide +kernel⟩
theorem F_X7_isIn : YF yX7_isIn cX7_isIn 3 (Option.some ClassFile.FieldType.boolean) 3 := ⟨q862, q36, by decide, by decide, by decide +kernel⟩
theorem F_X7_fails : YF yX7_fails cX7_fails 2 (Option.some ClassFile.FieldType.boolean) 1 := ⟨q866, q36, by decide, by decide, by decide +kernel⟩
theorem F_X7_pair : YF yX7_pair cX7_pair 2 (Option.some ClassFile.FieldType.int) 2 := ⟨q869, q36, by decide, by decide, by decide +kernel⟩
theorem F_X7_tell : YF yX7_tell cX7_tell 8 (Option.some ClassFile.FieldType.int) 4 := ⟨q873, q36, by decide, by decide, by decide +kernel⟩
theorem F_X7_isKnown : YF yX7_isKnown cX7_isKnown 3 (Option.some ClassFile.FieldType.boolean) 2 := ⟨q877, q36, by decide, by decide, by decide +kernel⟩
theorem F_X7_isEntry : YF yX7_isEntry cX7_isEntry 2 (Option.some ClassFile.FieldType.boolean) 1 := ⟨q881, q36, by decide, by decide, by decide +kernel⟩
theorem F_X7_isField : YF yX7_isField cX7_isField 1 (Option.some ClassFile.FieldType.boolean) 1 := ⟨q884, q36, by decide, by decide, by decide +kernel⟩
theorem F_X7_may : YF yX7_may cX7_may 4 (Option.some ClassFile.FieldType.boolean) 3 := ⟨q888, q36, by decide, by decide, by decide +kernel⟩
theorem F_X7_count : YF yX7_count cX7_count 6 (Option.some ClassFile.FieldType.int) 3 := ⟨q892, q36, by decide, by decide, by decide +kernel⟩
theorem F_X7_place : YF yX7_place cX7_place 4 (Option.some ClassFile.FieldType.int) 4 := ⟨q895, q36, by decide, by decide, by decide +kernel⟩
theorem F_X7_delete : YF yX7_delete cX7_delete 5 (Option.some ClassFile.FieldType.int) 2 := ⟨q899, q36, by decide, by decide, by decide +kernel⟩
theorem F_X7_isThere : YF yX7_isThere cX7_isThere 3 (Option.some ClassFile.FieldType.boolean) 2 := ⟨q903, q36, by decide, by decide, by decide +kernel⟩
theorem F_X7_all : YF yX7_all cX7_all 5 (Option.some ClassFile.FieldType.int) 2 := ⟨q907, q36, by decide, by decide, by decide +kernel⟩
theorem F_X7_isCovered : YF yX7_isCovered cX7_isCovered 5 (Option.some ClassFile.FieldType.boolean) 2 := ⟨q911, q36, by decide, by decide, by decide +kernel⟩
theorem F_X7_isKnownMark : YF yX7_isKnownMark cX7_isKnownMark 3 (Option.some ClassFile.FieldType.boolean) 2 := ⟨q915, q36, by decide, by decide, by decide +kernel⟩
theorem F_X7_covers : YF yX7_covers cX7_covers 6 (Option.some ClassFile.FieldType.boolean) 3 := ⟨q919, q36, by decide, by decide, by decide +kernel⟩
theorem F_X7_share : YF yX7_share cX7_share 10 (Option.some ClassFile.FieldType.int) 4 := ⟨q923, q36, by decide, by decide, by decide +kernel⟩
theorem F_X7_merge : YF yX7_merge cX7_merge 8 (Option.some ClassFile.FieldType.int) 2 := ⟨q927, q36, by decide, by decide, by decide +kernel⟩
theorem F_X7_areShared : YF yX7_areShared cX7_areShared 6 (Option.some ClassFile.FieldType.boolean) 3 := ⟨q931, q36, by decide, by decide, by decide +kernel⟩
theorem F_X7_isOld : YF yX7_isOld cX7_isOld 6 (Option.some ClassFile.FieldType.boolean) 3 := ⟨q935, q36, by decide, by decide, by decide +kernel⟩
theorem F_X7_forgets : YF yX7_forgets cX7_forgets 6 (Option.none : Option ClassFile.FieldType) 2 := ⟨q939, q36, by decide, by decide, by decide +kernel⟩
theorem F_X7_greater : YF yX7_greater cX7_greater 2 (Option.some ClassFile.FieldType.int) 2 := ⟨q942, q36, by decide, by decide, by decide +kernel⟩
theorem F_X7_joins : YF yX7_joins cX7_joins 6 (Option.none : Option ClassFile.FieldType) 3 := ⟨q946, q36, by decide, by decide, by decide +kernel⟩
theorem F_X7_merges : YF yX7_merges cX7_merges 10 (Option.none : Option ClassFile.FieldType) 2 := ⟨q950, q36, by decide, by decide, by decide +kernel⟩
theorem F_X7_learns : YF yX7_learns cX7_learns 3 (Option.none : Option ClassFile.FieldType) 2 := ⟨q954, q36, by decide, by decide, by decide +kernel⟩
theorem F_X7_notes : YF yX7_notes cX7_notes 7 (Option.none : Option ClassFile.FieldType) 3 := ⟨q958, q36, by decide, by decide, by decide +kernel⟩
theorem F_X7_pass : YF yX7_pass cX7_pass 5 (Option.some ClassFile.FieldType.int) 1 := ⟨q962, q36, by decide, by decide, by decide +kernel⟩
theorem F_X7_isAged : YF yX7_isAged cX7_isAged 6 (Option.some ClassFile.FieldType.boolean) 2 := ⟨q966, q36, by decide, by decide, by decide +kernel⟩
theorem F_X7_state : YF yX7_state cX7_state 4 (Option.some ClassFile.FieldType.int) 2 := ⟨q970, q36, by decide, by decide, by decide +kernel⟩
theorem F_X7_value : YF yX7_value cX7_value 5 (Option.some ClassFile.FieldType.int) 4 := ⟨q974, q36, by decide, by decide, by decide +kernel⟩
theorem F_X7_valueOf : YF yX7_valueOf cX7_valueOf 7 (Option.some ClassFile.FieldType.int) 4 := ⟨q978, q36, by decide, by decide, by decide +kernel⟩
theorem F_X7_teller : YF yX7_teller cX7_teller 7 (Option.some ClassFile.FieldType.int) 4 := ⟨q982, q36, by decide, by decide, by decide +kernel⟩
theorem F_X7_valueAnew : YF yX7_valueAnew cX7_valueAnew 5 (Option.some ClassFile.FieldType.int) 4 := ⟨q986, q36, by decide, by decide, by decide +kernel⟩
theorem F_X7_values : YF yX7_values cX7_values 5 (Option.some ClassFile.FieldType.int) 3 := ⟨q990, q36, by decide, by decide, by decide +kernel⟩
theorem F_X7_seen : YF yX7_seen cX7_seen 6 (Option.some ClassFile.FieldType.int) 4 := ⟨q994, q36, by decide, by decide, by decide +kernel⟩
theorem F_X7_marks : YF yX7_marks cX7_marks 6 (Option.some ClassFile.FieldType.int) 2 := ⟨q998, q36, by decide, by decide, by decide +kernel⟩
theorem F_X7_clashes : YF yX7_clashes cX7_clashes 5 (Option.some ClassFile.FieldType.int) 1 := ⟨q1002, q36, by decide, by decide, by decide +kernel⟩
theorem F_X7_agreement : YF yX7_agreement cX7_agreement 8 (Option.some ClassFile.FieldType.float) 2 := ⟨q1006, q36, by decide, by decide, by decide +kernel⟩
theorem F_X7_areSame : YF yX7_areSame cX7_areSame 7 (Option.some ClassFile.FieldType.boolean) 4 := ⟨q1010, q36, by decide, by decide, by decide +kernel⟩
theorem t66 : (Cond.arrayOver (ClassFile.FieldType.object "BraidBook$Entry")) ∈ lw_tbl := List.mem_of_getElem? (i := 66) (by decide +kernel)
theorem t73 : (Cond.arrayOver (ClassFile.FieldType.object "BraidBook$Copy")) ∈ lw_tbl := List.mem_of_getElem? (i := 73) (by decide +kernel)
theorem t102 : (Cond.methodLinkNest "BraidBook$Entry" 28 yX1_init "BraidBook") ∈ lw_tbl := List.mem_of_getElem? (i := 102) (by decide +kernel)
theorem t108 : (Cond.methodLinkNest "BraidBook$Copy" 20 yX5_init "BraidBook") ∈ lw_tbl := List.mem_of_getElem? (i := 108) (by decide +kernel)
theorem t187 : (Cond.methodLinkNest "BraidBook" 21 yX3_init "BraidBook") ∈ lw_tbl := List.mem_of_getElem? (i := 187) (by decide +kernel)
theorem t237 : (Cond.castable "java/lang/IndexOutOfBoundsException" "java/lang/IndexOutOfBoundsException") ∈ lw_tbl := List.mem_of_getElem? (i := 237) (by decide +kernel)
theorem t238 : (Cond.declares ⟨"java/lang/RuntimeException", "<init>", "()V"⟩) ∈ lw_tbl := List.mem_of_getElem? (i := 238) (by decide +kernel)
theorem t239 : (Cond.declares ⟨"java/lang/RuntimeException", "<init>", "(Ljava/lang/String;)V"⟩) ∈ lw_tbl := List.mem_of_getElem? (i := 239) (by decide +kernel)
theorem t240 : (Cond.declares ⟨"java/lang/Exception", "<init>", "()V"⟩) ∈ lw_tbl := List.mem_of_getElem? (i := 240) (by decide +kernel)
theorem t241 : (Cond.declares ⟨"java/lang/Exception", "<init>", "(Ljava/lang/String;)V"⟩) ∈ lw_tbl := List.mem_of_getElem? (i := 241) (by decide +kernel)
theorem t242 : (Cond.declares ⟨"java/lang/Throwable", "<init>", "()V"⟩) ∈ lw_tbl := List.mem_of_getElem? (i := 242) (by decide +kernel)
theorem t243 : (Cond.declares ⟨"java/lang/Throwable", "<init>", "(Ljava/lang/String;)V"⟩) ∈ lw_tbl := List.mem_of_getElem? (i := 243) (by decide +kernel)
theorem t276 : (Cond.stringRef "BraidBook" 191 "no such device") ∈ lw_tbl := List.mem_of_getElem? (i := 276) (by decide +kernel)
theorem t305 : (Cond.castable "java/lang/IllegalStateException" "java/lang/IllegalStateException") ∈ lw_tbl := List.mem_of_getElem? (i := 305) (by decide +kernel)
theorem t312 : (Cond.stringRef "BraidBook" 36 "there are 10 entries") ∈ lw_tbl := List.mem_of_getElem? (i := 312) (by decide +kernel)
theorem t327 : (Cond.stringRef "BraidBook" 203 "too many acts") ∈ lw_tbl := List.mem_of_getElem? (i := 327) (by decide +kernel)
theorem t337 : (Cond.methodLinkNest "BraidBook$Books" 32 yX6_isDevice "BraidBook") ∈ lw_tbl := List.mem_of_getElem? (i := 337) (by decide +kernel)
theorem t338 : (Cond.methodLinkNest "BraidBook$Books" 36 yX6_personOf "BraidBook") ∈ lw_tbl := List.mem_of_getElem? (i := 338) (by decide +kernel)
theorem t356 : (Cond.stringRef "BraidBook" 209 "the device knows no such entry") ∈ lw_tbl := List.mem_of_getElem? (i := 356) (by decide +kernel)
theorem t363 : (Cond.stringRef "BraidBook" 196 "no such field") ∈ lw_tbl := List.mem_of_getElem? (i := 363) (by decide +kernel)
theorem t366 : (Cond.castable "java/lang/IllegalArgumentException" "java/lang/IllegalArgumentException") ∈ lw_tbl := List.mem_of_getElem? (i := 366) (by decide +kernel)
theorem t373 : (Cond.stringRef "BraidBook" 61 "value out of range") ∈ lw_tbl := List.mem_of_getElem? (i := 373) (by decide +kernel)
theorem t384 : (Cond.methodLinkNest "BraidBook$Entry" 39 yX6_personOf "BraidBook") ∈ lw_tbl := List.mem_of_getElem? (i := 384) (by decide +kernel)
theorem t388 : (Cond.stringRef "BraidBook" 73 "the device may not have the field") ∈ lw_tbl := List.mem_of_getElem? (i := 388) (by decide +kernel)
theorem t394 : (Cond.methodLinkNest "BraidBook$Books" 57 yX6_isField "BraidBook") ∈ lw_tbl := List.mem_of_getElem? (i := 394) (by decide +kernel)
theorem t399 : (Cond.methodLinkNest "BraidBook$Copy" 42 yX6_cell "BraidBook") ∈ lw_tbl := List.mem_of_getElem? (i := 399) (by decide +kernel)
theorem t410 : (Cond.methodLinkNest "BraidBook$Books" 70 yX6_cell "BraidBook") ∈ lw_tbl := List.mem_of_getElem? (i := 410) (by decide +kernel)
theorem t422 : (Cond.stringRef "BraidBook" 201 "the device is not one of the owner") ∈ lw_tbl := List.mem_of_getElem? (i := 422) (by decide +kernel)
theorem t462 : (Cond.stringRef "BraidBook" 86 "the entry is not there") ∈ lw_tbl := List.mem_of_getElem? (i := 462) (by decide +kernel)
theorem t472 : (Cond.methodLinkNest "BraidBook$Entry" 86 yX4_init "BraidBook") ∈ lw_tbl := List.mem_of_getElem? (i := 472) (by decide +kernel)
theorem t477 : (Cond.methodLinkNest "BraidBook$Mark" 11 yX5_init "BraidBook") ∈ lw_tbl := List.mem_of_getElem? (i := 477) (by decide +kernel)
theorem t536 : (Cond.arrayOver (ClassFile.FieldType.object "java/lang/Object")) ∈ lw_tbl := List.mem_of_getElem? (i := 536) (by decide +kernel)
theorem t570 : (Cond.stringRef "BraidBook" 98 "no such person") ∈ lw_tbl := List.mem_of_getElem? (i := 570) (by decide +kernel)
theorem t571 : (Cond.stringRef "BraidBook" 101 "fields out of range") ∈ lw_tbl := List.mem_of_getElem? (i := 571) (by decide +kernel)
theorem t572 : (Cond.stringRef "BraidBook" 106 "the person is the owner") ∈ lw_tbl := List.mem_of_getElem? (i := 572) (by decide +kernel)
theorem t577 : (Cond.methodLinkNest "BraidBook$Books" 97 yX6_isPerson "BraidBook") ∈ lw_tbl := List.mem_of_getElem? (i := 577) (by decide +kernel)
theorem t582 : (Cond.methodLinkNest "BraidBook$Copy" 50 yX6_contains "BraidBook") ∈ lw_tbl := List.mem_of_getElem? (i := 582) (by decide +kernel)
theorem t590 : (Cond.stringRef "BraidBook" 112 "both devices are the same") ∈ lw_tbl := List.mem_of_getElem? (i := 590) (by decide +kernel)
theorem t614 : (Cond.methodLinkNest "BraidBook$Entry" 134 yX6_contains "BraidBook") ∈ lw_tbl := List.mem_of_getElem? (i := 614) (by decide +kernel)
theorem t641 : (Cond.stringRef "BraidBook" 121 "months out of range") ∈ lw_tbl := List.mem_of_getElem? (i := 641) (by decide +kernel)
theorem t663 : (Cond.stringRef "BraidBook" 130 "no such entry") ∈ lw_tbl := List.mem_of_getElem? (i := 663) (by decide +kernel)
theorem t675 : (Cond.stringRef "BraidBook" 211 "no such value") ∈ lw_tbl := List.mem_of_getElem? (i := 675) (by decide +kernel)
theorem t1014 : (Cond.castable "BraidBook$Entry" "java/lang/Object") ∈ lw_tbl := List.mem_of_getElem? (i := 1014) (by decide +kernel)
theorem t1015 : (Cond.castable "BraidBook$Copy" "java/lang/Object") ∈ lw_tbl := List.mem_of_getElem? (i := 1015) (by decide +kernel)
theorem t1016 : (Cond.castable "BraidBook" "java/lang/Object") ∈ lw_tbl := List.mem_of_getElem? (i := 1016) (by decide +kernel)
theorem t1017 : (Cond.castable "BraidBook$Books" "java/lang/Object") ∈ lw_tbl := List.mem_of_getElem? (i := 1017) (by decide +kernel)
theorem t1018 : (Cond.castable "java/util/ArrayList" "java/lang/Object") ∈ lw_tbl := List.mem_of_getElem? (i := 1018) (by decide +kernel)
theorem t1019 : (Cond.castable "BraidBook$Numbers" "java/lang/Object") ∈ lw_tbl := List.mem_of_getElem? (i := 1019) (by decide +kernel)
theorem t1020 : (Cond.castable "BraidBook$Journal" "java/lang/Object") ∈ lw_tbl := List.mem_of_getElem? (i := 1020) (by decide +kernel)
theorem t1021 : (Cond.castable "BraidBookModel" "java/lang/Object") ∈ lw_tbl := List.mem_of_getElem? (i := 1021) (by decide +kernel)
theorem t1022 : (Cond.castable "java/lang/IndexOutOfBoundsException" "java/lang/Object") ∈ lw_tbl := List.mem_of_getElem? (i := 1022) (by decide +kernel)
theorem t1023 : (Cond.castable "java/lang/IllegalStateException" "java/lang/Object") ∈ lw_tbl := List.mem_of_getElem? (i := 1023) (by decide +kernel)
theorem t1024 : (Cond.castable "java/lang/IllegalArgumentException" "java/lang/Object") ∈ lw_tbl := List.mem_of_getElem? (i := 1024) (by decide +kernel)
theorem t1025 : (Cond.castable "BraidBook$Mark" "java/lang/Object") ∈ lw_tbl := List.mem_of_getElem? (i := 1025) (by decide +kernel)
theorem t1026 : (Cond.castable "java/lang/Throwable" "java/lang/Object") ∈ lw_tbl := List.mem_of_getElem? (i := 1026) (by decide +kernel)
theorem t1027 : (Cond.castable "java/lang/String" "java/lang/Object") ∈ lw_tbl := List.mem_of_getElem? (i := 1027) (by decide +kernel)
theorem t1030 : (Cond.declares ⟨"java/lang/Object", "getClass", "()Ljava/lang/Class;"⟩) ∈ lw_tbl := List.mem_of_getElem? (i := 1030) (by decide +kernel)
theorem t1031 : (Cond.castable "[LBraidBook$Entry;" "java/lang/Object") ∈ lw_tbl := List.mem_of_getElem? (i := 1031) (by decide +kernel)
theorem t1032 : (Cond.castable "[LBraidBook$Copy;" "java/lang/Object") ∈ lw_tbl := List.mem_of_getElem? (i := 1032) (by decide +kernel)
theorem t1033 : (Cond.castable "[I" "java/lang/Object") ∈ lw_tbl := List.mem_of_getElem? (i := 1033) (by decide +kernel)
theorem t1034 : (Cond.castable "[B" "java/lang/Object") ∈ lw_tbl := List.mem_of_getElem? (i := 1034) (by decide +kernel)
theorem t1035 : (Cond.castable "[Ljava/lang/Object;" "java/lang/Object") ∈ lw_tbl := List.mem_of_getElem? (i := 1035) (by decide +kernel)
theorem t1036 : (Cond.castable "[Z" "java/lang/Object") ∈ lw_tbl := List.mem_of_getElem? (i := 1036) (by decide +kernel)
theorem t1037 : (Cond.castable "[J" "java/lang/Object") ∈ lw_tbl := List.mem_of_getElem? (i := 1037) (by decide +kernel)
theorem t1038 : (Cond.castable "[D" "java/lang/Object") ∈ lw_tbl := List.mem_of_getElem? (i := 1038) (by decide +kernel)
end
section
/-! rows filled from the left; memories -/
def pf {α : Type} (i : Nat) (g f : Nat → α) : Nat → α := fun c => if c < i then g c else f c
theorem pf_0 {α : Type} (g f : Nat → α) : pf 0 g f = f := by funext c; simp [pf]
theorem pf_s (i : Nat) (g f : Nat → Int32) : upd (pf i g f) i (g i) = pf (i + 1) g f := by
  funext c
  simp only [upd, pf]
  by_cases h : c = i
  · subst h; simp
  · by_cases h2 : c < i
    · simp [h, h2, Nat.lt_succ_of_lt h2]
    · have : ¬ c < i + 1 := by omega
      simp [h, h2, this]
theorem sset_id {α : Type} (I : KN → α) (k : KN) : sset I k (I k) = I := by
  funext k'
  by_cases h : k' = k
  · subst h; rw [sset_eq]
  · rw [sset_ne _ _ h]
theorem sset_sset {α : Type} (I : KN → α) (k : KN) (f g : α) : sset (sset I k f) k g = sset I k g := by
  funext k'
  by_cases h : k' = k
  · subst h; rw [sset_eq, sset_eq]
  · rw [sset_ne _ _ h, sset_ne _ _ h, sset_ne _ _ h]
theorem sset_comm {α : Type} (I : KN → α) {k k2 : KN} (hk : k ≠ k2) (f g : α) : sset (sset I k f) k2 g = sset (sset I k2 g) k f := by
  funext k'
  by_cases h : k' = k
  · subst h; rw [sset_ne _ _ hk, sset_eq, sset_eq]
  · by_cases h2 : k' = k2
    · subst h2; rw [sset_eq, sset_ne _ _ h, sset_eq]
    · rw [sset_ne _ _ h2, sset_ne _ _ h, sset_ne _ _ h, sset_ne _ _ h2]
theorem pf_at0 (I : Mem) (k : KN) (g : Nat → Int32) : I = sset I k (pf 0 g (I k)) := by rw [pf_0, sset_id]
theorem pf_step (I : Mem) (k : KN) {g f : Nat → Int32} {i : Nat} {v : Int32} (hv : v = g i) : sset (sset I k (pf i g f)) k (upd ((sset I k (pf i g f)) k) i v) = sset I k (pf (i + 1) g f) := by
  rw [sset_sset, sset_eq, hv, pf_s]
theorem pf_see (I : Mem) (k k' : KN) (g : Nat → Int32) (i : Nat) : (sset I k (pf i g (I k))) k' i = I k' i := by
  by_cases h : k' = k
  · subst h; rw [sset_eq]; simp [pf]
  · rw [sset_ne _ _ h]
theorem arr_ext {cA : ClassId} {n : Nat} {f g : Nat → Int32} (h : ∀ c, c < n → f c = g c) : vp_cell cA (n, .inl f) = vp_cell cA (n, .inl g) := by
  rw [vp_cell_i, vp_cell_i]
  unfold arrV
  congr 1
  apply congrArg
  funext j
  show Value.int (f j.val) = Value.int (g j.val)
  rw [h j.val j.isLt]
/-- outside an array's length nothing is said -/
theorem Sx.arr {D : va_G} {A : Nat → Prop} {tc : TC} {ad : KN → Nat} {gm : GM} {dz : Nat} {Ks : List KN} {I : Mem} {k : KN} {n t : Nat} {f g : Nat → Int32} {s : State} {H : Heap} {locs : List Loc} (h : Sx D A ad Ks (lay tc ad gm dz (sset I k f)) s H locs) (he : ∀ f, cont tc ad gm dz k f = .inl (tc t, n, .inl f)) (hfg : ∀ c, c < n → f c = g c) : Sx D A ad Ks (lay tc ad gm dz (sset I k g)) s H locs := by
  refine ⟨fun k' hk' => ?_, h.2⟩
  have h1 := h.1 k' hk'
  by_cases hk : k' = k
  · subst hk
    have e1 : lay tc ad gm dz (sset I k' f) k' = .inl (tc t, n, .inl f) := by show cont tc ad gm dz k' (sset I k' f k') = _; rw [sset_eq, he]
    have e2 : lay tc ad gm dz (sset I k' g) k' = .inl (tc t, n, .inl g) := by show cont tc ad gm dz k' (sset I k' g k') = _; rw [sset_eq, he]
    rw [e1] at h1
    rw [e2]
    exact Eq.trans (b := some (vp_cell (tc t) (n, .inl f))) h1 (congrArg some (arr_ext hfg))
  · have e1 : lay tc ad gm dz (sset I k f) k' = lay tc ad gm dz (sset I k g) k' := by
      show cont tc ad gm dz k' (sset I k f k') = cont tc ad gm dz k' (sset I k g k')
      rw [sset_ne _ _ hk, sset_ne _ _ hk]
    rw [← e1]
    exact h1
theorem Sx.pfEnd {D : va_G} {A : Nat → Prop} {tc : TC} {ad : KN → Nat} {gm : GM} {dz : Nat} {Ks : List KN} {I : Mem} {k : KN} {n t : Nat} {f g : Nat → Int32} {s : State} {H : Heap} {locs : List Loc} (h : Sx D A ad Ks (lay tc ad gm dz (sset I k (pf n g f))) s H locs) (he : ∀ f, cont tc ad gm dz k f = .inl (tc t, n, .inl f)) : Sx D A ad Ks (lay tc ad gm dz (sset I k g)) s H locs := h.arr he (fun c hc => by simp [pf, hc])
theorem nI_one : nI 1 = 1 := rfl
def imax (a b : Int32) : Int32 := if a < b then b else a
def imin (a b : Int32) : Int32 := if b < a then b else a
/-! what the class's small static methods answer -/
def isDev (x : Int32) : Bool := if x < 0 then false else if nI 6 ≤ x then false else true
def isPer (x : Int32) : Bool := if x < 0 then false else if nI 3 ≤ x then false else true
def isFld (x : Int32) : Bool := if x < 0 then false else if nI 4 ≤ x then false else true
theorem in_of {x : Int32} {n : Nat} (hn : n < 2 ^ 31) (h0 : ¬ x < 0) (h1 : ¬ nI n ≤ x) : ∃ j : Nat, j < n ∧ x = nI j := by
  rcases pk_ix x hn with h | h | h
  · exact absurd h h0
  · exact absurd h h1
  · exact h
theorem isDev_of {x : Int32} (h : isDev x = true) : ∃ j : Nat, j < 6 ∧ x = nI j := by
  unfold isDev at h
  by_cases h0 : x < 0
  · simp [h0] at h
  · by_cases h1 : nI 6 ≤ x
    · simp [h0, h1] at h
    · exact in_of (by decide) h0 h1
theorem isPer_of {x : Int32} (h : isPer x = true) : ∃ j : Nat, j < 3 ∧ x = nI j := by
  unfold isPer at h
  by_cases h0 : x < 0
  · simp [h0] at h
  · by_cases h1 : nI 3 ≤ x
    · simp [h0, h1] at h
    · exact in_of (by decide) h0 h1
theorem isFld_of {x : Int32} (h : isFld x = true) : ∃ j : Nat, j < 4 ∧ x = nI j := by
  unfold isFld at h
  by_cases h0 : x < 0
  · simp [h0] at h
  · by_cases h1 : nI 4 ≤ x
    · simp [h0, h1] at h
    · exact in_of (by decide) h0 h1
theorem isDev_nI {d : Nat} (h : d < 6) : isDev (nI d) = true := by
  unfold isDev
  rw [if_neg (nI_pos (by omega)), if_neg (nI_ge h (by decide))]
theorem isPer_nI {d : Nat} (h : d < 3) : isPer (nI d) = true := by
  unfold isPer
  rw [if_neg (nI_pos (by omega)), if_neg (nI_ge h (by decide))]
theorem isFld_nI {d : Nat} (h : d < 4) : isFld (nI d) = true := by
  unfold isFld
  rw [if_neg (nI_pos (by omega)), if_neg (nI_ge h (by decide))]
/-- bit f of x -/
def bit (x : Int32) (f : Nat) : Bool := if x >>> (nI f &&& 31) &&& nI 1 = 0 then false else true
def allB (p : Nat → Bool) : Nat → Bool
  | 0 => true
  | n + 1 => allB p n && p n
theorem allB_t {p : Nat → Bool} : ∀ {n : Nat}, (∀ j, j < n → p j = true) → allB p n = true
  | 0, _ => rfl
  | n + 1, h => by rw [allB, allB_t (fun j hj => h j (Nat.lt_succ_of_lt hj)), h n (Nat.lt_succ_self n)]; rfl
theorem allB_of {p : Nat → Bool} : ∀ {n : Nat}, allB p n = true → ∀ j, j < n → p j = true
  | 0, _, j, hj => absurd hj (Nat.not_lt_zero j)
  | n + 1, h, j, hj => by
    rw [allB, Bool.and_eq_true] at h
    rcases Nat.lt_succ_iff_lt_or_eq.mp hj with q | q
    · exact allB_of h.1 j q
    · rw [q]; exact h.2
theorem allB_iff {p : Nat → Bool} {n : Nat} : allB p n = true ↔ ∀ j, j < n → p j = true := ⟨allB_of, allB_t⟩
theorem allB_f {p : Nat → Bool} {n j : Nat} (hj : j < n) (h : p j = false) : allB p n = false := by
  cases hq : allB p n with
  | false => rfl
  | true => rw [allB_of hq j hj] at h; cases h
def anyB (p : Nat → Bool) : Nat → Bool
  | 0 => false
  | n + 1 => anyB p n || p n
theorem anyB_f {p : Nat → Bool} : ∀ {n : Nat}, (∀ j, j < n → p j = false) → anyB p n = false
  | 0, _ => rfl
  | n + 1, h => by rw [anyB, anyB_f (fun j hj => h j (Nat.lt_succ_of_lt hj)), h n (Nat.lt_succ_self n)]; rfl
theorem anyB_of {p : Nat → Bool} : ∀ {n : Nat}, anyB p n = false → ∀ j, j < n → p j = false
  | 0, _, j, hj => absurd hj (Nat.not_lt_zero j)
  | n + 1, h, j, hj => by
    rw [anyB, Bool.or_eq_false_iff] at h
    rcases Nat.lt_succ_iff_lt_or_eq.mp hj with q | q
    · exact anyB_of h.1 j q
    · rw [q]; exact h.2
theorem anyB_t {p : Nat → Bool} {n j : Nat} (hj : j < n) (h : p j = true) : anyB p n = true := by
  cases hq : anyB p n with
  | true => rfl
  | false => rw [anyB_of hq j hj] at h; cases h
/-- how many below n are so -/
def cntN (p : Nat → Bool) : Nat → Nat
  | 0 => 0
  | n + 1 => cntN p n + if p n then 1 else 0
theorem cntN_le (p : Nat → Bool) : ∀ n, cntN p n ≤ n
  | 0 => Nat.le_refl 0
  | n + 1 => by
    have ih := cntN_le p n
    rw [cntN]
    split <;> omega
theorem cntN_y {p : Nat → Bool} {n : Nat} (h : p n = true) : cntN p (n + 1) = cntN p n + 1 := by simp [cntN, h]
theorem cntN_n {p : Nat → Bool} {n : Nat} (h : p n = false) : cntN p (n + 1) = cntN p n := by simp [cntN, h]
def cov (A N : Nat → Int32) : Bool := allB (fun c => decide (A c ≤ N c)) 24
theorem cov_f {A N : Nat → Int32} {i : Nat} (hi : i < 24) (h : ¬ A i ≤ N i) : nI 0 = bI (cov A N) := by
  have : cov A N = false := allB_f hi (decide_eq_false h)
  rw [this]; rfl
theorem cov_t {A N : Nat → Int32} (h : ∀ j, j < 24 → A j ≤ N j) : nI 1 = bI (cov A N) := by
  have : cov A N = true := allB_t (fun j hj => decide_eq_true (h j hj))
  rw [this]; rfl
end
section
set_option maxHeartbeats 4000000 in
set_option maxRecDepth 100000 in
theorem m_X6_isDevice {l : Launch} {D : va_G} {tc : TC} {dz : Nat} {ad : KN → Nat} {Ks : List KN} {gm : GM} (I : Mem) (x : Int32) : MI l yX6_isDevice cX6_isDevice 1 (Option.some ClassFile.FieldType.boolean) 0 D tc dz ad Ks (lay tc ad gm dz I) [.int x] (bI (isDev x)) (lay tc ad gm dz I) := by
  intro sz
  refine x_ofW (by decide +kernel) (Nat.le_of_ble_eq_true rfl) (fun pp ee s mm bel meth cd ls X hr hin hz h hl => ?_)
  subst hz
  obtain ⟨hx, hb, hml, hown, hts⟩ := id X.1
  have hl : lv_has ls 1 [(0, .int x)] := hl
  refine lv_iload_n hx hb dX6_isDevice_0 rfl (lv_at hl 0 rfl) ?_
  refine lv_if_lt (tgt := 14) hx hb dX6_isDevice_1 (by decide) (fun c_1 => ?_) (fun c_1 => ?_)
  · skip
    refine lv_iconst (v := nI 0) hx hb dX6_isDevice_14 (by decide) ?_
    refine x_iret X h hr (by decide) ?_ (fun _ _ => rfl) dX6_isDevice_15
    · simp only [isDev, ↓reduceIte, c_1]; rfl
  · skip
    refine lv_iload_n hx hb dX6_isDevice_4 rfl (lv_at hl 0 rfl) ?_
    refine lv_bipush (v := nI 6) hx hb dX6_isDevice_5 (by decide) ?_
    refine lv_icmp_ge (tgt := 14) hx hb dX6_isDevice_7 (by decide) (fun c_7 => ?_) (fun c_7 => ?_)
    · skip
      refine lv_iconst (v := nI 0) hx hb dX6_isDevice_14 (by decide) ?_
      refine x_iret X h hr (by decide) ?_ (fun _ _ => rfl) dX6_isDevice_15
      · simp only [isDev, ↓reduceIte, c_1, c_7]; rfl
    · skip
      refine lv_iconst (v := nI 1) hx hb dX6_isDevice_10 (by decide) ?_
      refine lv_goto (tgt := 15) hx hb dX6_isDevice_11 (by decide) ?_
      refine x_iret X h hr (by decide) ?_ (fun _ _ => rfl) dX6_isDevice_15
      · simp only [isDev, ↓reduceIte, c_1, c_7]; rfl

set_option maxHeartbeats 4000000 in
set_option maxRecDepth 100000 in
theorem m_X6_isPerson {l : Launch} {D : va_G} {tc : TC} {dz : Nat} {ad : KN → Nat} {Ks : List KN} {gm : GM} (I : Mem) (x : Int32) : MI l yX6_isPerson cX6_isPerson 1 (Option.some ClassFile.FieldType.boolean) 0 D tc dz ad Ks (lay tc ad gm dz I) [.int x] (bI (isPer x)) (lay tc ad gm dz I) := by
  intro sz
  refine x_ofW (by decide +kernel) (Nat.le_of_ble_eq_true rfl) (fun pp ee s mm bel meth cd ls X hr hin hz h hl => ?_)
  subst hz
  obtain ⟨hx, hb, hml, hown, hts⟩ := id X.1
  have hl : lv_has ls 1 [(0, .int x)] := hl
  refine lv_iload_n hx hb dX6_isPerson_0 rfl (lv_at hl 0 rfl) ?_
  refine lv_if_lt (tgt := 13) hx hb dX6_isPerson_1 (by decide) (fun c_1 => ?_) (fun c_1 => ?_)
  · skip
    refine lv_iconst (v := nI 0) hx hb dX6_isPerson_13 (by decide) ?_
    refine x_iret X h hr (by decide) ?_ (fun _ _ => rfl) dX6_isPerson_14
    · simp only [isPer, ↓reduceIte, c_1]; rfl
  · skip
    refine lv_iload_n hx hb dX6_isPerson_4 rfl (lv_at hl 0 rfl) ?_
    refine lv_iconst (v := nI 3) hx hb dX6_isPerson_5 (by decide) ?_
    refine lv_icmp_ge (tgt := 13) hx hb dX6_isPerson_6 (by decide) (fun c_6 => ?_) (fun c_6 => ?_)
    · skip
      refine lv_iconst (v := nI 0) hx hb dX6_isPerson_13 (by decide) ?_
      refine x_iret X h hr (by decide) ?_ (fun _ _ => rfl) dX6_isPerson_14
      · simp only [isPer, ↓reduceIte, c_1, c_6]; rfl
    · skip
      refine lv_iconst (v := nI 1) hx hb dX6_isPerson_9 (by decide) ?_
      refine lv_goto (tgt := 14) hx hb dX6_isPerson_10 (by decide) ?_
      refine x_iret X h hr (by decide) ?_ (fun _ _ => rfl) dX6_isPerson_14
      · simp only [isPer, ↓reduceIte, c_1, c_6]; rfl

set_option maxHeartbeats 4000000 in
set_option maxRecDepth 100000 in
theorem m_X6_isField {l : Launch} {D : va_G} {tc : TC} {dz : Nat} {ad : KN → Nat} {Ks : List KN} {gm : GM} (I : Mem) (x : Int32) : MI l yX6_isField cX6_isField 1 (Option.some ClassFile.FieldType.boolean) 0 D tc dz ad Ks (lay tc ad gm dz I) [.int x] (bI (isFld x)) (lay tc ad gm dz I) := by
  intro sz
  refine x_ofW (by decide +kernel) (Nat.le_of_ble_eq_true rfl) (fun pp ee s mm bel meth cd ls X hr hin hz h hl => ?_)
  subst hz
  obtain ⟨hx, hb, hml, hown, hts⟩ := id X.1
  have hl : lv_has ls 1 [(0, .int x)] := hl
  refine lv_iload_n hx hb dX6_isField_0 rfl (lv_at hl 0 rfl) ?_
  refine lv_if_lt (tgt := 13) hx hb dX6_isField_1 (by decide) (fun c_1 => ?_) (fun c_1 => ?_)
  · skip
    refine lv_iconst (v := nI 0) hx hb dX6_isField_13 (by decide) ?_
    refine x_iret X h hr (by decide) ?_ (fun _ _ => rfl) dX6_isField_14
    · simp only [isFld, ↓reduceIte, c_1]; rfl
  · skip
    refine lv_iload_n hx hb dX6_isField_4 rfl (lv_at hl 0 rfl) ?_
    refine lv_iconst (v := nI 4) hx hb dX6_isField_5 (by decide) ?_
    refine lv_icmp_ge (tgt := 13) hx hb dX6_isField_6 (by decide) (fun c_6 => ?_) (fun c_6 => ?_)
    · skip
      refine lv_iconst (v := nI 0) hx hb dX6_isField_13 (by decide) ?_
      refine x_iret X h hr (by decide) ?_ (fun _ _ => rfl) dX6_isField_14
      · simp only [isFld, ↓reduceIte, c_1, c_6]; rfl
    · skip
      refine lv_iconst (v := nI 1) hx hb dX6_isField_9 (by decide) ?_
      refine lv_goto (tgt := 14) hx hb dX6_isField_10 (by decide) ?_
      refine x_iret X h hr (by decide) ?_ (fun _ _ => rfl) dX6_isField_14
      · simp only [isFld, ↓reduceIte, c_1, c_6]; rfl

set_option maxHeartbeats 4000000 in
set_option maxRecDepth 100000 in
theorem m_X6_personOf {l : Launch} {D : va_G} {tc : TC} {dz : Nat} {ad : KN → Nat} {Ks : List KN} {gm : GM} (I : Mem) (d : Nat) (hd : d < 6) : MI l yX6_personOf cX6_personOf 1 (Option.some ClassFile.FieldType.int) 0 D tc dz ad Ks (lay tc ad gm dz I) [.int (nI d)] (nI (d / 2)) (lay tc ad gm dz I) := by
  intro sz
  refine x_ofW (by decide +kernel) (Nat.le_of_ble_eq_true rfl) (fun pp ee s mm bel meth cd ls X hr hin hz h hl => ?_)
  subst hz
  obtain ⟨hx, hb, hml, hown, hts⟩ := id X.1
  have hl : lv_has ls 1 [(0, .int (nI d))] := hl
  refine lv_iload_n hx hb dX6_personOf_0 rfl (lv_at hl 0 rfl) ?_
  refine lv_iconst (v := nI 2) hx hb dX6_personOf_1 (by decide) ?_
  refine n_idiv hx hb (by omega) (by omega) (by omega) dX6_personOf_2 ?_
  exact x_iret X h hr rfl rfl (fun _ _ => rfl) dX6_personOf_3

set_option maxHeartbeats 4000000 in
set_option maxRecDepth 100000 in
theorem m_X6_cell {l : Launch} {D : va_G} {tc : TC} {dz : Nat} {ad : KN → Nat} {Ks : List KN} {gm : GM} (I : Mem) (f d : Nat) : MI l yX6_cell cX6_cell 2 (Option.some ClassFile.FieldType.int) 0 D tc dz ad Ks (lay tc ad gm dz I) [.int (nI f), .int (nI d)] (nI (f * 6 + d)) (lay tc ad gm dz I) := by
  intro sz
  refine x_ofW (by decide +kernel) (Nat.le_of_ble_eq_true rfl) (fun pp ee s mm bel meth cd ls X hr hin hz h hl => ?_)
  subst hz
  obtain ⟨hx, hb, hml, hown, hts⟩ := id X.1
  have hl : lv_has ls 2 [(0, .int (nI f)), (1, .int (nI d))] := hl
  refine lv_iload_n hx hb dX6_cell_0 rfl (lv_at hl 0 rfl) ?_
  refine lv_bipush (v := nI 6) hx hb dX6_cell_1 (by decide) ?_
  refine n_imul hx hb dX6_cell_3 ?_
  refine lv_iload_n hx hb dX6_cell_4 rfl (lv_at hl 1 rfl) ?_
  refine n_iadd hx hb dX6_cell_5 ?_
  exact x_iret X h hr rfl rfl (fun _ _ => rfl) dX6_cell_6

set_option maxHeartbeats 4000000 in
set_option maxRecDepth 100000 in
theorem m_X6_contains {l : Launch} {D : va_G} {tc : TC} {dz : Nat} {ad : KN → Nat} {Ks : List KN} {gm : GM} (I : Mem) (x : Int32) (f : Nat) : MI l yX6_contains cX6_contains 2 (Option.some ClassFile.FieldType.boolean) 0 D tc dz ad Ks (lay tc ad gm dz I) [.int x, .int (nI f)] (bI (bit x f)) (lay tc ad gm dz I) := by
  intro sz
  refine x_ofW (by decide +kernel) (Nat.le_of_ble_eq_true rfl) (fun pp ee s mm bel meth cd ls X hr hin hz h hl => ?_)
  subst hz
  obtain ⟨hx, hb, hml, hown, hts⟩ := id X.1
  have hl : lv_has ls 2 [(0, .int x), (1, .int (nI f))] := hl
  refine lv_iload_n hx hb dX6_contains_0 rfl (lv_at hl 0 rfl) ?_
  refine lv_iload_n hx hb dX6_contains_1 rfl (lv_at hl 1 rfl) ?_
  refine lv_ishr hx hb dX6_contains_2 ?_
  refine lv_iconst (v := nI 1) hx hb dX6_contains_3 (by decide) ?_
  refine lv_iand hx hb dX6_contains_4 ?_
  refine lv_if_eq (tgt := 12) hx hb dX6_contains_5 (by decide) (fun c_5 => ?_) (fun c_5 => ?_)
  · skip
    refine lv_iconst (v := nI 0) hx hb dX6_contains_12 (by decide) ?_
    refine x_iret X h hr (by decide) ?_ (fun _ _ => rfl) dX6_contains_13
    · simp only [bit, ↓reduceIte, c_5]; rfl
  · skip
    refine lv_iconst (v := nI 1) hx hb dX6_contains_8 (by decide) ?_
    refine lv_goto (tgt := 13) hx hb dX6_contains_9 (by decide) ?_
    refine x_iret X h hr (by decide) ?_ (fun _ _ => rfl) dX6_contains_13
    · simp only [bit, ↓reduceIte, c_5]; rfl

set_option maxHeartbeats 4000000 in
set_option maxRecDepth 100000 in
theorem m_X5_clear {l : Launch} {D : va_G} {tc : TC} {dz : Nat} {ad : KN → Nat} {Ks : List KN} {gm : GM} (I : Mem) (k ka : KN) (hc : ∀ f, cont tc ad gm dz k f = .inr (6, [.ref (ad ka)])) (hca : ∀ f, cont tc ad gm dz ka f = .inl (tc 0, 24, .inl f)) (hk : k ∈ Ks) (hka : ka ∈ Ks) : MV l yX5_clear cX5_clear 2 0 D tc dz ad Ks (lay tc ad gm dz I) [.ref (ad k)] (lay tc ad gm dz (sset I ka (fun _ => 0))) := by
  intro sz
  refine x_ofW (by decide +kernel) (Nat.le_of_ble_eq_true rfl) (fun pp ee s mm bel meth cd ls X hr hin hz h hl => ?_)
  subst hz
  obtain ⟨hx, hb, hml, hown, hts⟩ := id X.1
  have hl : lv_has ls 2 [(0, .ref (ad k))] := hl
  refine lv_iconst (v := nI 0) hx hb dX5_clear_0 (by decide) ?_
  refine lv_istore_n (lv' := [(1, .int (nI 0)), (0, .ref (ad k))]) hx hb dX5_clear_1 rfl hl (by decide) rfl (fun ls hl => ?_)
  refine y_loop (D := D) (A := wA ad Ks s.heap.size) (ad := ad) (Ks := Ks) (nL := 2) (fun i : Nat => lay tc ad gm dz (sset I ka (pf i (fun _ => 0) (I ka)))) (fun i => [(1, .int (nI i)), (0, .ref (ad k))]) (fun _ => []) (fun i : Nat => i ≤ 24) (fun i => 24 - i) (fun i hi2 ih2 H locs ls h hl => ?_) 0 (Nat.zero_le _) (h.eq (congrArg (lay tc ad gm dz) (pf_at0 I ka _))) (lv_sub hl [0, 1] rfl) rfl
  have h : Sx D (wA ad Ks s.heap.size) ad Ks (lay tc ad gm dz (sset I ka (pf i (fun _ => 0) (I ka)))) s H locs := h
  have hl : lv_has ls 2 [(1, .int (nI i)), (0, .ref (ad k))] := hl
  refine lv_iload_n hx hb dX5_clear_2 rfl (lv_at hl 0 rfl) ?_
  refine lv_bipush (v := nI 24) hx hb dX5_clear_3 (by decide) ?_
  refine n_icmp_ge (tgt := 21) hx hb (by omega) (by omega) dX5_clear_5 (by decide) (fun c_5 => ?_) (fun c_5 => ?_)
  · skip
    obtain rfl : i = 24 := by omega
    have h := h.pfEnd hca
    exact x_vret X h hr (fun _ _ => rfl) dX5_clear_21
  · skip
    refine lv_aload_n hx hb dX5_clear_8 rfl (lv_at hl 1 rfl) ?_
    refine gf_Numbers_numbers X h hc hk q112 dX5_clear_9 ?_
    refine lv_iload_n hx hb dX5_clear_12 rfl (lv_at hl 0 rfl) ?_
    refine lv_iconst (v := nI 0) hx hb dX5_clear_13 (by decide) ?_
    refine y_ast X h hca (by decide) hka (by omega) dX5_clear_14 (fun H locs h => ?_)
    refine n_iinc (j := i) (n := 1) (lv' := [(1, .int (nI (i + 1))), (0, .ref (ad k))]) hx hb dX5_clear_15 hl (k := 0) rfl (by decide) (by decide) rfl (fun ls hl => ?_)
    refine lv_goto (tgt := 2) hx hb dX5_clear_18 (by decide) ?_
    exact ih2 (i + 1) (by omega) (by omega) H locs ls (h.eq (congrArg (lay tc ad gm dz) (pf_step I ka rfl))) (lv_sub hl [0, 1] rfl)

set_option maxHeartbeats 4000000 in
set_option maxRecDepth 100000 in
theorem m_X5_raiseTo {l : Launch} {D : va_G} {tc : TC} {dz : Nat} {ad : KN → Nat} {Ks : List KN} {gm : GM} (I : Mem) (k ka : KN) (hc : ∀ f, cont tc ad gm dz k f = .inr (6, [.ref (ad ka)])) (hca : ∀ f, cont tc ad gm dz ka f = .inl (tc 0, 24, .inl f)) (hk : k ∈ Ks) (hka : ka ∈ Ks) (k2 ka2 : KN) (hc2 : ∀ f, cont tc ad gm dz k2 f = .inr (6, [.ref (ad ka2)])) (hca2 : ∀ f, cont tc ad gm dz ka2 f = .inl (tc 0, 24, .inl f)) (hk2 : k2 ∈ Ks) (hka2 : ka2 ∈ Ks) : MV l yX5_raiseTo cX5_raiseTo 3 1 D tc dz ad Ks (lay tc ad gm dz I) [.ref (ad k), .ref (ad k2)] (lay tc ad gm dz (sset I ka (fun c => imax (I ka c) (I ka2 c)))) := by
  intro sz
  refine x_ofW (by decide +kernel) (Nat.le_of_ble_eq_true rfl) (fun pp ee s mm bel meth cd ls X hr hin hz h hl => ?_)
  subst hz
  obtain ⟨hx, hb, hml, hown, hts⟩ := id X.1
  have hl : lv_has ls 3 [(0, .ref (ad k)), (1, .ref (ad k2))] := hl
  refine lv_iconst (v := nI 0) hx hb dX5_raiseTo_0 (by decide) ?_
  refine lv_istore_n (lv' := [(2, .int (nI 0)), (0, .ref (ad k)), (1, .ref (ad k2))]) hx hb dX5_raiseTo_1 rfl hl (by decide) rfl (fun ls hl => ?_)
  refine y_loop (D := D) (A := wA ad Ks s.heap.size) (ad := ad) (Ks := Ks) (nL := 3) (fun i : Nat => lay tc ad gm dz (sset I ka (pf i (fun c => imax (I ka c) (I ka2 c)) (I ka)))) (fun i => [(2, .int (nI i)), (0, .ref (ad k)), (1, .ref (ad k2))]) (fun _ => []) (fun i : Nat => i ≤ 24) (fun i => 24 - i) (fun i hi2 ih2 H locs ls h hl => ?_) 0 (Nat.zero_le _) (h.eq (congrArg (lay tc ad gm dz) (pf_at0 I ka _))) (lv_sub hl [0, 1, 2] rfl) rfl
  have h : Sx D (wA ad Ks s.heap.size) ad Ks (lay tc ad gm dz (sset I ka (pf i (fun c => imax (I ka c) (I ka2 c)) (I ka)))) s H locs := h
  have hl : lv_has ls 3 [(2, .int (nI i)), (0, .ref (ad k)), (1, .ref (ad k2))] := hl
  refine lv_iload_n hx hb dX5_raiseTo_2 rfl (lv_at hl 0 rfl) ?_
  refine lv_bipush (v := nI 24) hx hb dX5_raiseTo_3 (by decide) ?_
  refine n_icmp_ge (tgt := 35) hx hb (by omega) (by omega) dX5_raiseTo_5 (by decide) (fun c_5 => ?_) (fun c_5 => ?_)
  · skip
    obtain rfl : i = 24 := by omega
    have h := h.pfEnd hca
    exact x_vret X h hr (fun _ _ => rfl) dX5_raiseTo_35
  · skip
    refine lv_aload_n hx hb dX5_raiseTo_8 rfl (lv_at hl 1 rfl) ?_
    refine gf_Numbers_numbers X h hc hk q112 dX5_raiseTo_9 ?_
    refine lv_iload_n hx hb dX5_raiseTo_12 rfl (lv_at hl 0 rfl) ?_
    refine lv_aload_n hx hb dX5_raiseTo_13 rfl (lv_at hl 1 rfl) ?_
    refine gf_Numbers_numbers X h hc hk q112 dX5_raiseTo_14 ?_
    refine lv_iload_n hx hb dX5_raiseTo_17 rfl (lv_at hl 0 rfl) ?_
    refine y_ald X h hca (by decide) hka (by omega) (v := (I ka i)) (pf_see I ka ka _ i) dX5_raiseTo_18 ?_
    refine lv_aload_n hx hb dX5_raiseTo_19 rfl (lv_at hl 2 rfl) ?_
    refine gf_Numbers_numbers X h hc2 hk2 q112 dX5_raiseTo_20 ?_
    refine lv_iload_n hx hb dX5_raiseTo_23 rfl (lv_at hl 0 rfl) ?_
    refine y_ald X h hca2 (by decide) hka2 (by omega) (v := (I ka2 i)) (pf_see I ka ka2 _ i) dX5_raiseTo_24 ?_
    refine x_max X hl.1 q558 (by decide) (Nat.le_of_ble_eq_true rfl) (Nat.le_refl _) (Nat.le_refl _) dX5_raiseTo_25 ?_
    refine y_ast X h hca (by decide) hka (by omega) dX5_raiseTo_28 (fun H locs h => ?_)
    refine n_iinc (j := i) (n := 1) (lv' := [(2, .int (nI (i + 1))), (0, .ref (ad k)), (1, .ref (ad k2))]) hx hb dX5_raiseTo_29 hl (k := 0) rfl (by decide) (by decide) rfl (fun ls hl => ?_)
    refine lv_goto (tgt := 2) hx hb dX5_raiseTo_32 (by decide) ?_
    exact ih2 (i + 1) (by omega) (by omega) H locs ls (h.eq (congrArg (lay tc ad gm dz) (pf_step I ka rfl))) (lv_sub hl [0, 1, 2] rfl)

set_option maxHeartbeats 4000000 in
set_option maxRecDepth 100000 in
theorem m_X5_coverAll {l : Launch} {D : va_G} {tc : TC} {dz : Nat} {ad : KN → Nat} {Ks : List KN} {gm : GM} (I : Mem) (k ka : KN) (hc : ∀ f, cont tc ad gm dz k f = .inr (6, [.ref (ad ka)])) (hca : ∀ f, cont tc ad gm dz ka f = .inl (tc 0, 24, .inl f)) (hk : k ∈ Ks) (hka : ka ∈ Ks) (b e d : Nat) (hL : LV gm Ks) (hb2 : b < 2) (he : e < 10) (hd : d < 6) : MI l yX5_coverAll cX5_coverAll 3 (Option.some ClassFile.FieldType.boolean) 0 D tc dz ad Ks (lay tc ad gm dz I) [.ref (ad k), .ref (ad (9, b, e, d))] (bI (cov (I (10, b, e, d)) (I ka))) (lay tc ad gm dz I) := by
  intro sz
  refine x_ofW (by decide +kernel) (Nat.le_of_ble_eq_true rfl) (fun pp ee s mm bel meth cd ls X hr hin hz h hl => ?_)
  subst hz
  obtain ⟨hx, hb, hml, hown, hts⟩ := id X.1
  have hl : lv_has ls 3 [(0, .ref (ad k)), (1, .ref (ad (9, b, e, d)))] := hl
  refine lv_iconst (v := nI 0) hx hb dX5_coverAll_0 (by decide) ?_
  refine lv_istore_n (lv' := [(2, .int (nI 0)), (0, .ref (ad k)), (1, .ref (ad (9, b, e, d)))]) hx hb dX5_coverAll_1 rfl hl (by decide) rfl (fun ls hl => ?_)
  refine y_loop (D := D) (A := wA ad Ks s.heap.size) (ad := ad) (Ks := Ks) (nL := 3) (fun i : Nat => lay tc ad gm dz I) (fun i => [(2, .int (nI i)), (0, .ref (ad k)), (1, .ref (ad (9, b, e, d)))]) (fun _ => []) (fun i : Nat => i ≤ 24 ∧ (∀ j, j < i → I (10, b, e, d) j ≤ I ka j)) (fun i => 24 - i) (fun i hi2 ih2 H locs ls h hl => ?_) 0 ⟨Nat.zero_le _, fun j hj => absurd hj (Nat.not_lt_zero j)⟩ (h.eq (congrArg (lay tc ad gm dz) rfl)) (lv_sub hl [0, 1, 2] rfl) rfl
  have h : Sx D (wA ad Ks s.heap.size) ad Ks (lay tc ad gm dz I) s H locs := h
  have hl : lv_has ls 3 [(2, .int (nI i)), (0, .ref (ad k)), (1, .ref (ad (9, b, e, d)))] := hl
  obtain ⟨hi2, hj2⟩ := hi2
  refine lv_iload_n hx hb dX5_coverAll_2 rfl (lv_at hl 0 rfl) ?_
  refine lv_bipush (v := nI 24) hx hb dX5_coverAll_3 (by decide) ?_
  refine n_icmp_ge (tgt := 31) hx hb (by omega) (by omega) dX5_coverAll_5 (by decide) (fun c_5 => ?_) (fun c_5 => ?_)
  · skip
    refine lv_iconst (v := nI 1) hx hb dX5_coverAll_31 (by decide) ?_
    refine x_iret X h hr (by decide) ?_ (fun _ _ => rfl) dX5_coverAll_32
    · exact cov_t (fun j hj => hj2 j (by omega))
  · skip
    refine lv_aload_n hx hb dX5_coverAll_8 rfl (lv_at hl 2 rfl) ?_
    refine gf_Copy_acts X h (hL (9, b, e, d) ⟨by omega, by omega, by omega⟩) q126 dX5_coverAll_9 ?_
    refine lv_iload_n hx hb dX5_coverAll_12 rfl (lv_at hl 0 rfl) ?_
    refine y_ald X h (fun _ => rfl) (by decide) (hL (10, b, e, d) ⟨by omega, by omega, by omega⟩) (by omega) (v := I (10, b, e, d) i) rfl dX5_coverAll_13 ?_
    refine lv_aload_n hx hb dX5_coverAll_14 rfl (lv_at hl 1 rfl) ?_
    refine gf_Numbers_numbers X h hc hk q112 dX5_coverAll_15 ?_
    refine lv_iload_n hx hb dX5_coverAll_18 rfl (lv_at hl 0 rfl) ?_
    refine y_ald X h hca (by decide) hka (by omega) (v := I ka i) rfl dX5_coverAll_19 ?_
    refine lv_icmp_le (tgt := 25) hx hb dX5_coverAll_20 (by decide) (fun c_20 => ?_) (fun c_20 => ?_)
    · skip
      refine n_iinc (j := i) (n := 1) (lv' := [(2, .int (nI (i + 1))), (0, .ref (ad k)), (1, .ref (ad (9, b, e, d)))]) hx hb dX5_coverAll_25 hl (k := 0) rfl (by decide) (by decide) rfl (fun ls hl => ?_)
      refine lv_goto (tgt := 2) hx hb dX5_coverAll_28 (by decide) ?_
      exact ih2 (i + 1) ⟨by omega, lt_s hj2 c_20⟩ (by omega) H locs ls (h.eq (congrArg (lay tc ad gm dz) rfl)) (lv_sub hl [0, 1, 2] rfl)
    · skip
      refine lv_iconst (v := nI 0) hx hb dX5_coverAll_23 (by decide) ?_
      refine x_iret X h hr (by decide) ?_ (fun _ _ => rfl) dX5_coverAll_24
      · exact cov_f c_5 c_20
end
section
/-! rows of a copy -/
def rf {α : Type} (lo hi : Nat) (g f : Nat → α) : Nat → α := fun c => if lo ≤ c ∧ c < hi then g c else f c
theorem rf_0 {α : Type} (lo : Nat) (g f : Nat → α) : rf lo lo g f = f := by
  funext c
  have : ¬ (lo ≤ c ∧ c < lo) := by omega
  simp [rf, this]
theorem rf_at {α : Type} (lo i : Nat) (g f : Nat → α) : rf lo (lo + i) g f (lo + i) = f (lo + i) := by
  have : ¬ (lo ≤ lo + i ∧ lo + i < lo + i) := by omega
  simp [rf, this]
theorem rf_s (lo i : Nat) (g f : Nat → Int32) {v : Int32} (hv : v = g (lo + i)) : upd (rf lo (lo + i) g f) (lo + i) v = rf lo (lo + (i + 1)) g f := by
  subst hv
  funext c
  simp only [upd, rf]
  by_cases h : c = lo + i
  · subst h
    have : lo ≤ lo + i ∧ lo + i < lo + (i + 1) := by omega
    simp [this]
  · by_cases h2 : lo ≤ c ∧ c < lo + i
    · have : lo ≤ c ∧ c < lo + (i + 1) := by omega
      simp [h, h2, this]
    · have : ¬ (lo ≤ c ∧ c < lo + (i + 1)) := by omega
      simp [h, h2, this]
theorem upd_same {α : Type} (f : Nat → Int32) (k : Nat) : upd f k (f k) = f := by
  funext c
  simp only [upd]
  by_cases h : c = k
  · subst h; simp
  · simp [h]
def nz (x : Int32) : Bool := if x = 0 then false else true
def kno (x : Int32) : Bool := if x = (-1) then false else true
/-- how many values a field has, and all fields -/
def cvF (A : Nat → Int32) (f : Nat) : Nat := cntN (fun d => nz (A (f * 6 + d))) 6
def cvA (A : Nat → Int32) : Nat := cntN (fun c => nz (A c)) 24
def ccl (A : Nat → Int32) : Nat := cntN (fun f => decide (1 < cvF A f)) 4
theorem cvF_le (A : Nat → Int32) (f : Nat) : cvF A f ≤ 6 := cntN_le _ _
theorem cvA_le (A : Nat → Int32) : cvA A ≤ 24 := cntN_le _ _
theorem ccl_le (A : Nat → Int32) : ccl A ≤ 4 := cntN_le _ _
/-- the value at an index: n devices are left, from device k, 'left' values to pass -/
def vFrom (A T : Nat → Int32) (f : Nat) : Nat → Nat → Nat → Int32
  | 0, _, _ => -1
  | n + 1, k, left => if nz (A (f * 6 + k)) then (if left = 0 then T (f * 6 + k) else vFrom A T f n (k + 1) (left - 1)) else vFrom A T f n (k + 1) left
def keepR (F : Int32) (r : Nat → Int32) : Nat → Int32 := fun c => if bit F (c / 6) then r c else 0
def sameV (A B : Nat → Int32) (f : Nat) : Bool := allB (fun d => decide (A (f * 6 + d) = B (f * 6 + d))) 6
/-- braiding a cell: what stays at 'own' (an act's number or a value) of a, b with what both have seen -/
def bX (own a b sa sb va vb : Int32) : Int32 := if a = b then own else if sb < a then va else if sa < b then vb else 0
def bR (a b sa sb : Int32) : Int32 := if a = b then 0 else if bX a a b sa sb a b = 0 then 0 else 1
def sumI (g : Nat → Int32) : Nat → Int32
  | 0 => 0
  | n + 1 => sumI g n + g n
/-- memories -/
def keepM (F : Int32) (I : Mem) (b e d : Nat) : Mem := sset (sset (sset I (10, b, e, d) (keepR F (I (10, b, e, d)))) (11, b, e, d) (keepR F (I (11, b, e, d)))) (13, b, e, d) (keepR F (I (13, b, e, d)))
def dropM (f : Nat) (I : Mem) (b e d : Nat) : Mem := sset (sset I (10, b, e, d) (rf (f * 6) (f * 6 + 6) (fun _ => 0) (I (10, b, e, d)))) (11, b, e, d) (rf (f * 6) (f * 6 + 6) (fun _ => 0) (I (11, b, e, d)))
/-- a cell of two copies braided: rows A, T, S of the one, B, U, Z of the other -/
def gA (A B S Z : Nat → Int32) : Nat → Int32 := fun c => bX (A c) (A c) (B c) (S c) (Z c) (A c) (B c)
def gB (A B S Z : Nat → Int32) : Nat → Int32 := fun c => bX (B c) (A c) (B c) (S c) (Z c) (A c) (B c)
def gT (A B S Z T U : Nat → Int32) : Nat → Int32 := fun c => bX (T c) (A c) (B c) (S c) (Z c) (T c) (U c)
def gU (A B S Z T U : Nat → Int32) : Nat → Int32 := fun c => bX (U c) (A c) (B c) (S c) (Z c) (T c) (U c)
def gR (A B S Z : Nat → Int32) : Nat → Int32 := fun c => bR (A c) (B c) (S c) (Z c)
def gM (S Z : Nat → Int32) : Nat → Int32 := fun c => imax (S c) (Z c)
def cellM (I : Mem) (b e d d2 c : Nat) : Mem :=
  sset (sset (sset (sset I (10, b, e, d) (upd (I (10, b, e, d)) c (gA (I (10, b, e, d)) (I (10, b, e, d2)) (I (13, b, e, d)) (I (13, b, e, d2)) c)))
    (11, b, e, d) (upd (I (11, b, e, d)) c (gT (I (10, b, e, d)) (I (10, b, e, d2)) (I (13, b, e, d)) (I (13, b, e, d2)) (I (11, b, e, d)) (I (11, b, e, d2)) c)))
    (10, b, e, d2) (upd (I (10, b, e, d2)) c (gB (I (10, b, e, d)) (I (10, b, e, d2)) (I (13, b, e, d)) (I (13, b, e, d2)) c)))
    (11, b, e, d2) (upd (I (11, b, e, d2)) c (gU (I (10, b, e, d)) (I (10, b, e, d2)) (I (13, b, e, d)) (I (13, b, e, d2)) (I (11, b, e, d)) (I (11, b, e, d2)) c))
/-- the cells lo to hi - 1 braided, and what both have seen of them -/
def braidM (lo hi : Nat) (I : Mem) (b e d d2 : Nat) : Mem :=
  sset (sset (sset (sset (sset (sset I (10, b, e, d) (rf lo hi (gA (I (10, b, e, d)) (I (10, b, e, d2)) (I (13, b, e, d)) (I (13, b, e, d2))) (I (10, b, e, d))))
    (11, b, e, d) (rf lo hi (gT (I (10, b, e, d)) (I (10, b, e, d2)) (I (13, b, e, d)) (I (13, b, e, d2)) (I (11, b, e, d)) (I (11, b, e, d2))) (I (11, b, e, d))))
    (10, b, e, d2) (rf lo hi (gB (I (10, b, e, d)) (I (10, b, e, d2)) (I (13, b, e, d)) (I (13, b, e, d2))) (I (10, b, e, d2))))
    (11, b, e, d2) (rf lo hi (gU (I (10, b, e, d)) (I (10, b, e, d2)) (I (13, b, e, d)) (I (13, b, e, d2)) (I (11, b, e, d)) (I (11, b, e, d2))) (I (11, b, e, d2))))
    (13, b, e, d) (rf lo hi (gM (I (13, b, e, d)) (I (13, b, e, d2))) (I (13, b, e, d))))
    (13, b, e, d2) (rf lo hi (gM (I (13, b, e, d)) (I (13, b, e, d2))) (I (13, b, e, d2)))
/-- notes exchanged -/
def exchM (I : Mem) (b e d d2 : Nat) : Mem :=
  if nz (I (9, b, e, d) 1) || nz (I (9, b, e, d2) 1) then
    sset (sset (sset (sset I (9, b, e, d) (upd (I (9, b, e, d)) 1 1)) (9, b, e, d2) (upd (I (9, b, e, d2)) 1 1)) (15, b, e, d) (gM (I (15, b, e, d)) (I (15, b, e, d2)))) (15, b, e, d2) (gM (I (15, b, e, d2)) (gM (I (15, b, e, d)) (I (15, b, e, d2))))
  else I
def clearM (I : Mem) (b e d : Nat) : Mem :=
  sset (sset (sset (sset (sset I (9, b, e, d) (upd (upd (I (9, b, e, d)) 0 0) 1 0)) (10, b, e, d) (fun _ => 0)) (11, b, e, d) (fun _ => 0)) (13, b, e, d) (fun _ => 0)) (15, b, e, d) (fun _ => 0)
theorem bit_0 (f : Nat) : bit 0 f = false := by
  unfold bit
  rw [if_pos]
  have e : (0 : Int32) >>> (nI f &&& 31) = 0 := by
    apply Int32.toBitVec_inj.mp
    simp [Int32.toBitVec_shiftRight]
  rw [e]; rfl
theorem keepR_0 (r : Nat → Int32) : keepR 0 r = fun _ => 0 := by funext c; simp [keepR, bit_0]
/-- a mark set: what was seen, and since when each device knows it -/
def markM (I : Mem) (b e j d : Nat) (month : Int32) : Mem := sset (sset I (18, b, e, j) (fun c => imax 0 (I (13, b, e, d) c))) (19, b, e, j) (upd (fun _ => -1) d month)
def sprd (r : Nat → Int32) (d d2 : Nat) (month : Int32) : Nat → Int32 := if kno (r d) then (if kno (r d2) then r else upd r d2 month) else (if kno (r d2) then upd r d month else r)
end
section
theorem vF_n {A T : Nat → Int32} {f k left : Nat} (hq : nz (A (f * 6 + k)) = false) (hk : k < 6) : vFrom A T f (6 - k) k left = vFrom A T f (6 - (k + 1)) (k + 1) left := by
  rw [show 6 - k = (6 - (k + 1)) + 1 by omega, vFrom, hq]
  simp
theorem vF_y1 {A T : Nat → Int32} {f k left : Nat} (hq : nz (A (f * 6 + k)) = true) (hk : k < 6) (hl : 0 < left) : vFrom A T f (6 - k) k left = vFrom A T f (6 - (k + 1)) (k + 1) (left - 1) := by
  rw [show 6 - k = (6 - (k + 1)) + 1 by omega, vFrom, hq, if_pos rfl, if_neg (by omega)]
theorem vF_y0 {A T : Nat → Int32} {f k left : Nat} (hq : nz (A (f * 6 + k)) = true) (hk : k < 6) (hl : left = 0) : vFrom A T f (6 - k) k left = T (f * 6 + k) := by
  rw [show 6 - k = (6 - (k + 1)) + 1 by omega, vFrom, hq, if_pos rfl, if_pos hl]

theorem ne4 {k b e d d2 : Nat} (h : d ≠ d2) : ((k, b, e, d) : KN) ≠ (k, b, e, d2) := by
  intro q
  simp only [Prod.mk.injEq] at q
  exact h q.2.2.2
theorem nek {k k2 b b2 e e2 d d2 : Nat} (h : k ≠ k2) : ((k, b, e, d) : KN) ≠ (k2, b2, e2, d2) := by
  intro q
  simp only [Prod.mk.injEq] at q
  exact h q.1

theorem m_X6_isDevice_in {l : Launch} {D : va_G} {tc : TC} {dz : Nat} {ad : KN → Nat} {Ks : List KN} {gm : GM} (I : Mem) (d : Nat) (hd : d < 6) : MI l yX6_isDevice cX6_isDevice 1 (some .boolean) 0 D tc dz ad Ks (lay tc ad gm dz I) [.int (nI d)] (bI true) (lay tc ad gm dz I) := by
  have h := m_X6_isDevice (l := l) (D := D) (tc := tc) (dz := dz) (ad := ad) (Ks := Ks) (gm := gm) I (nI d)
  rw [isDev_nI hd] at h
  exact h

theorem m_X6_isPerson_in {l : Launch} {D : va_G} {tc : TC} {dz : Nat} {ad : KN → Nat} {Ks : List KN} {gm : GM} (I : Mem) (d : Nat) (hd : d < 3) : MI l yX6_isPerson cX6_isPerson 1 (some .boolean) 0 D tc dz ad Ks (lay tc ad gm dz I) [.int (nI d)] (bI true) (lay tc ad gm dz I) := by
  have h := m_X6_isPerson (l := l) (D := D) (tc := tc) (dz := dz) (ad := ad) (Ks := Ks) (gm := gm) I (nI d)
  rw [isPer_nI hd] at h
  exact h

theorem m_X6_isField_in {l : Launch} {D : va_G} {tc : TC} {dz : Nat} {ad : KN → Nat} {Ks : List KN} {gm : GM} (I : Mem) (d : Nat) (hd : d < 4) : MI l yX6_isField cX6_isField 1 (some .boolean) 0 D tc dz ad Ks (lay tc ad gm dz I) [.int (nI d)] (bI true) (lay tc ad gm dz I) := by
  have h := m_X6_isField (l := l) (D := D) (tc := tc) (dz := dz) (ad := ad) (Ks := Ks) (gm := gm) I (nI d)
  rw [isFld_nI hd] at h
  exact h

set_option maxHeartbeats 4000000 in
set_option maxRecDepth 100000 in
theorem m_X4_isKnownOn {l : Launch} {D : va_G} {tc : TC} {dz : Nat} {ad : KN → Nat} {Ks : List KN} {gm : GM} (I : Mem) (b e j : Nat) (hL : LV gm Ks) (hb2 : b < 2) (he : e < 10) (hj : j < (gm b e).1) (d : Nat) (hd : d < 6) : MI l yX4_isKnownOn cX4_isKnownOn 2 (Option.some ClassFile.FieldType.boolean) 0 D tc dz ad Ks (lay tc ad gm dz I) [.ref (ad (16, b, e, j)), .int (nI d)] (bI (kno (I (19, b, e, j) d))) (lay tc ad gm dz I) := by
  intro sz
  refine x_ofW (by decide +kernel) (Nat.le_of_ble_eq_true rfl) (fun pp ee s mm bel meth cd ls X hr hin hz h hl => ?_)
  subst hz
  obtain ⟨hx, hb, hml, hown, hts⟩ := id X.1
  have hl : lv_has ls 2 [(0, .ref (ad (16, b, e, j))), (1, .int (nI d))] := hl
  refine lv_aload_n hx hb dX4_isKnownOn_0 rfl (lv_at hl 0 rfl) ?_
  refine gf_Mark_knownSince X h (hL (16, b, e, j) ⟨by omega, by omega, by omega⟩) q480 dX4_isKnownOn_1 ?_
  refine lv_iload_n hx hb dX4_isKnownOn_4 rfl (lv_at hl 1 rfl) ?_
  refine y_ald X h (fun _ => rfl) (by decide) (hL (19, b, e, j) ⟨by omega, by omega, by omega⟩) (by omega) (v := I (19, b, e, j) d) rfl dX4_isKnownOn_5 ?_
  refine lv_iconst (v := (-1)) hx hb dX4_isKnownOn_6 (by decide) ?_
  refine lv_icmp_eq (tgt := 14) hx hb dX4_isKnownOn_7 (by decide) (fun c_7 => ?_) (fun c_7 => ?_)
  · skip
    refine lv_iconst (v := nI 0) hx hb dX4_isKnownOn_14 (by decide) ?_
    refine x_iret X h hr (by decide) ?_ (fun _ _ => rfl) dX4_isKnownOn_15
    · simp only [kno, ↓reduceIte, c_7]; rfl
  · skip
    refine lv_iconst (v := nI 1) hx hb dX4_isKnownOn_10 (by decide) ?_
    refine lv_goto (tgt := 15) hx hb dX4_isKnownOn_11 (by decide) ?_
    refine x_iret X h hr (by decide) ?_ (fun _ _ => rfl) dX4_isKnownOn_15
    · simp only [kno, ↓reduceIte, c_7]; rfl

set_option maxHeartbeats 4000000 in
set_option maxRecDepth 100000 in
theorem m_X4_set {l : Launch} {D : va_G} {tc : TC} {dz : Nat} {ad : KN → Nat} {Ks : List KN} {gm : GM} (I : Mem) (b e j : Nat) (hL : LV gm Ks) (hb2 : b < 2) (he : e < 10) (hj : j < (gm b e).1) (d : Nat) (hd : d < 6) (month : Int32) : MV l yX4_set cX4_set 5 2 D tc dz ad Ks (lay tc ad gm dz I) [.ref (ad (16, b, e, j)), .ref (ad (12, b, e, d)), .int (nI d), .int month] (lay tc ad gm dz (markM I b e j d month)) := by
  intro sz
  refine x_ofW (by decide +kernel) (Nat.le_of_ble_eq_true rfl) (fun pp ee s mm bel meth cd ls X hr hin hz h hl => ?_)
  subst hz
  obtain ⟨hx, hb, hml, hown, hts⟩ := id X.1
  have hl : lv_has ls 5 [(0, .ref (ad (16, b, e, j))), (1, .ref (ad (12, b, e, d))), (2, .int (nI d)), (3, .int month)] := hl
  refine lv_aload_n hx hb dX4_set_0 rfl (lv_at hl 0 rfl) ?_
  refine gf_Mark_seen X h (hL (16, b, e, j) ⟨by omega, by omega, by omega⟩) q478 dX4_set_1 ?_
  refine x_doneV X h (x_runV X h (k := (17, b, e, j)) (m_X5_clear I (17, b, e, j) (18, b, e, j) (fun _ => rfl) (fun _ => rfl) (hL (17, b, e, j) ⟨by omega, by omega, by omega⟩) (hL (18, b, e, j) ⟨by omega, by omega, by omega⟩) _) F_X5_clear q550 q551 q552 (hL (17, b, e, j) ⟨by omega, by omega, by omega⟩) rfl rfl rfl (by decide) (by decide) ⟨Nat.le_refl _, Nat.le_refl _⟩ hl.1 (Nat.le_of_ble_eq_true rfl) dX4_set_4 rfl) (fun H locs h => ?_)
  refine lv_aload_n hx hb dX4_set_7 rfl (lv_at hl 0 rfl) ?_
  refine gf_Mark_seen X h (hL (16, b, e, j) ⟨by omega, by omega, by omega⟩) q478 dX4_set_8 ?_
  refine lv_aload_n hx hb dX4_set_11 rfl (lv_at hl 1 rfl) ?_
  refine x_doneV X h (x_runV X h (k := (17, b, e, j)) (m_X5_raiseTo (sset I (18, b, e, j) (fun _ => 0)) (17, b, e, j) (18, b, e, j) (fun _ => rfl) (fun _ => rfl) (hL (17, b, e, j) ⟨by omega, by omega, by omega⟩) (hL (18, b, e, j) ⟨by omega, by omega, by omega⟩) (12, b, e, d) (13, b, e, d) (fun _ => rfl) (fun _ => rfl) (hL (12, b, e, d) ⟨by omega, by omega, by omega⟩) (hL (13, b, e, d) ⟨by omega, by omega, by omega⟩) _) F_X5_raiseTo q554 q555 q556 (hL (17, b, e, j) ⟨by omega, by omega, by omega⟩) rfl rfl rfl (by decide) (by decide) ⟨Nat.le_refl _, Nat.le_refl _⟩ hl.1 (Nat.le_of_ble_eq_true rfl) dX4_set_12 rfl) (fun H locs h => ?_)
  have hm : (sset (sset I (18, b, e, j) (fun _ => 0)) (18, b, e, j) (gM ((sset I (18, b, e, j) (fun _ => 0)) (18, b, e, j)) ((sset I (18, b, e, j) (fun _ => 0)) (13, b, e, d)))) = (sset I (18, b, e, j) (fun c => imax 0 (I (13, b, e, d) c))) := by
    simp only [sset_sset, sset_eq, sset_ne _ _ ((nek (by decide)) : ((13, b, e, d) : KN) ≠ (18, b, e, j))]
    rfl
  have h := h.eq (congrArg (lay tc ad gm dz) hm)
  refine lv_iconst (v := nI 0) hx hb dX4_set_15 (by decide) ?_
  refine lv_istore (lv' := [(4, .int (nI 0)), (0, .ref (ad (16, b, e, j))), (1, .ref (ad (12, b, e, d))), (2, .int (nI d)), (3, .int month)]) hx hb dX4_set_16 hl (by decide) rfl (fun ls hl => ?_)
  refine y_loop (D := D) (A := wA ad Ks s.heap.size) (ad := ad) (Ks := Ks) (nL := 5) (fun i : Nat => lay tc ad gm dz (sset (sset I (18, b, e, j) (fun c => imax 0 (I (13, b, e, d) c))) (19, b, e, j) (pf i (fun _ => -1) ((sset I (18, b, e, j) (fun c => imax 0 (I (13, b, e, d) c))) (19, b, e, j))))) (fun i => [(4, .int (nI i)), (0, .ref (ad (16, b, e, j))), (2, .int (nI d)), (3, .int month)]) (fun _ => []) (fun i : Nat => i ≤ 6) (fun i => 6 - i) (fun i hi18 ih18 H locs ls h hl => ?_) 0 (Nat.zero_le _) (h.eq (congrArg (lay tc ad gm dz) (pf_at0 (sset I (18, b, e, j) (fun c => imax 0 (I (13, b, e, d) c))) (19, b, e, j) _))) (lv_sub hl [0, 1, 3, 4] rfl) rfl
  have h : Sx D (wA ad Ks s.heap.size) ad Ks (lay tc ad gm dz (sset (sset I (18, b, e, j) (fun c => imax 0 (I (13, b, e, d) c))) (19, b, e, j) (pf i (fun _ => -1) ((sset I (18, b, e, j) (fun c => imax 0 (I (13, b, e, d) c))) (19, b, e, j))))) s H locs := h
  have hl : lv_has ls 5 [(4, .int (nI i)), (0, .ref (ad (16, b, e, j))), (2, .int (nI d)), (3, .int month)] := hl
  refine lv_iload hx hb dX4_set_18 (lv_at hl 0 rfl) ?_
  refine lv_bipush (v := nI 6) hx hb dX4_set_20 (by decide) ?_
  refine n_icmp_ge (tgt := 39) hx hb (by omega) (by omega) dX4_set_22 (by decide) (fun c_22 => ?_) (fun c_22 => ?_)
  · skip
    obtain rfl : i = 6 := by omega
    have h := h.pfEnd (fun _ => rfl)
    refine lv_aload_n hx hb dX4_set_39 rfl (lv_at hl 1 rfl) ?_
    refine gf_Mark_knownSince X h (hL (16, b, e, j) ⟨by omega, by omega, by omega⟩) q480 dX4_set_40 ?_
    refine lv_iload_n hx hb dX4_set_43 rfl (lv_at hl 2 rfl) ?_
    refine lv_iload_n hx hb dX4_set_44 rfl (lv_at hl 3 rfl) ?_
    refine y_ast X h (fun _ => rfl) (by decide) (hL (19, b, e, j) ⟨by omega, by omega, by omega⟩) (by omega) dX4_set_45 (fun H locs h => ?_)
    refine x_vret X h hr (fun k _ => congrFun (congrArg (lay tc ad gm dz) ?_) k) dX4_set_46
    · simp only [markM, sset_sset, sset_eq]
  · skip
    refine lv_aload_n hx hb dX4_set_25 rfl (lv_at hl 1 rfl) ?_
    refine gf_Mark_knownSince X h (hL (16, b, e, j) ⟨by omega, by omega, by omega⟩) q480 dX4_set_26 ?_
    refine lv_iload hx hb dX4_set_29 (lv_at hl 0 rfl) ?_
    refine lv_iconst (v := (-1)) hx hb dX4_set_31 (by decide) ?_
    refine y_ast X h (fun _ => rfl) (by decide) (hL (19, b, e, j) ⟨by omega, by omega, by omega⟩) (by omega) dX4_set_32 (fun H locs h => ?_)
    refine n_iinc (j := i) (n := 1) (lv' := [(4, .int (nI (i + 1))), (0, .ref (ad (16, b, e, j))), (2, .int (nI d)), (3, .int month)]) hx hb dX4_set_33 hl (k := 0) rfl (by decide) (by decide) rfl (fun ls hl => ?_)
    refine lv_goto (tgt := 18) hx hb dX4_set_36 (by decide) ?_
    exact ih18 (i + 1) (by omega) (by omega) H locs ls (h.eq (congrArg (lay tc ad gm dz) (pf_step (sset I (18, b, e, j) (fun c => imax 0 (I (13, b, e, d) c))) (19, b, e, j) rfl))) (lv_sub hl [0, 1, 2, 3] rfl)

set_option maxHeartbeats 4000000 in
set_option maxRecDepth 100000 in
theorem m_X4_spread {l : Launch} {D : va_G} {tc : TC} {dz : Nat} {ad : KN → Nat} {Ks : List KN} {gm : GM} (I : Mem) (b e j : Nat) (hL : LV gm Ks) (hb2 : b < 2) (he : e < 10) (hj : j < (gm b e).1) (d d2 : Nat) (hd : d < 6) (hd2 : d2 < 6) (month : Int32) : MV l yX4_spread cX4_spread 4 1 D tc dz ad Ks (lay tc ad gm dz I) [.ref (ad (16, b, e, j)), .int (nI d), .int (nI d2), .int month] (lay tc ad gm dz (sset I (19, b, e, j) (sprd (I (19, b, e, j)) d d2 month))) := by
  intro sz
  refine x_ofW (by decide +kernel) (Nat.le_of_ble_eq_true rfl) (fun pp ee s mm bel meth cd ls X hr hin hz h hl => ?_)
  subst hz
  obtain ⟨hx, hb, hml, hown, hts⟩ := id X.1
  have hl : lv_has ls 4 [(0, .ref (ad (16, b, e, j))), (1, .int (nI d)), (2, .int (nI d2)), (3, .int month)] := hl
  refine lv_aload_n hx hb dX4_spread_0 rfl (lv_at hl 0 rfl) ?_
  refine lv_iload_n hx hb dX4_spread_1 rfl (lv_at hl 1 rfl) ?_
  refine x_doneI X h (x_runV X h (k := (16, b, e, j)) (m_X4_isKnownOn I b e j hL (by omega) (by omega) (by omega) d (by omega) _) F_X4_isKnownOn q628 q451 q452 (hL (16, b, e, j) ⟨by omega, by omega, by omega⟩) rfl rfl rfl (by decide) (by decide) ⟨Nat.le_refl _, Nat.le_refl _⟩ hl.1 (Nat.le_of_ble_eq_true rfl) dX4_spread_2 rfl) (fun H locs h => ?_)
  refine b_if_eq (tgt := 26) hx hb dX4_spread_5 (by decide) (fun c_5 => ?_) (fun c_5 => ?_)
  · skip
    refine lv_aload_n hx hb dX4_spread_26 rfl (lv_at hl 0 rfl) ?_
    refine lv_iload_n hx hb dX4_spread_27 rfl (lv_at hl 2 rfl) ?_
    refine x_doneI X h (x_runV X h (k := (16, b, e, j)) (m_X4_isKnownOn I b e j hL (by omega) (by omega) (by omega) d2 (by omega) _) F_X4_isKnownOn q628 q451 q452 (hL (16, b, e, j) ⟨by omega, by omega, by omega⟩) rfl rfl rfl (by decide) (by decide) ⟨Nat.le_refl _, Nat.le_refl _⟩ hl.1 (Nat.le_of_ble_eq_true rfl) dX4_spread_28 rfl) (fun H locs h => ?_)
    refine b_if_eq (tgt := 49) hx hb dX4_spread_31 (by decide) (fun c_31 => ?_) (fun c_31 => ?_)
    · skip
      refine x_vret X h hr (fun k _ => congrFun (congrArg (lay tc ad gm dz) ?_) k) dX4_spread_49
      · simp only [sprd, sset_id, ↓reduceIte, c_5, c_31, Bool.false_eq_true]
    · skip
      refine lv_aload_n hx hb dX4_spread_34 rfl (lv_at hl 0 rfl) ?_
      refine lv_iload_n hx hb dX4_spread_35 rfl (lv_at hl 1 rfl) ?_
      refine x_doneI X h (x_runV X h (k := (16, b, e, j)) (m_X4_isKnownOn I b e j hL (by omega) (by omega) (by omega) d (by omega) _) F_X4_isKnownOn q628 q451 q452 (hL (16, b, e, j) ⟨by omega, by omega, by omega⟩) rfl rfl rfl (by decide) (by decide) ⟨Nat.le_refl _, Nat.le_refl _⟩ hl.1 (Nat.le_of_ble_eq_true rfl) dX4_spread_36 rfl) (fun H locs h => ?_)
      refine b_if_ne (tgt := 49) hx hb dX4_spread_39 (by decide) (fun c => by rw [c_5] at c; cases c) (fun _ => ?_)
      refine lv_aload_n hx hb dX4_spread_42 rfl (lv_at hl 0 rfl) ?_
      refine gf_Mark_knownSince X h (hL (16, b, e, j) ⟨by omega, by omega, by omega⟩) q480 dX4_spread_43 ?_
      refine lv_iload_n hx hb dX4_spread_46 rfl (lv_at hl 1 rfl) ?_
      refine lv_iload_n hx hb dX4_spread_47 rfl (lv_at hl 3 rfl) ?_
      refine y_ast X h (fun _ => rfl) (by decide) (hL (19, b, e, j) ⟨by omega, by omega, by omega⟩) (by omega) dX4_spread_48 (fun H locs h => ?_)
      refine x_vret X h hr (fun k _ => congrFun (congrArg (lay tc ad gm dz) ?_) k) dX4_spread_49
      · simp only [sprd, sset_id, ↓reduceIte, c_5, c_31, Bool.false_eq_true]
  · skip
    refine lv_aload_n hx hb dX4_spread_8 rfl (lv_at hl 0 rfl) ?_
    refine lv_iload_n hx hb dX4_spread_9 rfl (lv_at hl 2 rfl) ?_
    refine x_doneI X h (x_runV X h (k := (16, b, e, j)) (m_X4_isKnownOn I b e j hL (by omega) (by omega) (by omega) d2 (by omega) _) F_X4_isKnownOn q628 q451 q452 (hL (16, b, e, j) ⟨by omega, by omega, by omega⟩) rfl rfl rfl (by decide) (by decide) ⟨Nat.le_refl _, Nat.le_refl _⟩ hl.1 (Nat.le_of_ble_eq_true rfl) dX4_spread_10 rfl) (fun H locs h => ?_)
    refine b_if_ne (tgt := 26) hx hb dX4_spread_13 (by decide) (fun c_13 => ?_) (fun c_13 => ?_)
    · skip
      refine lv_aload_n hx hb dX4_spread_26 rfl (lv_at hl 0 rfl) ?_
      refine lv_iload_n hx hb dX4_spread_27 rfl (lv_at hl 2 rfl) ?_
      refine x_doneI X h (x_runV X h (k := (16, b, e, j)) (m_X4_isKnownOn I b e j hL (by omega) (by omega) (by omega) d2 (by omega) _) F_X4_isKnownOn q628 q451 q452 (hL (16, b, e, j) ⟨by omega, by omega, by omega⟩) rfl rfl rfl (by decide) (by decide) ⟨Nat.le_refl _, Nat.le_refl _⟩ hl.1 (Nat.le_of_ble_eq_true rfl) dX4_spread_28 rfl) (fun H locs h => ?_)
      refine b_if_eq (tgt := 49) hx hb dX4_spread_31 (by decide) (fun c => by rw [c_13] at c; cases c) (fun _ => ?_)
      refine lv_aload_n hx hb dX4_spread_34 rfl (lv_at hl 0 rfl) ?_
      refine lv_iload_n hx hb dX4_spread_35 rfl (lv_at hl 1 rfl) ?_
      refine x_doneI X h (x_runV X h (k := (16, b, e, j)) (m_X4_isKnownOn I b e j hL (by omega) (by omega) (by omega) d (by omega) _) F_X4_isKnownOn q628 q451 q452 (hL (16, b, e, j) ⟨by omega, by omega, by omega⟩) rfl rfl rfl (by decide) (by decide) ⟨Nat.le_refl _, Nat.le_refl _⟩ hl.1 (Nat.le_of_ble_eq_true rfl) dX4_spread_36 rfl) (fun H locs h => ?_)
      refine b_if_ne (tgt := 49) hx hb dX4_spread_39 (by decide) (fun _ => ?_) (fun c => by rw [c_5] at c; cases c)
      refine x_vret X h hr (fun k _ => congrFun (congrArg (lay tc ad gm dz) ?_) k) dX4_spread_49
      · simp only [sprd, sset_id, ↓reduceIte, c_5, c_13, Bool.false_eq_true]
    · skip
      refine lv_aload_n hx hb dX4_spread_16 rfl (lv_at hl 0 rfl) ?_
      refine gf_Mark_knownSince X h (hL (16, b, e, j) ⟨by omega, by omega, by omega⟩) q480 dX4_spread_17 ?_
      refine lv_iload_n hx hb dX4_spread_20 rfl (lv_at hl 2 rfl) ?_
      refine lv_iload_n hx hb dX4_spread_21 rfl (lv_at hl 3 rfl) ?_
      refine y_ast X h (fun _ => rfl) (by decide) (hL (19, b, e, j) ⟨by omega, by omega, by omega⟩) (by omega) dX4_spread_22 (fun H locs h => ?_)
      refine lv_goto (tgt := 49) hx hb dX4_spread_23 (by decide) ?_
      refine x_vret X h hr (fun k _ => congrFun (congrArg (lay tc ad gm dz) ?_) k) dX4_spread_49
      · simp only [sprd, sset_id, ↓reduceIte, c_5, c_13, Bool.false_eq_true]

set_option maxHeartbeats 4000000 in
set_option maxRecDepth 100000 in
theorem m_X1_countValues {l : Launch} {D : va_G} {tc : TC} {dz : Nat} {ad : KN → Nat} {Ks : List KN} {gm : GM} (I : Mem) (b e d : Nat) (hL : LV gm Ks) (hb2 : b < 2) (he : e < 10) (hd : d < 6) (f : Nat) (hf : f < 4) : MI l yX1_countValues cX1_countValues 4 (Option.some ClassFile.FieldType.int) 1 D tc dz ad Ks (lay tc ad gm dz I) [.ref (ad (9, b, e, d)), .int (nI f)] (nI (cvF (I (10, b, e, d)) f)) (lay tc ad gm dz I) := by
  intro sz
  refine x_ofW (by decide +kernel) (Nat.le_of_ble_eq_true rfl) (fun pp ee s mm bel meth cd ls X hr hin hz h hl => ?_)
  subst hz
  obtain ⟨hx, hb, hml, hown, hts⟩ := id X.1
  have hl : lv_has ls 4 [(0, .ref (ad (9, b, e, d))), (1, .int (nI f))] := hl
  refine lv_iconst (v := nI 0) hx hb dX1_countValues_0 (by decide) ?_
  refine lv_istore_n (lv' := [(2, .int (nI 0)), (0, .ref (ad (9, b, e, d))), (1, .int (nI f))]) hx hb dX1_countValues_1 rfl hl (by decide) rfl (fun ls hl => ?_)
  refine lv_iconst (v := nI 0) hx hb dX1_countValues_2 (by decide) ?_
  refine lv_istore_n (lv' := [(3, .int (nI 0)), (2, .int (nI 0)), (0, .ref (ad (9, b, e, d))), (1, .int (nI f))]) hx hb dX1_countValues_3 rfl hl (by decide) rfl (fun ls hl => ?_)
  refine y_loop (D := D) (A := wA ad Ks s.heap.size) (ad := ad) (Ks := Ks) (nL := 4) (fun i : Nat => lay tc ad gm dz I) (fun i => [(3, .int (nI i)), (2, .int (nI (cntN (fun y => nz ((I (10, b, e, d)) (f * 6 + y))) i))), (1, .int (nI f)), (0, .ref (ad (9, b, e, d)))]) (fun _ => []) (fun i : Nat => i ≤ 6) (fun i => 6 - i) (fun i hi4 ih4 H locs ls h hl => ?_) 0 (Nat.zero_le _) (h.eq (congrArg (lay tc ad gm dz) rfl)) (lv_sub hl [0, 1, 3, 2] rfl) rfl
  have h : Sx D (wA ad Ks s.heap.size) ad Ks (lay tc ad gm dz I) s H locs := h
  have hl : lv_has ls 4 [(3, .int (nI i)), (2, .int (nI (cntN (fun y => nz ((I (10, b, e, d)) (f * 6 + y))) i))), (1, .int (nI f)), (0, .ref (ad (9, b, e, d)))] := hl
  refine lv_iload_n hx hb dX1_countValues_4 rfl (lv_at hl 0 rfl) ?_
  refine lv_bipush (v := nI 6) hx hb dX1_countValues_5 (by decide) ?_
  refine n_icmp_ge (tgt := 32) hx hb (by omega) (by omega) dX1_countValues_7 (by decide) (fun c_7 => ?_) (fun c_7 => ?_)
  · skip
    obtain rfl : i = 6 := by omega
    refine lv_iload_n hx hb dX1_countValues_32 rfl (lv_at hl 1 rfl) ?_
    exact x_iret X h hr rfl rfl (fun _ _ => rfl) dX1_countValues_33
  · skip
    refine lv_aload_n hx hb dX1_countValues_10 rfl (lv_at hl 3 rfl) ?_
    refine gf_Copy_acts X h (hL (9, b, e, d) ⟨by omega, by omega, by omega⟩) q125 dX1_countValues_11 ?_
    refine lv_iload_n hx hb dX1_countValues_14 rfl (lv_at hl 2 rfl) ?_
    refine lv_iload_n hx hb dX1_countValues_15 rfl (lv_at hl 0 rfl) ?_
    refine x_doneI X h (x_runSN X h (m_X6_cell I f i _) F_X6_cell t399 q400 rfl (by decide) (by decide) ⟨Nat.le_refl _, Nat.le_refl _⟩ hl.1 (Nat.le_of_ble_eq_true rfl) dX1_countValues_16 rfl) (fun H locs h => ?_)
    refine y_ald X h (fun _ => rfl) (by decide) (hL (10, b, e, d) ⟨by omega, by omega, by omega⟩) (by omega) (v := I (10, b, e, d) (f * 6 + i)) rfl dX1_countValues_19 ?_
    refine lv_if_eq (tgt := 26) hx hb dX1_countValues_20 (by decide) (fun c_20 => ?_) (fun c_20 => ?_)
    · skip
      have hq : nz ((I (10, b, e, d)) (f * 6 + i)) = false := by simp only [nz, c_20, ↓reduceIte]
      have hcn := cntN_n (p := fun y => nz ((I (10, b, e, d)) (f * 6 + y))) hq
      rw [← hcn] at hl
      refine n_iinc (j := i) (n := 1) (lv' := [(3, .int (nI (i + 1))), (2, .int (nI (cntN (fun y => nz ((I (10, b, e, d)) (f * 6 + y))) (i + 1)))), (1, .int (nI f)), (0, .ref (ad (9, b, e, d)))]) hx hb dX1_countValues_26 hl (k := 0) rfl (by decide) (by decide) rfl (fun ls hl => ?_)
      refine lv_goto (tgt := 4) hx hb dX1_countValues_29 (by decide) ?_
      exact ih4 (i + 1) (by omega) (by omega) H locs ls (h.eq (congrArg (lay tc ad gm dz) rfl)) (lv_sub hl [0, 1, 2, 3] rfl)
    · skip
      have hq : nz ((I (10, b, e, d)) (f * 6 + i)) = true := by simp only [nz, c_20, ↓reduceIte]
      have hcn := cntN_y (p := fun y => nz ((I (10, b, e, d)) (f * 6 + y))) hq
      refine lv_iinc (v := nI (cntN (fun y => nz ((I (10, b, e, d)) (f * 6 + y))) (i + 1))) (lv' := [(2, .int (nI (cntN (fun y => nz ((I (10, b, e, d)) (f * 6 + y))) (i + 1)))), (3, .int (nI i)), (1, .int (nI f)), (0, .ref (ad (9, b, e, d)))]) hx hb dX1_countValues_23 hl (k := 1) rfl (by rw [hcn]; exact nI_1 _) (by decide) rfl (fun ls hl => ?_)
      refine n_iinc (j := i) (n := 1) (lv' := [(3, .int (nI (i + 1))), (2, .int (nI (cntN (fun y => nz ((I (10, b, e, d)) (f * 6 + y))) (i + 1)))), (1, .int (nI f)), (0, .ref (ad (9, b, e, d)))]) hx hb dX1_countValues_26 hl (k := 1) rfl (by decide) (by decide) rfl (fun ls hl => ?_)
      refine lv_goto (tgt := 4) hx hb dX1_countValues_29 (by decide) ?_
      exact ih4 (i + 1) (by omega) (by omega) H locs ls (h.eq (congrArg (lay tc ad gm dz) rfl)) (lv_sub hl [0, 1, 2, 3] rfl)

set_option maxHeartbeats 4000000 in
set_option maxRecDepth 100000 in
theorem m_X1_countAllValues {l : Launch} {D : va_G} {tc : TC} {dz : Nat} {ad : KN → Nat} {Ks : List KN} {gm : GM} (I : Mem) (b e d : Nat) (hL : LV gm Ks) (hb2 : b < 2) (he : e < 10) (hd : d < 6) : MI l yX1_countAllValues cX1_countAllValues 3 (Option.some ClassFile.FieldType.int) 0 D tc dz ad Ks (lay tc ad gm dz I) [.ref (ad (9, b, e, d))] (nI (cvA (I (10, b, e, d)))) (lay tc ad gm dz I) := by
  intro sz
  refine x_ofW (by decide +kernel) (Nat.le_of_ble_eq_true rfl) (fun pp ee s mm bel meth cd ls X hr hin hz h hl => ?_)
  subst hz
  obtain ⟨hx, hb, hml, hown, hts⟩ := id X.1
  have hl : lv_has ls 3 [(0, .ref (ad (9, b, e, d)))] := hl
  refine lv_iconst (v := nI 0) hx hb dX1_countAllValues_0 (by decide) ?_
  refine lv_istore_n (lv' := [(1, .int (nI 0)), (0, .ref (ad (9, b, e, d)))]) hx hb dX1_countAllValues_1 rfl hl (by decide) rfl (fun ls hl => ?_)
  refine lv_iconst (v := nI 0) hx hb dX1_countAllValues_2 (by decide) ?_
  refine lv_istore_n (lv' := [(2, .int (nI 0)), (1, .int (nI 0)), (0, .ref (ad (9, b, e, d)))]) hx hb dX1_countAllValues_3 rfl hl (by decide) rfl (fun ls hl => ?_)
  refine y_loop (D := D) (A := wA ad Ks s.heap.size) (ad := ad) (Ks := Ks) (nL := 3) (fun i : Nat => lay tc ad gm dz I) (fun i => [(2, .int (nI i)), (1, .int (nI (cntN (fun c => nz ((I (10, b, e, d)) c)) i))), (0, .ref (ad (9, b, e, d)))]) (fun _ => []) (fun i : Nat => i ≤ 24) (fun i => 24 - i) (fun i hi4 ih4 H locs ls h hl => ?_) 0 (Nat.zero_le _) (h.eq (congrArg (lay tc ad gm dz) rfl)) (lv_sub hl [0, 1, 2] rfl) rfl
  have h : Sx D (wA ad Ks s.heap.size) ad Ks (lay tc ad gm dz I) s H locs := h
  have hl : lv_has ls 3 [(2, .int (nI i)), (1, .int (nI (cntN (fun c => nz ((I (10, b, e, d)) c)) i))), (0, .ref (ad (9, b, e, d)))] := hl
  refine lv_iload_n hx hb dX1_countAllValues_4 rfl (lv_at hl 0 rfl) ?_
  refine lv_bipush (v := nI 24) hx hb dX1_countAllValues_5 (by decide) ?_
  refine n_icmp_ge (tgt := 28) hx hb (by omega) (by omega) dX1_countAllValues_7 (by decide) (fun c_7 => ?_) (fun c_7 => ?_)
  · skip
    obtain rfl : i = 24 := by omega
    refine lv_iload_n hx hb dX1_countAllValues_28 rfl (lv_at hl 1 rfl) ?_
    exact x_iret X h hr rfl rfl (fun _ _ => rfl) dX1_countAllValues_29
  · skip
    refine lv_aload_n hx hb dX1_countAllValues_10 rfl (lv_at hl 2 rfl) ?_
    refine gf_Copy_acts X h (hL (9, b, e, d) ⟨by omega, by omega, by omega⟩) q125 dX1_countAllValues_11 ?_
    refine lv_iload_n hx hb dX1_countAllValues_14 rfl (lv_at hl 0 rfl) ?_
    refine y_ald X h (fun _ => rfl) (by decide) (hL (10, b, e, d) ⟨by omega, by omega, by omega⟩) (by omega) (v := I (10, b, e, d) i) rfl dX1_countAllValues_15 ?_
    refine lv_if_eq (tgt := 22) hx hb dX1_countAllValues_16 (by decide) (fun c_16 => ?_) (fun c_16 => ?_)
    · skip
      have hq : nz ((I (10, b, e, d)) i) = false := by simp only [nz, c_16, ↓reduceIte]
      have hcn := cntN_n (p := fun c => nz ((I (10, b, e, d)) c)) hq
      rw [← hcn] at hl
      refine n_iinc (j := i) (n := 1) (lv' := [(2, .int (nI (i + 1))), (1, .int (nI (cntN (fun c => nz ((I (10, b, e, d)) c)) (i + 1)))), (0, .ref (ad (9, b, e, d)))]) hx hb dX1_countAllValues_22 hl (k := 0) rfl (by decide) (by decide) rfl (fun ls hl => ?_)
      refine lv_goto (tgt := 4) hx hb dX1_countAllValues_25 (by decide) ?_
      exact ih4 (i + 1) (by omega) (by omega) H locs ls (h.eq (congrArg (lay tc ad gm dz) rfl)) (lv_sub hl [0, 1, 2] rfl)
    · skip
      have hq : nz ((I (10, b, e, d)) i) = true := by simp only [nz, c_16, ↓reduceIte]
      have hcn := cntN_y (p := fun c => nz ((I (10, b, e, d)) c)) hq
      refine lv_iinc (v := nI (cntN (fun c => nz ((I (10, b, e, d)) c)) (i + 1))) (lv' := [(1, .int (nI (cntN (fun c => nz ((I (10, b, e, d)) c)) (i + 1)))), (2, .int (nI i)), (0, .ref (ad (9, b, e, d)))]) hx hb dX1_countAllValues_19 hl (k := 1) rfl (by rw [hcn]; exact nI_1 _) (by decide) rfl (fun ls hl => ?_)
      refine n_iinc (j := i) (n := 1) (lv' := [(2, .int (nI (i + 1))), (1, .int (nI (cntN (fun c => nz ((I (10, b, e, d)) c)) (i + 1)))), (0, .ref (ad (9, b, e, d)))]) hx hb dX1_countAllValues_22 hl (k := 1) rfl (by decide) (by decide) rfl (fun ls hl => ?_)
      refine lv_goto (tgt := 4) hx hb dX1_countAllValues_25 (by decide) ?_
      exact ih4 (i + 1) (by omega) (by omega) H locs ls (h.eq (congrArg (lay tc ad gm dz) rfl)) (lv_sub hl [0, 1, 2] rfl)

set_option maxHeartbeats 4000000 in
set_option maxRecDepth 100000 in
theorem m_X1_countClashes {l : Launch} {D : va_G} {tc : TC} {dz : Nat} {ad : KN → Nat} {Ks : List KN} {gm : GM} (I : Mem) (b e d : Nat) (hL : LV gm Ks) (hb2 : b < 2) (he : e < 10) (hd : d < 6) : MI l yX1_countClashes cX1_countClashes 3 (Option.some ClassFile.FieldType.int) 2 D tc dz ad Ks (lay tc ad gm dz I) [.ref (ad (9, b, e, d))] (nI (ccl (I (10, b, e, d)))) (lay tc ad gm dz I) := by
  intro sz
  refine x_ofW (by decide +kernel) (Nat.le_of_ble_eq_true rfl) (fun pp ee s mm bel meth cd ls X hr hin hz h hl => ?_)
  subst hz
  obtain ⟨hx, hb, hml, hown, hts⟩ := id X.1
  have hl : lv_has ls 3 [(0, .ref (ad (9, b, e, d)))] := hl
  refine lv_iconst (v := nI 0) hx hb dX1_countClashes_0 (by decide) ?_
  refine lv_istore_n (lv' := [(1, .int (nI 0)), (0, .ref (ad (9, b, e, d)))]) hx hb dX1_countClashes_1 rfl hl (by decide) rfl (fun ls hl => ?_)
  refine lv_iconst (v := nI 0) hx hb dX1_countClashes_2 (by decide) ?_
  refine lv_istore_n (lv' := [(2, .int (nI 0)), (1, .int (nI 0)), (0, .ref (ad (9, b, e, d)))]) hx hb dX1_countClashes_3 rfl hl (by decide) rfl (fun ls hl => ?_)
  refine y_loop (D := D) (A := wA ad Ks s.heap.size) (ad := ad) (Ks := Ks) (nL := 3) (fun i : Nat => lay tc ad gm dz I) (fun i => [(2, .int (nI i)), (1, .int (nI (cntN (fun f => decide (1 < cvF (I (10, b, e, d)) f)) i))), (0, .ref (ad (9, b, e, d)))]) (fun _ => []) (fun i : Nat => i ≤ 4) (fun i => 4 - i) (fun i hi4 ih4 H locs ls h hl => ?_) 0 (Nat.zero_le _) (h.eq (congrArg (lay tc ad gm dz) rfl)) (lv_sub hl [0, 1, 2] rfl) rfl
  have h : Sx D (wA ad Ks s.heap.size) ad Ks (lay tc ad gm dz I) s H locs := h
  have hl : lv_has ls 3 [(2, .int (nI i)), (1, .int (nI (cntN (fun f => decide (1 < cvF (I (10, b, e, d)) f)) i))), (0, .ref (ad (9, b, e, d)))] := hl
  refine lv_iload_n hx hb dX1_countClashes_4 rfl (lv_at hl 0 rfl) ?_
  refine lv_iconst (v := nI 4) hx hb dX1_countClashes_5 (by decide) ?_
  refine n_icmp_ge (tgt := 27) hx hb (by omega) (by omega) dX1_countClashes_6 (by decide) (fun c_6 => ?_) (fun c_6 => ?_)
  · skip
    obtain rfl : i = 4 := by omega
    refine lv_iload_n hx hb dX1_countClashes_27 rfl (lv_at hl 1 rfl) ?_
    exact x_iret X h hr rfl rfl (fun _ _ => rfl) dX1_countClashes_28
  · skip
    refine lv_aload_n hx hb dX1_countClashes_9 rfl (lv_at hl 2 rfl) ?_
    refine lv_iload_n hx hb dX1_countClashes_10 rfl (lv_at hl 0 rfl) ?_
    refine x_doneI X h (x_runV X h (k := (9, b, e, d)) (m_X1_countValues I b e d hL (by omega) (by omega) (by omega) i (by omega) _) F_X1_countValues q755 q396 q397 (hL (9, b, e, d) ⟨by omega, by omega, by omega⟩) rfl rfl rfl (by decide) (by decide) ⟨Nat.le_refl _, Nat.le_refl _⟩ hl.1 (Nat.le_of_ble_eq_true rfl) dX1_countClashes_11 rfl) (fun H locs h => ?_)
    refine lv_iconst (v := nI 1) hx hb dX1_countClashes_14 (by decide) ?_
    have hcv := cvF_le (I (10, b, e, d)) i
    refine n_icmp_le (tgt := 21) hx hb (by omega) (by omega) dX1_countClashes_15 (by decide) (fun c_15 => ?_) (fun c_15 => ?_)
    · skip
      have hq : decide (1 < cvF (I (10, b, e, d)) i) = false := by exact decide_eq_false (by omega)
      have hcn := cntN_n (p := fun f => decide (1 < cvF (I (10, b, e, d)) f)) hq
      rw [← hcn] at hl
      refine n_iinc (j := i) (n := 1) (lv' := [(2, .int (nI (i + 1))), (1, .int (nI (cntN (fun f => decide (1 < cvF (I (10, b, e, d)) f)) (i + 1)))), (0, .ref (ad (9, b, e, d)))]) hx hb dX1_countClashes_21 hl (k := 0) rfl (by decide) (by decide) rfl (fun ls hl => ?_)
      refine lv_goto (tgt := 4) hx hb dX1_countClashes_24 (by decide) ?_
      exact ih4 (i + 1) (by omega) (by omega) H locs ls (h.eq (congrArg (lay tc ad gm dz) rfl)) (lv_sub hl [0, 1, 2] rfl)
    · skip
      have hq : decide (1 < cvF (I (10, b, e, d)) i) = true := by exact decide_eq_true (by omega)
      have hcn := cntN_y (p := fun f => decide (1 < cvF (I (10, b, e, d)) f)) hq
      refine lv_iinc (v := nI (cntN (fun f => decide (1 < cvF (I (10, b, e, d)) f)) (i + 1))) (lv' := [(1, .int (nI (cntN (fun f => decide (1 < cvF (I (10, b, e, d)) f)) (i + 1)))), (2, .int (nI i)), (0, .ref (ad (9, b, e, d)))]) hx hb dX1_countClashes_18 hl (k := 1) rfl (by rw [hcn]; exact nI_1 _) (by decide) rfl (fun ls hl => ?_)
      refine n_iinc (j := i) (n := 1) (lv' := [(2, .int (nI (i + 1))), (1, .int (nI (cntN (fun f => decide (1 < cvF (I (10, b, e, d)) f)) (i + 1)))), (0, .ref (ad (9, b, e, d)))]) hx hb dX1_countClashes_21 hl (k := 1) rfl (by decide) (by decide) rfl (fun ls hl => ?_)
      refine lv_goto (tgt := 4) hx hb dX1_countClashes_24 (by decide) ?_
      exact ih4 (i + 1) (by omega) (by omega) H locs ls (h.eq (congrArg (lay tc ad gm dz) rfl)) (lv_sub hl [0, 1, 2] rfl)

set_option maxHeartbeats 4000000 in
set_option maxRecDepth 100000 in
theorem m_X1_valueAt {l : Launch} {D : va_G} {tc : TC} {dz : Nat} {ad : KN → Nat} {Ks : List KN} {gm : GM} (I : Mem) (b e d : Nat) (hL : LV gm Ks) (hb2 : b < 2) (he : e < 10) (hd : d < 6) (f j : Nat) (hf : f < 4) (hj : j < 2 ^ 30) : MI l yX1_valueAt cX1_valueAt 6 (Option.some ClassFile.FieldType.int) 1 D tc dz ad Ks (lay tc ad gm dz I) [.ref (ad (9, b, e, d)), .int (nI f), .int (nI j)] (vFrom (I (10, b, e, d)) (I (11, b, e, d)) f 6 0 j) (lay tc ad gm dz I) := by
  intro sz
  refine x_ofW (by decide +kernel) (Nat.le_of_ble_eq_true rfl) (fun pp ee s mm bel meth cd ls X hr hin hz h hl => ?_)
  subst hz
  obtain ⟨hx, hb, hml, hown, hts⟩ := id X.1
  have hl : lv_has ls 6 [(0, .ref (ad (9, b, e, d))), (1, .int (nI f)), (2, .int (nI j))] := hl
  refine lv_iconst (v := nI 0) hx hb dX1_valueAt_0 (by decide) ?_
  refine lv_istore_n (lv' := [(3, .int (nI 0)), (0, .ref (ad (9, b, e, d))), (1, .int (nI f)), (2, .int (nI j))]) hx hb dX1_valueAt_1 rfl hl (by decide) rfl (fun ls hl => ?_)
  refine lv_iconst (v := nI 0) hx hb dX1_valueAt_2 (by decide) ?_
  refine lv_istore (lv' := [(4, .int (nI 0)), (3, .int (nI 0)), (0, .ref (ad (9, b, e, d))), (1, .int (nI f)), (2, .int (nI j))]) hx hb dX1_valueAt_3 hl (by decide) rfl (fun ls hl => ?_)
  refine y_loop (D := D) (A := wA ad Ks s.heap.size) (ad := ad) (Ks := Ks) (nL := 6) (fun x : Nat × Nat => lay tc ad gm dz I) (fun x => [(4, .int (nI x.1)), (3, .int (nI x.2)), (0, .ref (ad (9, b, e, d))), (1, .int (nI f)), (2, .int (nI j))]) (fun _ => []) (fun x : Nat × Nat => x.1 ≤ 6 ∧ x.2 ≤ j ∧ vFrom (I (10, b, e, d)) (I (11, b, e, d)) f 6 0 j = vFrom (I (10, b, e, d)) (I (11, b, e, d)) f (6 - x.1) x.1 (j - x.2)) (fun x => 6 - x.1) (fun x hi5 ih5 H locs ls h hl => ?_) (0, 0) ⟨Nat.zero_le _, Nat.zero_le _, rfl⟩ (h.eq (congrArg (lay tc ad gm dz) rfl)) (lv_sub hl [0, 1, 2, 3, 4] rfl) rfl
  have h : Sx D (wA ad Ks s.heap.size) ad Ks (lay tc ad gm dz I) s H locs := h
  have hl : lv_has ls 6 [(4, .int (nI x.1)), (3, .int (nI x.2)), (0, .ref (ad (9, b, e, d))), (1, .int (nI f)), (2, .int (nI j))] := hl
  obtain ⟨h6, hxj, hv⟩ := hi5
  refine lv_iload hx hb dX1_valueAt_5 (lv_at hl 0 rfl) ?_
  refine lv_bipush (v := nI 6) hx hb dX1_valueAt_7 (by decide) ?_
  refine n_icmp_ge (tgt := 52) hx hb (by omega) (by omega) dX1_valueAt_9 (by decide) (fun c_9 => ?_) (fun c_9 => ?_)
  · skip
    refine lv_iconst (v := (-1)) hx hb dX1_valueAt_52 (by decide) ?_
    refine x_iret X h hr rfl ?_ (fun _ _ => rfl) dX1_valueAt_53
    · rw [hv, show 6 - x.1 = 0 by omega]; rfl
  · skip
    refine lv_iload_n hx hb dX1_valueAt_12 rfl (lv_at hl 3 rfl) ?_
    refine lv_iload hx hb dX1_valueAt_13 (lv_at hl 0 rfl) ?_
    refine x_doneI X h (x_runSN X h (m_X6_cell I f x.1 _) F_X6_cell t399 q400 rfl (by decide) (by decide) ⟨Nat.le_refl _, Nat.le_refl _⟩ hl.1 (Nat.le_of_ble_eq_true rfl) dX1_valueAt_15 rfl) (fun H locs h => ?_)
    refine lv_istore (lv' := [(5, .int (nI (f * 6 + x.1))), (4, .int (nI x.1)), (3, .int (nI x.2)), (0, .ref (ad (9, b, e, d))), (1, .int (nI f)), (2, .int (nI j))]) hx hb dX1_valueAt_18 hl (by decide) rfl (fun ls hl => ?_)
    refine lv_aload_n hx hb dX1_valueAt_20 rfl (lv_at hl 3 rfl) ?_
    refine gf_Copy_acts X h (hL (9, b, e, d) ⟨by omega, by omega, by omega⟩) q125 dX1_valueAt_21 ?_
    refine lv_iload hx hb dX1_valueAt_24 (lv_at hl 0 rfl) ?_
    refine y_ald X h (fun _ => rfl) (by decide) (hL (10, b, e, d) ⟨by omega, by omega, by omega⟩) (by omega) (v := I (10, b, e, d) (f * 6 + x.1)) rfl dX1_valueAt_26 ?_
    refine lv_if_eq (tgt := 46) hx hb dX1_valueAt_27 (by decide) (fun c_27 => ?_) (fun c_27 => ?_)
    · skip
      have hq : nz ((I (10, b, e, d)) (f * 6 + x.1)) = false := by simp only [nz, c_27, ↓reduceIte]
      have hv := hv.trans (vF_n hq (by omega))
      refine n_iinc (j := x.1) (n := 1) (lv' := [(4, .int (nI (x.1 + 1))), (5, .int (nI (f * 6 + x.1))), (3, .int (nI x.2)), (0, .ref (ad (9, b, e, d))), (1, .int (nI f)), (2, .int (nI j))]) hx hb dX1_valueAt_46 hl (k := 1) rfl (by decide) (by decide) rfl (fun ls hl => ?_)
      refine lv_goto (tgt := 5) hx hb dX1_valueAt_49 (by decide) ?_
      exact ih5 ((x.1 + 1, x.2)) ⟨by omega, by omega, hv⟩ (by omega) H locs ls (h.eq (congrArg (lay tc ad gm dz) rfl)) (lv_sub hl [0, 2, 3, 4, 5] rfl)
    · skip
      have hq : nz ((I (10, b, e, d)) (f * 6 + x.1)) = true := by simp only [nz, c_27, ↓reduceIte]
      refine lv_iload_n hx hb dX1_valueAt_30 rfl (lv_at hl 2 rfl) ?_
      refine lv_iload_n hx hb dX1_valueAt_31 rfl (lv_at hl 5 rfl) ?_
      refine n_icmp_ne (tgt := 43) hx hb (by omega) (by omega) dX1_valueAt_32 (by decide) (fun c_32 => ?_) (fun c_32 => ?_)
      · skip
        have hv := hv.trans (vF_y1 hq (by omega) (by omega))
        refine n_iinc (j := x.2) (n := 1) (lv' := [(3, .int (nI (x.2 + 1))), (5, .int (nI (f * 6 + x.1))), (4, .int (nI x.1)), (0, .ref (ad (9, b, e, d))), (1, .int (nI f)), (2, .int (nI j))]) hx hb dX1_valueAt_43 hl (k := 2) rfl (by decide) (by decide) rfl (fun ls hl => ?_)
        refine n_iinc (j := x.1) (n := 1) (lv' := [(4, .int (nI (x.1 + 1))), (3, .int (nI (x.2 + 1))), (5, .int (nI (f * 6 + x.1))), (0, .ref (ad (9, b, e, d))), (1, .int (nI f)), (2, .int (nI j))]) hx hb dX1_valueAt_46 hl (k := 2) rfl (by decide) (by decide) rfl (fun ls hl => ?_)
        refine lv_goto (tgt := 5) hx hb dX1_valueAt_49 (by decide) ?_
        exact ih5 ((x.1 + 1, x.2 + 1)) ⟨by omega, by omega, by rw [hv, Nat.sub_sub]⟩ (by omega) H locs ls (h.eq (congrArg (lay tc ad gm dz) rfl)) (lv_sub hl [0, 1, 3, 4, 5] rfl)
      · skip
        have hv := hv.trans (vF_y0 hq (by omega) (by omega))
        refine lv_aload_n hx hb dX1_valueAt_35 rfl (lv_at hl 3 rfl) ?_
        refine gf_Copy_told X h (hL (9, b, e, d) ⟨by omega, by omega, by omega⟩) q128 dX1_valueAt_36 ?_
        refine lv_iload hx hb dX1_valueAt_39 (lv_at hl 0 rfl) ?_
        refine y_ald X h (fun _ => rfl) (by decide) (hL (11, b, e, d) ⟨by omega, by omega, by omega⟩) (by omega) (v := I (11, b, e, d) (f * 6 + x.1)) rfl dX1_valueAt_41 ?_
        refine x_iret X h hr rfl ?_ (fun _ _ => rfl) dX1_valueAt_42
        · exact hv.symm

set_option maxHeartbeats 4000000 in
set_option maxRecDepth 100000 in
theorem m_X1_dropValues {l : Launch} {D : va_G} {tc : TC} {dz : Nat} {ad : KN → Nat} {Ks : List KN} {gm : GM} (I : Mem) (b e d : Nat) (hL : LV gm Ks) (hb2 : b < 2) (he : e < 10) (hd : d < 6) (f : Nat) (hf : f < 4) : MV l yX1_dropValues cX1_dropValues 3 1 D tc dz ad Ks (lay tc ad gm dz I) [.ref (ad (9, b, e, d)), .int (nI f)] (lay tc ad gm dz (dropM f I b e d)) := by
  intro sz
  refine x_ofW (by decide +kernel) (Nat.le_of_ble_eq_true rfl) (fun pp ee s mm bel meth cd ls X hr hin hz h hl => ?_)
  subst hz
  obtain ⟨hx, hb, hml, hown, hts⟩ := id X.1
  have hl : lv_has ls 3 [(0, .ref (ad (9, b, e, d))), (1, .int (nI f))] := hl
  refine lv_iconst (v := nI 0) hx hb dX1_dropValues_0 (by decide) ?_
  refine lv_istore_n (lv' := [(2, .int (nI 0)), (0, .ref (ad (9, b, e, d))), (1, .int (nI f))]) hx hb dX1_dropValues_1 rfl hl (by decide) rfl (fun ls hl => ?_)
  refine y_loop (D := D) (A := wA ad Ks s.heap.size) (ad := ad) (Ks := Ks) (nL := 3) (fun i : Nat => lay tc ad gm dz (sset (sset I (10, b, e, d) (rf (f * 6) (f * 6 + i) (fun _ => 0) (I (10, b, e, d)))) (11, b, e, d) (rf (f * 6) (f * 6 + i) (fun _ => 0) (I (11, b, e, d))))) (fun i => [(2, .int (nI i)), (1, .int (nI f)), (0, .ref (ad (9, b, e, d)))]) (fun _ => []) (fun i : Nat => i ≤ 6) (fun i => 6 - i) (fun i hi2 ih2 H locs ls h hl => ?_) 0 (Nat.zero_le _) (h.eq (congrArg (lay tc ad gm dz) (by simp only [Nat.add_zero, rf_0, sset_id]))) (lv_sub hl [0, 2, 1] rfl) rfl
  have h : Sx D (wA ad Ks s.heap.size) ad Ks (lay tc ad gm dz (sset (sset I (10, b, e, d) (rf (f * 6) (f * 6 + i) (fun _ => 0) (I (10, b, e, d)))) (11, b, e, d) (rf (f * 6) (f * 6 + i) (fun _ => 0) (I (11, b, e, d))))) s H locs := h
  have hl : lv_has ls 3 [(2, .int (nI i)), (1, .int (nI f)), (0, .ref (ad (9, b, e, d)))] := hl
  refine lv_iload_n hx hb dX1_dropValues_2 rfl (lv_at hl 0 rfl) ?_
  refine lv_bipush (v := nI 6) hx hb dX1_dropValues_3 (by decide) ?_
  refine n_icmp_ge (tgt := 36) hx hb (by omega) (by omega) dX1_dropValues_5 (by decide) (fun c_5 => ?_) (fun c_5 => ?_)
  · skip
    obtain rfl : i = 6 := by omega
    exact x_vret X h hr (fun _ _ => rfl) dX1_dropValues_36
  · skip
    refine lv_aload_n hx hb dX1_dropValues_8 rfl (lv_at hl 2 rfl) ?_
    refine gf_Copy_acts X h (hL (9, b, e, d) ⟨by omega, by omega, by omega⟩) q125 dX1_dropValues_9 ?_
    refine lv_iload_n hx hb dX1_dropValues_12 rfl (lv_at hl 1 rfl) ?_
    refine lv_iload_n hx hb dX1_dropValues_13 rfl (lv_at hl 0 rfl) ?_
    refine x_doneI X h (x_runSN X h (m_X6_cell (sset (sset I (10, b, e, d) (rf (f * 6) (f * 6 + i) (fun _ => 0) (I (10, b, e, d)))) (11, b, e, d) (rf (f * 6) (f * 6 + i) (fun _ => 0) (I (11, b, e, d)))) f i _) F_X6_cell t399 q400 rfl (by decide) (by decide) ⟨Nat.le_refl _, Nat.le_refl _⟩ hl.1 (Nat.le_of_ble_eq_true rfl) dX1_dropValues_14 rfl) (fun H locs h => ?_)
    refine lv_iconst (v := nI 0) hx hb dX1_dropValues_17 (by decide) ?_
    refine y_ast X h (fun _ => rfl) (by decide) (hL (10, b, e, d) ⟨by omega, by omega, by omega⟩) (by omega) dX1_dropValues_18 (fun H locs h => ?_)
    refine lv_aload_n hx hb dX1_dropValues_19 rfl (lv_at hl 2 rfl) ?_
    refine gf_Copy_told X h (hL (9, b, e, d) ⟨by omega, by omega, by omega⟩) q128 dX1_dropValues_20 ?_
    refine lv_iload_n hx hb dX1_dropValues_23 rfl (lv_at hl 1 rfl) ?_
    refine lv_iload_n hx hb dX1_dropValues_24 rfl (lv_at hl 0 rfl) ?_
    refine x_doneI X h (x_runSN X h (m_X6_cell (sset (sset (sset I (10, b, e, d) (rf (f * 6) (f * 6 + i) (fun _ => 0) (I (10, b, e, d)))) (11, b, e, d) (rf (f * 6) (f * 6 + i) (fun _ => 0) (I (11, b, e, d)))) (10, b, e, d) (upd ((sset (sset I (10, b, e, d) (rf (f * 6) (f * 6 + i) (fun _ => 0) (I (10, b, e, d)))) (11, b, e, d) (rf (f * 6) (f * 6 + i) (fun _ => 0) (I (11, b, e, d)))) (10, b, e, d)) (f * 6 + i) (nI 0))) f i _) F_X6_cell t399 q400 rfl (by decide) (by decide) ⟨Nat.le_refl _, Nat.le_refl _⟩ hl.1 (Nat.le_of_ble_eq_true rfl) dX1_dropValues_25 rfl) (fun H locs h => ?_)
    refine lv_iconst (v := nI 0) hx hb dX1_dropValues_28 (by decide) ?_
    refine y_ast X h (fun _ => rfl) (by decide) (hL (11, b, e, d) ⟨by omega, by omega, by omega⟩) (by omega) dX1_dropValues_29 (fun H locs h => ?_)
    refine n_iinc (j := i) (n := 1) (lv' := [(2, .int (nI (i + 1))), (1, .int (nI f)), (0, .ref (ad (9, b, e, d)))]) hx hb dX1_dropValues_30 hl (k := 0) rfl (by decide) (by decide) rfl (fun ls hl => ?_)
    refine lv_goto (tgt := 2) hx hb dX1_dropValues_33 (by decide) ?_
    have hm : (sset (sset (sset (sset I (10, b, e, d) (rf (f * 6) (f * 6 + i) (fun _ => 0) (I (10, b, e, d)))) (11, b, e, d) (rf (f * 6) (f * 6 + i) (fun _ => 0) (I (11, b, e, d)))) (10, b, e, d) (upd ((sset (sset I (10, b, e, d) (rf (f * 6) (f * 6 + i) (fun _ => 0) (I (10, b, e, d)))) (11, b, e, d) (rf (f * 6) (f * 6 + i) (fun _ => 0) (I (11, b, e, d)))) (10, b, e, d)) (f * 6 + i) (nI 0))) (11, b, e, d) (upd ((sset (sset (sset I (10, b, e, d) (rf (f * 6) (f * 6 + i) (fun _ => 0) (I (10, b, e, d)))) (11, b, e, d) (rf (f * 6) (f * 6 + i) (fun _ => 0) (I (11, b, e, d)))) (10, b, e, d) (upd ((sset (sset I (10, b, e, d) (rf (f * 6) (f * 6 + i) (fun _ => 0) (I (10, b, e, d)))) (11, b, e, d) (rf (f * 6) (f * 6 + i) (fun _ => 0) (I (11, b, e, d)))) (10, b, e, d)) (f * 6 + i) (nI 0))) (11, b, e, d)) (f * 6 + i) (nI 0))) = (sset (sset I (10, b, e, d) (rf (f * 6) (f * 6 + (i + 1)) (fun _ => 0) (I (10, b, e, d)))) (11, b, e, d) (rf (f * 6) (f * 6 + (i + 1)) (fun _ => 0) (I (11, b, e, d)))) := by
      funext nn
      by_cases e0 : nn = (10, b, e, d)
      · rw [e0]
        simp only [sset_eq, sset_ne _ _ ((nek (by decide)) : (10, b, e, d) ≠ (11, b, e, d))]
        exact rf_s _ _ _ _ rfl
      · skip
        by_cases e1 : nn = (11, b, e, d)
        · rw [e1]
          simp only [sset_eq, sset_ne _ _ ((nek (by decide)) : (11, b, e, d) ≠ (10, b, e, d))]
          exact rf_s _ _ _ _ rfl
        · skip
          simp only [sset_ne _ _ e0, sset_ne _ _ e1]
    exact ih2 (i + 1) (by omega) (by omega) H locs ls (h.eq (congrArg (lay tc ad gm dz) hm)) (lv_sub hl [0, 1, 2] rfl)

theorem pf_s0 {i : Nat} (g f : Nat → Int32) (hv : g i = f i) : pf i g f = pf (i + 1) g f := by
  have := pf_s i g f
  have e : upd (pf i g f) i (g i) = pf i g f := by
    have e2 : pf i g f i = g i := by simp [pf, hv]
    rw [← e2]
    exact upd_same (α := Int32) _ _
  rw [← this, e]
theorem pf_s1 {i : Nat} {v : Int32} (g f : Nat → Int32) (hv : g i = v) : upd (pf i g f) i v = pf (i + 1) g f := by rw [← hv]; exact pf_s i g f

set_option maxHeartbeats 4000000 in
set_option maxRecDepth 100000 in
theorem m_X1_keepFields {l : Launch} {D : va_G} {tc : TC} {dz : Nat} {ad : KN → Nat} {Ks : List KN} {gm : GM} (I : Mem) (b e d : Nat) (hL : LV gm Ks) (hb2 : b < 2) (he : e < 10) (hd : d < 6) (F : Int32) : MV l yX1_keepFields cX1_keepFields 3 1 D tc dz ad Ks (lay tc ad gm dz I) [.ref (ad (9, b, e, d)), .int F] (lay tc ad gm dz (keepM F I b e d)) := by
  intro sz
  refine x_ofW (by decide +kernel) (Nat.le_of_ble_eq_true rfl) (fun pp ee s mm bel meth cd ls X hr hin hz h hl => ?_)
  subst hz
  obtain ⟨hx, hb, hml, hown, hts⟩ := id X.1
  have hl : lv_has ls 3 [(0, .ref (ad (9, b, e, d))), (1, .int F)] := hl
  refine lv_iconst (v := nI 0) hx hb dX1_keepFields_0 (by decide) ?_
  refine lv_istore_n (lv' := [(2, .int (nI 0)), (0, .ref (ad (9, b, e, d))), (1, .int F)]) hx hb dX1_keepFields_1 rfl hl (by decide) rfl (fun ls hl => ?_)
  refine y_loop (D := D) (A := wA ad Ks s.heap.size) (ad := ad) (Ks := Ks) (nL := 3) (fun i : Nat => lay tc ad gm dz (sset (sset (sset I (10, b, e, d) (pf i (keepR F (I (10, b, e, d))) (I (10, b, e, d)))) (11, b, e, d) (pf i (keepR F (I (11, b, e, d))) (I (11, b, e, d)))) (13, b, e, d) (pf i (keepR F (I (13, b, e, d))) (I (13, b, e, d))))) (fun i => [(2, .int (nI i)), (1, .int F), (0, .ref (ad (9, b, e, d)))]) (fun _ => []) (fun i : Nat => i ≤ 24) (fun i => 24 - i) (fun i hi2 ih2 H locs ls h hl => ?_) 0 (Nat.zero_le _) (h.eq (congrArg (lay tc ad gm dz) (by simp only [pf_0, sset_id]))) (lv_sub hl [0, 2, 1] rfl) rfl
  have h : Sx D (wA ad Ks s.heap.size) ad Ks (lay tc ad gm dz (sset (sset (sset I (10, b, e, d) (pf i (keepR F (I (10, b, e, d))) (I (10, b, e, d)))) (11, b, e, d) (pf i (keepR F (I (11, b, e, d))) (I (11, b, e, d)))) (13, b, e, d) (pf i (keepR F (I (13, b, e, d))) (I (13, b, e, d))))) s H locs := h
  have hl : lv_has ls 3 [(2, .int (nI i)), (1, .int F), (0, .ref (ad (9, b, e, d)))] := hl
  refine lv_iload_n hx hb dX1_keepFields_2 rfl (lv_at hl 0 rfl) ?_
  refine lv_bipush (v := nI 24) hx hb dX1_keepFields_3 (by decide) ?_
  refine n_icmp_ge (tgt := 49) hx hb (by omega) (by omega) dX1_keepFields_5 (by decide) (fun c_5 => ?_) (fun c_5 => ?_)
  · skip
    obtain rfl : i = 24 := by omega
    have h := h.pfEnd (fun _ => rfl)
    rw [sset_comm _ (nek (by decide))] at h
    have h := h.pfEnd (fun _ => rfl)
    rw [sset_comm (sset I (10, b, e, d) _) (nek (by decide)), sset_comm I (nek (by decide)), sset_comm (sset I (11, b, e, d) _) (nek (by decide))] at h
    have h := h.pfEnd (fun _ => rfl)
    refine x_vret X h hr (fun k _ => congrFun (congrArg (lay tc ad gm dz) ?_) k) dX1_keepFields_49
    · rw [sset_comm (sset I (11, b, e, d) _) (nek (by decide)), sset_comm I (nek (by decide))]; rfl
  · skip
    refine lv_iload_n hx hb dX1_keepFields_8 rfl (lv_at hl 1 rfl) ?_
    refine lv_iload_n hx hb dX1_keepFields_9 rfl (lv_at hl 0 rfl) ?_
    refine lv_bipush (v := nI 6) hx hb dX1_keepFields_10 (by decide) ?_
    refine n_idiv hx hb (by omega) (by omega) (by omega) dX1_keepFields_12 ?_
    refine x_doneI X h (x_runSN X h (m_X6_contains (sset (sset (sset I (10, b, e, d) (pf i (keepR F (I (10, b, e, d))) (I (10, b, e, d)))) (11, b, e, d) (pf i (keepR F (I (11, b, e, d))) (I (11, b, e, d)))) (13, b, e, d) (pf i (keepR F (I (13, b, e, d))) (I (13, b, e, d)))) F (i / 6) _) F_X6_contains t582 q386 rfl (by decide) (by decide) ⟨Nat.le_refl _, Nat.le_refl _⟩ hl.1 (Nat.le_of_ble_eq_true rfl) dX1_keepFields_13 rfl) (fun H locs h => ?_)
    refine b_if_ne (tgt := 43) hx hb dX1_keepFields_16 (by decide) (fun c_16 => ?_) (fun c_16 => ?_)
    · skip
      refine n_iinc (j := i) (n := 1) (lv' := [(2, .int (nI (i + 1))), (1, .int F), (0, .ref (ad (9, b, e, d)))]) hx hb dX1_keepFields_43 hl (k := 0) rfl (by decide) (by decide) rfl (fun ls hl => ?_)
      refine lv_goto (tgt := 2) hx hb dX1_keepFields_46 (by decide) ?_
      have hm : (sset (sset (sset I (10, b, e, d) (pf i (keepR F (I (10, b, e, d))) (I (10, b, e, d)))) (11, b, e, d) (pf i (keepR F (I (11, b, e, d))) (I (11, b, e, d)))) (13, b, e, d) (pf i (keepR F (I (13, b, e, d))) (I (13, b, e, d)))) = (sset (sset (sset I (10, b, e, d) (pf (i + 1) (keepR F (I (10, b, e, d))) (I (10, b, e, d)))) (11, b, e, d) (pf (i + 1) (keepR F (I (11, b, e, d))) (I (11, b, e, d)))) (13, b, e, d) (pf (i + 1) (keepR F (I (13, b, e, d))) (I (13, b, e, d)))) := by
        funext nn
        by_cases e0 : nn = (10, b, e, d)
        · rw [e0]
          simp only [sset_eq, sset_ne _ _ ((nek (by decide)) : (10, b, e, d) ≠ (11, b, e, d)), sset_ne _ _ ((nek (by decide)) : (10, b, e, d) ≠ (13, b, e, d))]
          exact pf_s0 _ _ (by simp only [keepR, c_16, ↓reduceIte])
        · skip
          by_cases e1 : nn = (11, b, e, d)
          · rw [e1]
            simp only [sset_eq, sset_ne _ _ ((nek (by decide)) : (11, b, e, d) ≠ (10, b, e, d)), sset_ne _ _ ((nek (by decide)) : (11, b, e, d) ≠ (13, b, e, d))]
            exact pf_s0 _ _ (by simp only [keepR, c_16, ↓reduceIte])
          · skip
            by_cases e2 : nn = (13, b, e, d)
            · rw [e2]
              simp only [sset_eq, sset_ne _ _ ((nek (by decide)) : (13, b, e, d) ≠ (10, b, e, d)), sset_ne _ _ ((nek (by decide)) : (13, b, e, d) ≠ (11, b, e, d))]
              exact pf_s0 _ _ (by simp only [keepR, c_16, ↓reduceIte])
            · skip
              simp only [sset_ne _ _ e0, sset_ne _ _ e1, sset_ne _ _ e2]
      exact ih2 (i + 1) (by omega) (by omega) H locs ls (h.eq (congrArg (lay tc ad gm dz) hm)) (lv_sub hl [0, 1, 2] rfl)
    · skip
      refine lv_aload_n hx hb dX1_keepFields_19 rfl (lv_at hl 2 rfl) ?_
      refine gf_Copy_acts X h (hL (9, b, e, d) ⟨by omega, by omega, by omega⟩) q125 dX1_keepFields_20 ?_
      refine lv_iload_n hx hb dX1_keepFields_23 rfl (lv_at hl 0 rfl) ?_
      refine lv_iconst (v := nI 0) hx hb dX1_keepFields_24 (by decide) ?_
      refine y_ast X h (fun _ => rfl) (by decide) (hL (10, b, e, d) ⟨by omega, by omega, by omega⟩) (by omega) dX1_keepFields_25 (fun H locs h => ?_)
      refine lv_aload_n hx hb dX1_keepFields_26 rfl (lv_at hl 2 rfl) ?_
      refine gf_Copy_told X h (hL (9, b, e, d) ⟨by omega, by omega, by omega⟩) q128 dX1_keepFields_27 ?_
      refine lv_iload_n hx hb dX1_keepFields_30 rfl (lv_at hl 0 rfl) ?_
      refine lv_iconst (v := nI 0) hx hb dX1_keepFields_31 (by decide) ?_
      refine y_ast X h (fun _ => rfl) (by decide) (hL (11, b, e, d) ⟨by omega, by omega, by omega⟩) (by omega) dX1_keepFields_32 (fun H locs h => ?_)
      refine lv_aload_n hx hb dX1_keepFields_33 rfl (lv_at hl 2 rfl) ?_
      refine gf_Copy_seen X h (hL (9, b, e, d) ⟨by omega, by omega, by omega⟩) q130 dX1_keepFields_34 ?_
      refine gf_Numbers_numbers X h (fun _ => rfl) (hL (12, b, e, d) ⟨by omega, by omega, by omega⟩) q114 dX1_keepFields_37 ?_
      refine lv_iload_n hx hb dX1_keepFields_40 rfl (lv_at hl 0 rfl) ?_
      refine lv_iconst (v := nI 0) hx hb dX1_keepFields_41 (by decide) ?_
      refine y_ast X h (fun _ => rfl) (by decide) (hL (13, b, e, d) ⟨by omega, by omega, by omega⟩) (by omega) dX1_keepFields_42 (fun H locs h => ?_)
      refine n_iinc (j := i) (n := 1) (lv' := [(2, .int (nI (i + 1))), (1, .int F), (0, .ref (ad (9, b, e, d)))]) hx hb dX1_keepFields_43 hl (k := 0) rfl (by decide) (by decide) rfl (fun ls hl => ?_)
      refine lv_goto (tgt := 2) hx hb dX1_keepFields_46 (by decide) ?_
      have hm : (sset (sset (sset (sset (sset (sset I (10, b, e, d) (pf i (keepR F (I (10, b, e, d))) (I (10, b, e, d)))) (11, b, e, d) (pf i (keepR F (I (11, b, e, d))) (I (11, b, e, d)))) (13, b, e, d) (pf i (keepR F (I (13, b, e, d))) (I (13, b, e, d)))) (10, b, e, d) (upd ((sset (sset (sset I (10, b, e, d) (pf i (keepR F (I (10, b, e, d))) (I (10, b, e, d)))) (11, b, e, d) (pf i (keepR F (I (11, b, e, d))) (I (11, b, e, d)))) (13, b, e, d) (pf i (keepR F (I (13, b, e, d))) (I (13, b, e, d)))) (10, b, e, d)) i (nI 0))) (11, b, e, d) (upd ((sset (sset (sset (sset I (10, b, e, d) (pf i (keepR F (I (10, b, e, d))) (I (10, b, e, d)))) (11, b, e, d) (pf i (keepR F (I (11, b, e, d))) (I (11, b, e, d)))) (13, b, e, d) (pf i (keepR F (I (13, b, e, d))) (I (13, b, e, d)))) (10, b, e, d) (upd ((sset (sset (sset I (10, b, e, d) (pf i (keepR F (I (10, b, e, d))) (I (10, b, e, d)))) (11, b, e, d) (pf i (keepR F (I (11, b, e, d))) (I (11, b, e, d)))) (13, b, e, d) (pf i (keepR F (I (13, b, e, d))) (I (13, b, e, d)))) (10, b, e, d)) i (nI 0))) (11, b, e, d)) i (nI 0))) (13, b, e, d) (upd ((sset (sset (sset (sset (sset I (10, b, e, d) (pf i (keepR F (I (10, b, e, d))) (I (10, b, e, d)))) (11, b, e, d) (pf i (keepR F (I (11, b, e, d))) (I (11, b, e, d)))) (13, b, e, d) (pf i (keepR F (I (13, b, e, d))) (I (13, b, e, d)))) (10, b, e, d) (upd ((sset (sset (sset I (10, b, e, d) (pf i (keepR F (I (10, b, e, d))) (I (10, b, e, d)))) (11, b, e, d) (pf i (keepR F (I (11, b, e, d))) (I (11, b, e, d)))) (13, b, e, d) (pf i (keepR F (I (13, b, e, d))) (I (13, b, e, d)))) (10, b, e, d)) i (nI 0))) (11, b, e, d) (upd ((sset (sset (sset (sset I (10, b, e, d) (pf i (keepR F (I (10, b, e, d))) (I (10, b, e, d)))) (11, b, e, d) (pf i (keepR F (I (11, b, e, d))) (I (11, b, e, d)))) (13, b, e, d) (pf i (keepR F (I (13, b, e, d))) (I (13, b, e, d)))) (10, b, e, d) (upd ((sset (sset (sset I (10, b, e, d) (pf i (keepR F (I (10, b, e, d))) (I (10, b, e, d)))) (11, b, e, d) (pf i (keepR F (I (11, b, e, d))) (I (11, b, e, d)))) (13, b, e, d) (pf i (keepR F (I (13, b, e, d))) (I (13, b, e, d)))) (10, b, e, d)) i (nI 0))) (11, b, e, d)) i (nI 0))) (13, b, e, d)) i (nI 0))) = (sset (sset (sset I (10, b, e, d) (pf (i + 1) (keepR F (I (10, b, e, d))) (I (10, b, e, d)))) (11, b, e, d) (pf (i + 1) (keepR F (I (11, b, e, d))) (I (11, b, e, d)))) (13, b, e, d) (pf (i + 1) (keepR F (I (13, b, e, d))) (I (13, b, e, d)))) := by
        funext nn
        by_cases e0 : nn = (10, b, e, d)
        · rw [e0]
          simp only [sset_eq, sset_ne _ _ ((nek (by decide)) : (10, b, e, d) ≠ (11, b, e, d)), sset_ne _ _ ((nek (by decide)) : (10, b, e, d) ≠ (13, b, e, d))]
          exact pf_s1 _ _ (by simp only [keepR, c_16, ↓reduceIte, Bool.false_eq_true]; rfl)
        · skip
          by_cases e1 : nn = (11, b, e, d)
          · rw [e1]
            simp only [sset_eq, sset_ne _ _ ((nek (by decide)) : (11, b, e, d) ≠ (10, b, e, d)), sset_ne _ _ ((nek (by decide)) : (11, b, e, d) ≠ (13, b, e, d))]
            exact pf_s1 _ _ (by simp only [keepR, c_16, ↓reduceIte, Bool.false_eq_true]; rfl)
          · skip
            by_cases e2 : nn = (13, b, e, d)
            · rw [e2]
              simp only [sset_eq, sset_ne _ _ ((nek (by decide)) : (13, b, e, d) ≠ (10, b, e, d)), sset_ne _ _ ((nek (by decide)) : (13, b, e, d) ≠ (11, b, e, d))]
              exact pf_s1 _ _ (by simp only [keepR, c_16, ↓reduceIte, Bool.false_eq_true]; rfl)
            · skip
              simp only [sset_ne _ _ e0, sset_ne _ _ e1, sset_ne _ _ e2]
      exact ih2 (i + 1) (by omega) (by omega) H locs ls (h.eq (congrArg (lay tc ad gm dz) hm)) (lv_sub hl [0, 1, 2] rfl)

set_option maxHeartbeats 4000000 in
set_option maxRecDepth 100000 in
theorem m_X1_hasSameValues {l : Launch} {D : va_G} {tc : TC} {dz : Nat} {ad : KN → Nat} {Ks : List KN} {gm : GM} (I : Mem) (b e d : Nat) (hL : LV gm Ks) (hb2 : b < 2) (he : e < 10) (hd : d < 6) (d2 : Nat) (hd2 : d2 < 6) (f : Nat) (hf : f < 4) : MI l yX1_hasSameValues cX1_hasSameValues 4 (Option.some ClassFile.FieldType.boolean) 1 D tc dz ad Ks (lay tc ad gm dz I) [.ref (ad (9, b, e, d)), .ref (ad (9, b, e, d2)), .int (nI f)] (bI (sameV (I (10, b, e, d)) (I (10, b, e, d2)) f)) (lay tc ad gm dz I) := by
  intro sz
  refine x_ofW (by decide +kernel) (Nat.le_of_ble_eq_true rfl) (fun pp ee s mm bel meth cd ls X hr hin hz h hl => ?_)
  subst hz
  obtain ⟨hx, hb, hml, hown, hts⟩ := id X.1
  have hl : lv_has ls 4 [(0, .ref (ad (9, b, e, d))), (1, .ref (ad (9, b, e, d2))), (2, .int (nI f))] := hl
  refine lv_iconst (v := nI 0) hx hb dX1_hasSameValues_0 (by decide) ?_
  refine lv_istore_n (lv' := [(3, .int (nI 0)), (0, .ref (ad (9, b, e, d))), (1, .ref (ad (9, b, e, d2))), (2, .int (nI f))]) hx hb dX1_hasSameValues_1 rfl hl (by decide) rfl (fun ls hl => ?_)
  refine y_loop (D := D) (A := wA ad Ks s.heap.size) (ad := ad) (Ks := Ks) (nL := 4) (fun i : Nat => lay tc ad gm dz I) (fun i => [(3, .int (nI i)), (2, .int (nI f)), (0, .ref (ad (9, b, e, d))), (1, .ref (ad (9, b, e, d2)))]) (fun _ => []) (fun i : Nat => i ≤ 6 ∧ (∀ j, j < i → (I (10, b, e, d)) (f * 6 + j) = (I (10, b, e, d2)) (f * 6 + j))) (fun i => 6 - i) (fun i hi2 ih2 H locs ls h hl => ?_) 0 ⟨Nat.zero_le _, fun j hj => absurd hj (Nat.not_lt_zero j)⟩ (h.eq (congrArg (lay tc ad gm dz) rfl)) (lv_sub hl [0, 3, 1, 2] rfl) rfl
  have h : Sx D (wA ad Ks s.heap.size) ad Ks (lay tc ad gm dz I) s H locs := h
  have hl : lv_has ls 4 [(3, .int (nI i)), (2, .int (nI f)), (0, .ref (ad (9, b, e, d))), (1, .ref (ad (9, b, e, d2)))] := hl
  obtain ⟨hi2, hj2⟩ := hi2
  refine lv_iload_n hx hb dX1_hasSameValues_2 rfl (lv_at hl 0 rfl) ?_
  refine lv_bipush (v := nI 6) hx hb dX1_hasSameValues_3 (by decide) ?_
  refine n_icmp_ge (tgt := 39) hx hb (by omega) (by omega) dX1_hasSameValues_5 (by decide) (fun c_5 => ?_) (fun c_5 => ?_)
  · skip
    refine lv_iconst (v := nI 1) hx hb dX1_hasSameValues_39 (by decide) ?_
    refine x_iret X h hr (by decide) ?_ (fun _ _ => rfl) dX1_hasSameValues_40
    · rw [show sameV (I (10, b, e, d)) (I (10, b, e, d2)) f = true from allB_t (fun j hj => decide_eq_true (hj2 j (by omega)))]; rfl
  · skip
    refine lv_aload_n hx hb dX1_hasSameValues_8 rfl (lv_at hl 2 rfl) ?_
    refine gf_Copy_acts X h (hL (9, b, e, d) ⟨by omega, by omega, by omega⟩) q125 dX1_hasSameValues_9 ?_
    refine lv_iload_n hx hb dX1_hasSameValues_12 rfl (lv_at hl 1 rfl) ?_
    refine lv_iload_n hx hb dX1_hasSameValues_13 rfl (lv_at hl 0 rfl) ?_
    refine x_doneI X h (x_runSN X h (m_X6_cell I f i _) F_X6_cell t399 q400 rfl (by decide) (by decide) ⟨Nat.le_refl _, Nat.le_refl _⟩ hl.1 (Nat.le_of_ble_eq_true rfl) dX1_hasSameValues_14 rfl) (fun H locs h => ?_)
    refine y_ald X h (fun _ => rfl) (by decide) (hL (10, b, e, d) ⟨by omega, by omega, by omega⟩) (by omega) (v := I (10, b, e, d) (f * 6 + i)) rfl dX1_hasSameValues_17 ?_
    refine lv_aload_n hx hb dX1_hasSameValues_18 rfl (lv_at hl 3 rfl) ?_
    refine gf_Copy_acts X h (hL (9, b, e, d2) ⟨by omega, by omega, by omega⟩) q125 dX1_hasSameValues_19 ?_
    refine lv_iload_n hx hb dX1_hasSameValues_22 rfl (lv_at hl 1 rfl) ?_
    refine lv_iload_n hx hb dX1_hasSameValues_23 rfl (lv_at hl 0 rfl) ?_
    refine x_doneI X h (x_runSN X h (m_X6_cell I f i _) F_X6_cell t399 q400 rfl (by decide) (by decide) ⟨Nat.le_refl _, Nat.le_refl _⟩ hl.1 (Nat.le_of_ble_eq_true rfl) dX1_hasSameValues_24 rfl) (fun H locs h => ?_)
    refine y_ald X h (fun _ => rfl) (by decide) (hL (10, b, e, d2) ⟨by omega, by omega, by omega⟩) (by omega) (v := I (10, b, e, d2) (f * 6 + i)) rfl dX1_hasSameValues_27 ?_
    refine lv_icmp_eq (tgt := 33) hx hb dX1_hasSameValues_28 (by decide) (fun c_28 => ?_) (fun c_28 => ?_)
    · skip
      refine n_iinc (j := i) (n := 1) (lv' := [(3, .int (nI (i + 1))), (2, .int (nI f)), (0, .ref (ad (9, b, e, d))), (1, .ref (ad (9, b, e, d2)))]) hx hb dX1_hasSameValues_33 hl (k := 0) rfl (by decide) (by decide) rfl (fun ls hl => ?_)
      refine lv_goto (tgt := 2) hx hb dX1_hasSameValues_36 (by decide) ?_
      exact ih2 (i + 1) ⟨by omega, lt_s hj2 c_28⟩ (by omega) H locs ls (h.eq (congrArg (lay tc ad gm dz) rfl)) (lv_sub hl [0, 1, 2, 3] rfl)
    · skip
      refine lv_iconst (v := nI 0) hx hb dX1_hasSameValues_31 (by decide) ?_
      refine x_iret X h hr (by decide) ?_ (fun _ _ => rfl) dX1_hasSameValues_32
      · rw [show sameV (I (10, b, e, d)) (I (10, b, e, d2)) f = false from allB_f c_5 (decide_eq_false c_28)]; rfl
end
