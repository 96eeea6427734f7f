/-! rows over the law's arrays -/
theorem cell_extL {cA : ClassId} {n : Nat} {f g : Nat → Int64} (h : ∀ c, c < n → f c = g c) : vp_cell cA (n, .inr (.inl f)) = vp_cell cA (n, .inr (.inl g)) := by
  show arrV cA n (fun j => .long (f j)) = arrV cA n (fun j => .long (g j))
  unfold arrV
  congr 1
  apply congrArg
  funext j
  show Value.long (f j.val) = Value.long (g j.val)
  rw [h j.val j.isLt]
/-- alike where the law's arrays and the class's rows lie -/
def LAe (I J : Mem) : Prop :=
  (∀ k : KN, k.1 < 30 → J k = I k) ∧
  (∀ d e c, d < 6 → e < 2 → c < 24 → J (35, 0, 0, 0) (cl d e c) = I (35, 0, 0, 0) (cl d e c)) ∧
  (∀ d e c, d < 6 → e < 2 → c < 24 → J (37, 0, 0, 0) (cl d e c) = I (37, 0, 0, 0) (cl d e c)) ∧
  (∀ d e c, d < 6 → e < 2 → c < 24 → J (39, 0, 0, 0) (cl d e c) = I (39, 0, 0, 0) (cl d e c)) ∧
  (∀ x, x < 10 → J (40, 0, 0, 0) x = I (40, 0, 0, 0) x) ∧
  (∀ x, x < 240 → J (41, 0, 0, 0) x = I (41, 0, 0, 0) x) ∧
  (∀ x, x < 60 → J (42, 0, 0, 0) x = I (42, 0, 0, 0) x) ∧
  (∀ x, x < 12 → J (43, 0, 0, 0) x = I (43, 0, 0, 0) x) ∧
  (∀ x, x < 8 → J (44, 0, 0, 0) x = I (44, 0, 0, 0) x) ∧
  (∀ x, x < 9 → J (45, 0, 0, 0) x = I (45, 0, 0, 0) x)
theorem LAe.refl (I : Mem) : LAe I I := ⟨fun _ _ => rfl, fun _ _ _ _ _ _ => rfl, fun _ _ _ _ _ _ => rfl, fun _ _ _ _ _ _ => rfl, fun _ _ => rfl, fun _ _ => rfl, fun _ _ => rfl, fun _ _ => rfl, fun _ _ => rfl, fun _ _ => rfl⟩
theorem pkB_ext {f g : Nat → Int32} (h : ∀ d e c, d < 6 → e < 2 → c < 24 → g (cl d e c) = f (cl d e c)) : ∀ j, j < 48 → pkB f j = pkB g j := fun j hj => by
  unfold pkB
  refine lp_congr (fun k hk => ?_)
  have e1 : 24 * (10 * (j / 8) + j % 8 / 4) + 6 * (j % 4) + k = cl (j / 8) (j % 8 / 4) (6 * (j % 4) + k) := by unfold cl; omega
  show f _ = g _
  rw [e1]
  exact (h _ _ _ (by omega) (by omega) (by omega)).symm
theorem pkA_ext {f g : Nat → Int32} (h : ∀ x, x < 240 → g x = f x) : ∀ j, j < 40 → pkA f j = pkA g j := fun j hj => by
  unfold pkA
  refine lp_congr (fun k hk => ?_)
  exact (h _ (by omega)).symm
section LAWSX
variable {D : va_G} {A : Nat → Prop} {tc : TC} {ad : KN → Nat} {gm : GM} {dz : Nat} {Ks : List KN} {I J : Mem} {s : State} {H : Heap} {locs : List Loc}
theorem at_of {a : Nat} {cA : ClassId} {x y : vp_A} (h : va_at D vwCl (a, .inl (cA, x)) H) (e : vp_cell cA x = vp_cell cA y) : va_at D vwCl (a, .inl (cA, y)) H := Eq.trans (b := some (vp_cell cA x)) h (congrArg some e)
theorem Hw.law (h : Hw D ad Ks (lay tc ad gm dz I) H) (hW : LW gm Ks) (e : LAe I J) : Hw D ad Ks (lay tc ad gm dz J) H := by
  obtain ⟨e0, e35, e37, e39, e40, e41, e42, e43, e44, e45⟩ := e
  intro k hk
  have h1 := h k hk
  have hlv := hW k hk
  obtain ⟨n, b, ee, d⟩ := k
  rcases Nat.lt_or_ge n 30 with hn | hn
  · have : lay tc ad gm dz J (n, b, ee, d) = lay tc ad gm dz I (n, b, ee, d) := by
      show cont tc ad gm dz (n, b, ee, d) (J (n, b, ee, d)) = cont tc ad gm dz (n, b, ee, d) (I (n, b, ee, d))
      rw [e0 (n, b, ee, d) hn]
    rw [this]
    exact h1
  · obtain ⟨n, rfl⟩ : ∃ z, n = z + 30 := ⟨n - 30, by omega⟩
    have hlv : ((20 ≤ n + 30 ∧ n + 30 ≤ 25) ∨ n + 30 = 35 ∨ n + 30 = 37 ∨ (39 ≤ n + 30 ∧ n + 30 ≤ 45)) ∧ b = 0 ∧ ee = 0 ∧ d = 0 := hlv
    obtain ⟨hn2, rfl, rfl, rfl⟩ := hlv
    rcases (show n = 5 ∨ n = 7 ∨ n = 9 ∨ n = 10 ∨ n = 11 ∨ n = 12 ∨ n = 13 ∨ n = 14 ∨ n = 15 by omega) with rfl | rfl | rfl | rfl | rfl | rfl | rfl | rfl | rfl
    · exact at_of (x := (48, .inr (.inl (fun j => pkB (I (35, 0, 0, 0)) j)))) h1 (cell_extL (pkB_ext e35))
    · exact at_of (x := (48, .inr (.inl (fun j => pkB (I (37, 0, 0, 0)) j)))) h1 (cell_extL (pkB_ext e37))
    · exact at_of (x := (48, .inr (.inl (fun j => pkB (I (39, 0, 0, 0)) j)))) h1 (cell_extL (pkB_ext e39))
    · exact at_of (x := (10, .inl (I (40, 0, 0, 0)))) h1 (arr_ext (fun c hc => (e40 c hc).symm))
    · exact at_of (x := (40, .inr (.inl (fun j => pkA (I (41, 0, 0, 0)) j)))) h1 (cell_extL (pkA_ext e41))
    · exact at_of (x := (60, .inl (I (42, 0, 0, 0)))) h1 (arr_ext (fun c hc => (e42 c hc).symm))
    · exact at_of (x := (12, .inl (I (43, 0, 0, 0)))) h1 (arr_ext (fun c hc => (e43 c hc).symm))
    · exact at_of (x := (8, .inl (I (44, 0, 0, 0)))) h1 (arr_ext (fun c hc => (e44 c hc).symm))
    · exact at_of (x := (9, .inl (I (45, 0, 0, 0)))) h1 (arr_ext (fun c hc => (e45 c hc).symm))
theorem Sx.law (h : Sx D A ad Ks (lay tc ad gm dz I) s H locs) (hW : LW gm Ks) (e : LAe I J) : Sx D A ad Ks (lay tc ad gm dz J) s H locs := ⟨h.1.law hW e, h.2⟩
end LAWSX
/-- returns the long r, the world as it was -/
def ML (l : Launch) (y : MethodName) (cc : ByteArray) (maxL : Nat) (ret : Option FieldType) (lv : Nat) (D : va_G) (tc : TC) (dz : Nat) (ad : KN → Nat) (Ks : List KN) (st : KN → va_E) (av : List Value) (r : Int64) (st' : KN → va_E) : Prop :=
  ∀ sz : Nat, Met l y (wsA y cc maxL ret) (rmL lv 0 0) (va_Pc av (PreW D tc dz ad Ks st sz)) (va_Ql (fun (x : Int64) (_ : Unit) => x = r) (fun _ t => Hw D ad Ks st' t.heap) (wA ad Ks sz)) 0 0 (wA ad Ks sz)
section LROWS
variable {p : Program} {l : Launch} {e : Env} {R : Room} {s : State} {m : MethodId} {args : Array Value} {below : List Frame} {meth : Method} {c : Code} {H : Heap} {locs : List Loc} {cells slots : Nat} {Q : State → Prop}
variable {cc : ByteArray} {own : String} {nL : Nat} {D : va_G} {tc : TC} {dz : Nat} {A : Nat → Prop} {ad : KN → Nat} {Ks : List KN} {gm : GM} {I : Mem} {st : KN → va_E} {pc : Nat} {ls : Array Slot} {rest : List Value}
theorem n_irem (hx : p.tables.exec = Jvm.exec) (hb : c.code = cc) {a b : Nat} (ha : a < 2 ^ 31) (h0 : 0 < b) (hb2 : b < 2 ^ 31) (hdg : decode cc pc = .ok (.irem, 1)) (k : W p l e R s m args below meth c H locs cells slots Q (F0 m (pc + 1) ls (.int (nI (a % b)) :: rest))) : W p l e R s m args below meth c H locs cells slots Q (F0 m pc ls (.int (nI b) :: .int (nI a) :: rest)) := lv_irem hx hb hdg (nI_ne0 h0 hb2) (by rw [pk_rem ha h0 hb2]; exact k)
theorem z_lald (X : Cx p s m args meth c cc own nL D tc dz A) (h : Sx D A ad Ks (lay tc ad gm dz I) s H locs) {k : KN} {n : Nat} (g : (Nat → Int32) → Nat → Int64) (he : ∀ f, cont tc ad gm dz k f = .inl (tc 2, n, .inr (.inl (g f)))) (hn : n < 2 ^ 31) (hk : k ∈ Ks) {j : Nat} (hj : j < n) {v : Int64} (hv : g (I k) j = v) (hdg : decode cc pc = .ok (.laload, 1))
    (kk : W p l e R s m args below meth c H locs cells slots Q (F0 m (pc + 1) ls (.long v :: rest))) : W p l e R s m args below meth c H locs cells slots Q (F0 m pc ls (.int (nI j) :: .ref (ad k) :: rest)) := by
  subst hv
  exact x_lald X h hk (f := g (I k)) (he (I k)) j hj hn hdg kk
theorem z_last (X : Cx p s m args meth c cc own nL D tc dz A) (h : Sx D A ad Ks (lay tc ad gm dz I) s H locs) {k : KN} {n : Nat} (g : (Nat → Int32) → Nat → Int64) (he : ∀ f, cont tc ad gm dz k f = .inl (tc 2, n, .inr (.inl (g f)))) (hn : n < 2 ^ 31) (hk : k ∈ Ks) {j : Nat} (hj : j < n) {v : Int64} (f' : Nat → Int32) (hv : vp_updL (g (I k)) j v = g f') (hdg : decode cc pc = .ok (.lastore, 1))
    (kk : ∀ (H1 : Heap) (locs1 : List Loc), Sx D A ad Ks (lay tc ad gm dz (sset I k f')) s H1 locs1 → W p l e R s m args below meth c H1 locs1 cells slots Q (F0 m (pc + 1) ls rest)) : W p l e R s m args below meth c H locs cells slots Q (F0 m pc ls (.long v :: .int (nI j) :: .ref (ad k) :: rest)) := by
  exact x_last X h hk (f := g (I k)) (he (I k)) j hj hn hdg (fun H1 locs1 h1 => kk H1 locs1 (h1.layI (by rw [hv, he])))
theorem lastB {r : Nat → Int32} {d e f : Nat} (he : e < 2) (hf : f < 4) {v : Nat → Int32} : vp_updL (pkB r) (8 * d + 4 * e + f) (pk v) = pkB (st6 r (24 * (10 * d + e) + 6 * f) v) := by
  funext j
  rw [pkB_st he hf]
  rfl
theorem lastA {r : Nat → Int32} {k f : Nat} {v : Nat → Int32} : vp_updL (pkA r) (4 * k + f) (pk v) = pkA (st6 r (24 * k + 6 * f) v) := by
  funext j
  rw [pkA_st]
  rfl
theorem x_lret (X : Cx p s m args meth c cc own nL D tc dz (wA ad Ks s.heap.size)) {st' : KN → va_E} (h : Sx D (wA ad Ks s.heap.size) ad Ks st s H locs) (hr : meth.sig.returnType = some .long) {v r : Int64} (hv : v = r) (he : ∀ k, k ∈ Ks → st k = st' k) (hdg : decode cc pc = .ok (.lreturn, 1)) :
    W p l e R s m args below meth c H locs cells slots (MQ below (va_Ql (fun (x : Int64) (_ : Unit) => x = r) (fun _ t => Hw D ad Ks st' t.heap) (wA ad Ks s.heap.size)) args s cells slots (wA ad Ks s.heap.size)) (F0 m pc ls [.long v]) := by
  obtain ⟨⟨hx, hb, -, hown, hts⟩, hlocks, -⟩ := X
  exact W.lret hx hb hr (fun t ht hW => ⟨⟨v, (), rfl, hv, (h.1.congr he).onto ht⟩, h.2.2.F ht⟩) h.2.2.2.2 hdg hlocks
variable {y : MethodName} {bytes : ByteArray} {maxL n lv mc ms index : Nat} {ret : Option FieldType} {As : List Value} {Qc : Array Value → State → Outcome → State → Prop} {free : Addr → Prop}
theorem x_doneL (X : Cx p s m args meth c cc own nL D tc dz A) (h : Sx D A ad Ks st s H locs) {st' : KN → va_E} {r : Int64} {st0 : List Value} {a : Array Value} (hr : va_Run p l e R s m args below meth c H locs cells slots mc ms (F0 m pc ls st0) rest (va_Ql (fun (x : Int64) (_ : Unit) => x = r) (fun _ t => Hw D ad Ks st' t.heap) (wA ad Ks H.size) a) (wA ad Ks H.size))
    (kk : ∀ (H1 : Heap) (locs1 : List Loc), Sx D A ad Ks st' s H1 locs1 → W p l e R s m args below meth c H1 locs1 (cells + mc) (slots + ms) Q (F0 m (pc + 3) ls (.long r :: rest))) : W p l e R s m args below meth c H locs cells slots Q (F0 m pc ls st0) := by
  have hA := wA_sub h.2.1 h.2.2 X.2.2.2.2.2
  refine va_calll hr h.2.2 (fun q _ hq => hA q hq) hA (fun r1 u t H1 locs1 ht hvm hp hB hz hk hS => ?_)
  subst hp
  exact kk H1 locs1 ⟨ht ▸ hB, h.2.1, hS⟩
/-- a static of any room -/
theorem x_runSR {rm : Room} (X : Cx p s m args meth c cc own nL D tc dz A) (h : Sx D A ad Ks st s H locs) (hM : Met l y (wsA y bytes maxL ret) rm (va_Pc As (PreW D tc dz ad Ks st H.size)) Qc mc ms free) (F : YF y bytes maxL ret n) (w1 : Cond.methodLink own index y ∈ AW) (w2 : Cond.static y ∈ AW) (hn : As.length = n) (hrc : rm.cells = mc) (hrs : rm.slots = ms) (hf : rm.frames + 1 ≤ R.frames) (hlo : 8 + (maxL + 11) + rm.locals ≤ R.locals) (hcl : cells + mc ≤ R.cells ∧ slots + ms ≤ R.slots) (hsize : ls.size = nL) (hcat : (rest.map fun v => v.category).sum ≤ 8) (hdg : decode cc pc = .ok (.invokestatic index, 3)) {st0 : List Value} (hst : st0 = As.reverse ++ rest) :
    va_Run p l e R s m args below meth c H locs cells slots mc ms (F0 m pc ls st0) rest (Qc As.toArray) free := by
  have hB : CallB R s args own index y bytes maxL ret (wsA y bytes maxL ret) rm mc ms n := by
    obtain ⟨⟨hx, hb, -, hown, hts⟩, -⟩ := X
    exact callB_of n hts (goodIn_A F.1) rfl hrc hrs (hts _ F.2.1) (hts _ w1) F.2.2 ⟨hf, hlo⟩
  exact va_runS X.1 hM ⟨hB, X.1.2.2.2.2 _ w2⟩ ⟨PreW.blind, fun U hU hW => ⟨rfl, PreW.of X h U hU hW⟩⟩ rfl hn hsize hst (lv_room hcat) hdg hcl
end LROWS
/-- loops over a world that may grow: σ what changes from round to round -/
theorem y_loopG {σ : Type} {p : Program} {l : Launch} {e : Env} {R : Room} {s : State} {m : MethodId} {args : Array Value} {below : List Frame} {meth : Method} {c : Code} {Q : State → Prop} {D : va_G} {A : Nat → Prop} {nL pc : Nat}
    (adF : σ → KN → Nat) (KsF : σ → List KN) (stF : σ → KN → va_E) (lvF : σ → List (Nat × Value)) (cF sF : σ → Nat) (ok : σ → Prop) (μ : σ → Nat)
    (step : ∀ x, ok x → (∀ x', ok x' → μ x' < μ x → ∀ (H : Heap) (locs : List Loc) (ls : Array Slot), Sx D A (adF x') (KsF x') (stF x') s H locs → lv_has ls nL (lvF x') → W p l e R s m args below meth c H locs (cF x') (sF x') Q (F0 m pc ls [])) → ∀ (H : Heap) (locs : List Loc) (ls : Array Slot), Sx D A (adF x) (KsF x) (stF x) s H locs → lv_has ls nL (lvF x) → W p l e R s m args below meth c H locs (cF x) (sF x) Q (F0 m pc ls []))
    (x : σ) (h0 : ok x) {H : Heap} {locs : List Loc} {ls : Array Slot} (h : Sx D A (adF x) (KsF x) (stF x) s H locs) (hl : lv_has ls nL (lvF x)) {cells slots : Nat} (hc : cells = cF x) (hs : slots = sF x) : W p l e R s m args below meth c H locs cells slots Q (F0 m pc ls []) := by
  subst hc
  subst hs
  have key : ∀ n x, μ x < n → ok x → ∀ (H : Heap) (locs : List Loc) (ls : Array Slot), Sx D A (adF x) (KsF x) (stF x) s H locs → lv_has ls nL (lvF x) → W p l e R s m args below meth c H locs (cF x) (sF x) Q (F0 m pc ls []) := by
    intro n
    induction n with
    | zero => intro x hx; omega
    | succ n ih => intro x hx hok; exact step x hok (fun x' hok' hlt => ih x' (by omega) hok')
  exact key (μ x + 1) x (Nat.lt_succ_self _) h0 H locs ls h hl
