def FJ (ad : KN → Nat) (b e g : Nat) : Nat → Option Nat := fun j => if j < g then some (ad (16, b, e, j)) else none
theorem n_pos {a : Nat} (h : 0 < a) (ha : a < 2 ^ 31) : 0 < nI a := (nI_ltI (a := 0) (by decide) ha).mpr h
theorem x_ofWm {l : Launch} {y : MethodName} {cc : ByteArray} {maxL : Nat} {ret : Option FieldType} {rm : Room} {av : List Value} {Qc : Array Value → State → Outcome → State → Prop} {mc ms : Nat} {free : Addr → Prop} {D : va_G} {tc : TC} {dz mi : Nat} {ad : KN → Nat} {Ks : List KN} {st : KN → va_E} {sz : Nat}
    (hy : plainName y.cls = true) (hav : (lg_sl av).length ≤ maxL)
    (body : ∀ (p : Program) (e : Env) (s : State) (m : MethodId) (below : List Frame) (meth : Method) (c : Code) (ls : Array Slot), Cx p s m av.toArray meth c cc y.cls maxL D tc dz (wA ad Ks s.heap.size) → va_Mi "[Ljava/lang/Object;" mi s → meth.sig.returnType = ret → s.heap.size = sz → Sx D (wA ad Ks s.heap.size) ad Ks st s s.heap [] → lv_has ls maxL (lv_args 0 av) →
      W p l e rm s m av.toArray below meth c s.heap [] 0 0 (MQ below Qc av.toArray s mc ms free) (F0 m 0 ls [])) :
    Met l y (wsA y cc maxL ret) rm (va_Pc av (fun U => PreW D tc dz ad Ks st sz U ∧ va_Mi "[Ljava/lang/Object;" mi U)) Qc mc ms free := by
  refine Met.ofW (cc := cc) (maxL := maxL) (ret := ret) hy rfl ?_
  intro p e s m args below meth c s₁ B hml hv
  obtain ⟨rfl, ⟨hsz, hw, hd, hK, hN, hZ⟩, hmi⟩ := hv
  have hts0 := atoms_spec (ws := wsA y cc maxL ret) B.pre
  have hown : s.vm.findClass y.cls = some m.cls := findClass_of_methodNamed B.named
  subst hsz
  rw [lg_entry_eq]
  refine body p e s m below meth c _ ⟨⟨B.exec, B.bytes, hml, hown, fun w hw => hts0 w (List.mem_cons_of_mem _ hw)⟩, B.notSynchronized, hK, hN, hZ, fun q h => Or.inr h⟩ hmi B.returns rfl ⟨hw, ⟨hd.1, hd.2.1, fun k hk => Or.inl ⟨k, hk, rfl⟩⟩, va_S.rf⟩ (lv_entry av hav)
theorem PreM.blind {D : va_G} {tc : TC} {dz mi : Nat} {ad : KN → Nat} {Ks : List KN} {st : KN → va_E} {sz : Nat} {av : List Value} : FrameBlind (va_Pc av (fun U => PreW D tc dz ad Ks st sz U ∧ va_Mi "[Ljava/lang/Object;" mi U)) := by
  intro a U g mk q
  obtain ⟨q0, q1, q2⟩ := q
  obtain ⟨r0, r1⟩ := PreW.blind a U g mk ⟨q0, q1⟩
  exact ⟨r0, r1, va_Mi.moved (u := U) (U := U.calling g mk a) (Vm.Alike.refl U.vm) q2⟩
section RUNM
variable {p : Program} {l : Launch} {e : Env} {R : Room} {s : State} {m : MethodId} {args : Array Value} {below : List Frame} {meth : Method} {c : Code} {H : Heap} {locs : List Loc} {cells slots : Nat}
variable {cc : ByteArray} {own : String} {nL : Nat} {D : va_G} {tc : TC} {dz mi : Nat} {A : Nat → Prop} {ad : KN → Nat} {Ks : List KN} {st : KN → va_E} {pc : Nat} {ls : Array Slot} {rest : List Value}
variable {y : MethodName} {bytes : ByteArray} {maxL n lv mc ms index : Nat} {ret : Option FieldType} {As : List Value} {Qc : Array Value → State → Outcome → State → Prop} {free : Addr → Prop}
theorem g_runSm (X : Cx p s m args meth c cc own nL D tc dz A) (h : Sx D A ad Ks st s H locs) (hmi : va_Mi "[Ljava/lang/Object;" mi s) (hM : Met l y (wsA y bytes maxL ret) (rmL lv mc ms) (va_Pc As (fun U => PreW D tc dz ad Ks st H.size U ∧ va_Mi "[Ljava/lang/Object;" mi U)) Qc mc ms free) (F : YF y bytes maxL ret n) (w1 : Cond.methodLink own index y ∈ AW) (w2 : Cond.static y ∈ AW) (hn : As.length = n) (hf : lv + 1 ≤ R.frames) (hlo : 8 + (maxL + 11) + 32 * lv ≤ R.locals) (hcl : cells + mc ≤ R.cells ∧ slots + ms ≤ R.slots) (hsize : ls.size = nL) (hcat : (rest.map fun v => v.category).sum ≤ 8) (hdg : decode cc pc = .ok (.invokestatic index, 3)) {st0 : List Value} (hst : st0 = As.reverse ++ rest) :
    va_Run p l e R s m args below meth c H locs cells slots mc ms (F0 m pc ls st0) rest (Qc As.toArray) free := by
  exact va_runS X.1 hM ⟨x_cb X F w1 hf hlo, X.1.2.2.2.2 _ w2⟩ ⟨PreM.blind, fun U hU hW => ⟨rfl, PreW.of X h U hU hW, va_Mi.moved hW.alike hmi⟩⟩ rfl hn hsize hst (lv_room hcat) hdg hcl
end RUNM
theorem Sx.ofOn {D : va_G} {A : Nat → Prop} {ad ad2 : KN → Nat} {Ks : List KN} {st st2 : KN → va_E} {s : State} {H : Heap} {locs : List Loc} (h : Sx D A ad Ks st s H locs) (h1 : ∀ k, k ∈ Ks → ad2 k = ad k) (h2 : ∀ k, k ∈ Ks → st2 k = st k) : Sx D A ad2 Ks st2 s H locs :=
  ⟨fun k hk => by rw [h1 k hk, h2 k hk]; exact h.1 k hk, ⟨h.2.1.1, fun k hk k2 hk2 e => h.2.1.2.1 k hk k2 hk2 (by rw [← h1 k hk, ← h1 k2 hk2]; exact e), fun k hk => by rw [h1 k hk]; exact h.2.1.2.2 k hk⟩, h.2.2⟩

set_option maxHeartbeats 4000000 in
set_option maxRecDepth 100000 in
theorem m_J8_newLength {l : Launch} {D : va_G} {tc : TC} {dz : Nat} {ad : KN → Nat} {Ks : List KN} {st : KN → va_E} (a g v : Nat) (h0 : 0 < a) (h1 : a + max g v < 2 ^ 30) : MI l yJ8_newLength_cabcc cJ8_newLength_cabcc 4 (some .int) 1 D tc dz ad Ks st [.int (nI a), .int (nI g), .int (nI v)] (nI (a + max g v)) st := by
  intro sz
  refine x_ofW (by decide +kernel) (Nat.le_of_ble_eq_true rfl) (fun pp ee s mm bel meth cd ls X hr hin hz h hl => ?_)
  subst hz
  obtain ⟨hx, hb, hmaxL, hown, hts⟩ := id X.1
  have hl : lv_has ls 4 [(0, .int (nI a)), (1, .int (nI g)), (2, .int (nI v))] := hl
  have hm1 := Nat.le_max_left g v
  have hm2 := Nat.le_max_right g v
  refine lv_iload_n hx hb dJ8_newLength_cabcc_0 rfl (lv_at hl 0 rfl) ?_
  refine lv_iload_n hx hb dJ8_newLength_cabcc_1 rfl (lv_at hl 1 rfl) ?_
  refine lv_iload_n hx hb dJ8_newLength_cabcc_2 rfl (lv_at hl 2 rfl) ?_
  refine x_max X hl.1 q530 (by decide) (Nat.le_of_ble_eq_true rfl) (Nat.le_refl _) (Nat.le_refl _) dJ8_newLength_cabcc_3 ?_
  rw [max_n (by omega) (by omega)]
  refine n_iadd hx hb dJ8_newLength_cabcc_6 ?_
  refine lv_istore_n (lv' := [(3, .int (nI (a + max g v))), (0, .int (nI a)), (1, .int (nI g)), (2, .int (nI v))]) hx hb dJ8_newLength_cabcc_7 rfl hl (by decide) rfl (fun ls hl => ?_)
  refine lv_iconst (v := nI 0) hx hb dJ8_newLength_cabcc_8 (by decide) ?_
  refine lv_iload_n hx hb dJ8_newLength_cabcc_9 rfl (lv_at hl 0 rfl) ?_
  refine n_icmp_ge (tgt := 21) hx hb (by omega) (by omega) dJ8_newLength_cabcc_10 (by decide) (fun c => absurd c (by omega)) (fun _ => ?_)
  refine lv_iload_n hx hb dJ8_newLength_cabcc_13 rfl (lv_at hl 0 rfl) ?_
  refine lv_ldc hx hb hown (hts _ q533) dJ8_newLength_cabcc_14 ?_
  refine lv_icmp_gt (tgt := 21) hx hb dJ8_newLength_cabcc_16 (by decide) (fun c => absurd c ?_) (fun _ => ?_)
  · intro q
    rw [Int32.lt_iff_toInt_lt, nI_toInt (by omega)] at q
    have : (2147483639 : Int32).toInt = 2147483639 := by decide
    omega
  · refine lv_iload_n hx hb dJ8_newLength_cabcc_19 rfl (lv_at hl 0 rfl) ?_
    exact x_iret X h hr rfl rfl (fun _ _ => rfl) dJ8_newLength_cabcc_20

set_option maxHeartbeats 4000000 in
set_option maxRecDepth 100000 in
theorem m_J7_copyOf3 {l : Launch} {D : va_G} {tc : TC} {dz : Nat} {ad : KN → Nat} {Ks : List KN} {st : KN → va_E} (b e g2 N : Nat) (f : Nat → Option Nat) (hk8 : (8, b, e, 0) ∈ Ks) (h52 : (52, b, e, 0) ∉ Ks) (hs8 : st (8, b, e, 0) = .inl (tc 6, g2, .inr (.inr (.inr (.inr f))))) (hel : ∀ i, i < g2 → ∀ y, f i = some y → ∃ (k2 : KN) (fs : List Value), k2 ∈ Ks ∧ y = ad k2 ∧ st k2 = .inr (5, fs)) (hgN : g2 ≤ N) (hN : N < 2 ^ 27) (mi : Nat) : ∀ sz : Nat, Met l yJ7_copyOf_6403c (wsA yJ7_copyOf_6403c cJ7_copyOf_6403c 4 (some (.array (.object "java/lang/Object")))) (rmL 1 1 N) (va_Pc [.ref (ad (8, b, e, 0)), .int (nI N), .ref mi] (fun U => PreW D tc dz ad Ks st sz U ∧ va_Mi "[Ljava/lang/Object;" mi U)) (va_Qq (fun r u => r = some (u.1 (52, b, e, 0)) ∧ (∀ k, k ≠ (52, b, e, 0) → u.1 k = ad k) ∧ u.2.1 = (52, b, e, 0) :: Ks ∧ (∀ k, k ≠ (52, b, e, 0) → u.2.2 k = st k) ∧ u.2.2 (52, b, e, 0) = .inl (tc 6, N, .inr (.inr (.inr (.inr (va_cpy f (fun _ => none) 0 0 g2)))))) (wsB D ad Ks sz) (wA ad Ks sz)) 1 N (wA ad Ks sz) := by
  intro sz
  refine x_ofWm (by decide +kernel) (Nat.le_of_ble_eq_true rfl) (fun pp ee s mm bel meth cd ls X hmi hr hz h hl => ?_)
  subst hz
  obtain ⟨hx, hb, hmaxL, hown, hts⟩ := id X.1
  have hl : lv_has ls 4 [(0, .ref (ad (8, b, e, 0))), (1, .int (nI N)), (2, .ref mi)] := hl
  refine lv_aload_n hx hb dJ7_copyOf_6403c_0 rfl (lv_at hl 2 rfl) ?_
  refine va_ldcM hx hb hown (hts _ q558) hmi dJ7_copyOf_6403c_1 ?_
  refine lv_acmp_ne (rx := some mi) (ry := some mi) (tgt := 13) hx hb dJ7_copyOf_6403c_3 (by decide) (fun q => absurd rfl q) (fun _ => ?_)
  refine lv_iload_n hx hb dJ7_copyOf_6403c_6 rfl (lv_at hl 1 rfl) ?_
  refine r_newq X h (k := (52, b, e, 0)) h52 (n := N) (t0 := 6) rfl q560 t559 (by omega) (by omega) (by show 0 + 1 ≤ 1; decide) (by show 0 + N ≤ N; omega) dJ7_copyOf_6403c_7 (fun ad1 H a1 ha1 hn h => ?_)
  have hne : (8, b, e, 0) ≠ (52, b, e, 0) := nek (by decide)
  have hm8 : (8, b, e, 0) ∈ (52, b, e, 0) :: Ks := List.mem_cons_of_mem _ hk8
  have hf8 := (sset_ne st (.inl (tc 6, N, .inr (.inr (.inr (.inr (fun _ => none)))))) hne).trans hs8
  refine lv_goto (tgt := 24) hx hb dJ7_copyOf_6403c_10 (by decide) ?_
  refine lv_astore_n (lv' := [(3, .ref a1), (0, .ref (ad (8, b, e, 0))), (1, .int (nI N)), (2, .ref mi)]) hx hb dJ7_copyOf_6403c_24 rfl hl (by decide) rfl (fun ls hl => ?_)
  refine lv_aload_n hx hb dJ7_copyOf_6403c_25 rfl (lv_at hl 1 rfl) ?_
  refine lv_iconst (v := nI 0) hx hb dJ7_copyOf_6403c_26 (by decide) ?_
  refine lv_aload_n hx hb dJ7_copyOf_6403c_27 rfl (lv_at hl 0 rfl) ?_
  refine lv_iconst (v := nI 0) hx hb dJ7_copyOf_6403c_28 (by decide) ?_
  refine lv_aload_n hx hb dJ7_copyOf_6403c_29 rfl (lv_at hl 1 rfl) ?_
  refine r_alen X h (hn _ hne).symm hm8 6 rfl hf8 dJ7_copyOf_6403c_30 ?_
  refine lv_iload_n hx hb dJ7_copyOf_6403c_31 rfl (lv_at hl 2 rfl) ?_
  refine x_min X hl.1 q561 (Nat.le_of_ble_eq_true rfl) (Nat.le_of_ble_eq_true rfl) (by show 0 + 1 ≤ 1; decide) (by show 0 + N ≤ N; omega) dJ7_copyOf_6403c_32 ?_
  rw [min_n (a := g2) (b := N) (by omega) (by omega), Nat.min_eq_left hgN]
  refine r_copy X h hl.1 (hn _ hne).symm hm8 ha1 List.mem_cons_self (N := g2) hf8 (sset_eq _ _ _) (Nat.le_refl _) hgN (by omega) (fun i hi y hy => ?_) q564 (Nat.le_of_ble_eq_true rfl) (Nat.le_of_ble_eq_true rfl) dJ7_copyOf_6403c_35 (fun H locs h => ?_)
  · obtain ⟨k2, fs, m1, m2, m3⟩ := hel i hi y hy
    have hk2 : k2 ≠ (52, b, e, 0) := fun z => h52 (z ▸ m1)
    exact ⟨k2, fs, List.mem_cons_of_mem _ m1, m2.trans (hn _ hk2).symm, (sset_ne _ _ hk2).trans m3⟩
  · refine lv_aload_n hx hb dJ7_copyOf_6403c_38 rfl (lv_at hl 0 rfl) ?_
    refine g_aret X h hr (Or.inr ⟨_, rfl⟩) ⟨congrArg some ha1, hn, rfl, fun k hk => ?_, sset_eq _ _ _⟩ (by show 0 + 1 ≤ 1; decide) (by show 0 + N ≤ N; omega) dJ7_copyOf_6403c_39
    show sset (sset st (52, b, e, 0) _) (52, b, e, 0) _ k = st k
    rw [sset_ne _ _ hk, sset_ne _ _ hk]

set_option maxHeartbeats 4000000 in
set_option maxRecDepth 100000 in
theorem m_J7_copyOf2 {l : Launch} {D : va_G} {tc : TC} {dz : Nat} {ad : KN → Nat} {Ks : List KN} {st : KN → va_E} (b e g2 N : Nat) (f : Nat → Option Nat) (hk8 : (8, b, e, 0) ∈ Ks) (h52 : (52, b, e, 0) ∉ Ks) (hs8 : st (8, b, e, 0) = .inl (tc 6, g2, .inr (.inr (.inr (.inr f))))) (hel : ∀ i, i < g2 → ∀ y, f i = some y → ∃ (k2 : KN) (fs : List Value), k2 ∈ Ks ∧ y = ad k2 ∧ st k2 = .inr (5, fs)) (hgN : g2 ≤ N) (hN : N < 2 ^ 27) : GR l yJ7_copyOf_1904c cJ7_copyOf_1904c 2 (some (.array (.object "java/lang/Object"))) 2 1 N D tc dz ad Ks st [.ref (ad (8, b, e, 0)), .int (nI N)] (fun r u => r = some (u.1 (52, b, e, 0)) ∧ (∀ k, k ≠ (52, b, e, 0) → u.1 k = ad k) ∧ u.2.1 = (52, b, e, 0) :: Ks ∧ (∀ k, k ≠ (52, b, e, 0) → u.2.2 k = st k) ∧ u.2.2 (52, b, e, 0) = .inl (tc 6, N, .inr (.inr (.inr (.inr (va_cpy f (fun _ => none) 0 0 g2)))))) := by
  intro sz
  refine x_ofW (by decide +kernel) (Nat.le_of_ble_eq_true rfl) (fun pp ee s mm bel meth cd ls X hr hin hz h hl => ?_)
  subst hz
  obtain ⟨hx, hb, hmaxL, hown, hts⟩ := id X.1
  have hl : lv_has ls 2 [(0, .ref (ad (8, b, e, 0))), (1, .int (nI N))] := hl
  obtain ⟨mi, hmi⟩ := X.2.2.2.1.2.2.2.2.2.1
  refine lv_aload_n hx hb dJ7_copyOf_1904c_0 rfl (lv_at hl 0 rfl) ?_
  refine lv_iload_n hx hb dJ7_copyOf_1904c_1 rfl (lv_at hl 1 rfl) ?_
  refine lv_aload_n hx hb dJ7_copyOf_1904c_2 rfl (lv_at hl 0 rfl) ?_
  refine r_getC X h hl.1 rfl hk8 hs8 hmi q540 (Nat.le_of_ble_eq_true rfl) (Nat.le_of_ble_eq_true rfl) dJ7_copyOf_1904c_3 ?_
  refine g_doneR X h (g_runSm X h hmi (m_J7_copyOf3 b e g2 N f hk8 h52 hs8 hel hgN hN mi _) F_J7_copyOf_6403c q555 q556 rfl (Nat.le_of_ble_eq_true rfl) (Nat.le_of_ble_eq_true rfl) ⟨by show 0 + 1 ≤ 1; decide, by show 0 + N ≤ N; omega⟩ hl.1 (Nat.le_of_ble_eq_true rfl) dJ7_copyOf_1904c_6 rfl) (fun r u H locs hP h => ?_)
  obtain ⟨ad1, Ks1, st1⟩ := u
  obtain ⟨rfl, hP⟩ := hP
  exact g_aret X h hr (Or.inr ⟨_, rfl⟩) ⟨rfl, hP⟩ (by show 0 + 1 ≤ 1; decide) (by show 0 + N ≤ N; omega) dJ7_copyOf_1904c_9

set_option maxHeartbeats 4000000 in
set_option maxRecDepth 100000 in
theorem m_grow_first {l : Launch} {D : va_G} {tc : TC} {dz : Nat} {ad : KN → Nat} {Ks : List KN} {st : KN → va_E} (b e g1 : Nat) (v : Int32) (hk7 : (7, b, e, 0) ∈ Ks) (hg0 : g1 = 0) (h8 : (8, b, e, 0) ∉ Ks) (hs7 : st (7, b, e, 0) = .inr (0, [.int v, .ref dz, .int (nI g1)])) : GR l yJx4a65c_grow_92f84 cJx4a65c_grow_92f84 4 (some (.array (.object "java/lang/Object"))) 4 1 10 D tc dz ad Ks st [.ref (ad (7, b, e, 0)), .int (nI (g1 + 1))] (fun r u => r = some (u.1 (8, b, e, 0)) ∧ (∀ k, k ≠ (8, b, e, 0) → u.1 k = ad k) ∧ (∀ k, k ∈ u.2.1 ↔ (k = (8, b, e, 0) ∨ k ∈ Ks)) ∧ (∀ k, k ≠ (7, b, e, 0) → k ≠ (8, b, e, 0) → u.2.2 k = st k) ∧ u.2.2 (7, b, e, 0) = .inr (0, [.int v, .ref (u.1 (8, b, e, 0)), .int (nI g1)]) ∧ u.2.2 (8, b, e, 0) = .inl (tc 6, 10, .inr (.inr (.inr (.inr (fun _ => none)))))) := by
  intro sz
  refine x_ofW (by decide +kernel) (Nat.le_of_ble_eq_true rfl) (fun pp ee s mm bel meth cd ls X hr hin hz h hl => ?_)
  subst hz
  obtain ⟨hx, hb, hmaxL, hown, hts⟩ := id X.1
  subst hg0
  have hl : lv_has ls 4 [(0, .ref (ad (7, b, e, 0))), (1, .int (nI (0 + 1)))] := hl
  refine lv_aload_n hx hb dJx4a65c_grow_92f84_0 rfl (lv_at hl 0 rfl) ?_
  refine r_get X h rfl hk7 hs7 rfl inJx4a65c 1 (by decide) q66 rfl rfl dJx4a65c_grow_92f84_1 ?_
  refine va_tlen hx hb X.2.2.2.2.1.2.2.2 h.2.2 (v := nI 0) rfl dJx4a65c_grow_92f84_4 ?_
  refine lv_istore_n (lv' := [(2, .int (nI 0)), (0, .ref (ad (7, b, e, 0))), (1, .int (nI (0 + 1)))]) hx hb dJx4a65c_grow_92f84_5 rfl hl (by decide) rfl (fun ls hl => ?_)
  refine lv_iload_n hx hb dJx4a65c_grow_92f84_6 rfl (lv_at hl 0 rfl) ?_
  refine lv_if_gt (tgt := 20) hx hb dJx4a65c_grow_92f84_7 (by decide) (fun c => absurd c (by decide)) (fun _ => ?_)
  refine lv_aload_n hx hb dJx4a65c_grow_92f84_10 rfl (lv_at hl 1 rfl) ?_
  refine r_get X h rfl hk7 hs7 rfl inJx4a65c 1 (by decide) q66 rfl rfl dJx4a65c_grow_92f84_11 ?_
  refine va_gets hx hb X.2.2.2.2.1.2.2.1 h.2.2 hown (hts _ q64) (fun _ h => h) dJx4a65c_grow_92f84_14 ?_
  refine lv_acmp_eq (rx := some dz) (ry := some dz) (tgt := 45) hx hb dJx4a65c_grow_92f84_17 (by decide) (fun _ => ?_) (fun q => absurd rfl q)
  refine lv_aload_n hx hb dJx4a65c_grow_92f84_45 rfl (lv_at hl 1 rfl) ?_
  refine lv_bipush (v := nI 10) hx hb dJx4a65c_grow_92f84_46 (by decide) ?_
  refine lv_iload_n hx hb dJx4a65c_grow_92f84_48 rfl (lv_at hl 2 rfl) ?_
  refine x_max X hl.1 q567 (by decide) (Nat.le_of_ble_eq_true rfl) (by decide) (by decide) dJx4a65c_grow_92f84_49 ?_
  rw [max_n (by decide) (by decide), show max 10 (0 + 1) = 10 from rfl]
  refine r_newq X h (k := (8, b, e, 0)) h8 (n := 10) (t0 := 6) rfl q568 t559 (by decide) (by decide) (by decide) (by decide) dJx4a65c_grow_92f84_52 (fun ad1 H a1 ha1 hn h => ?_)
  have hne : (7, b, e, 0) ≠ (8, b, e, 0) := nek (by decide)
  refine lv_dup_x1 hx hb dJx4a65c_grow_92f84_55 rfl rfl ?_
  refine r_put X h (hn _ hne).symm (List.mem_cons_of_mem _ hk7) ((sset_ne _ _ hne).trans hs7) rfl inJx4a65c tyJx4a65c_ok nmJx4a65c 1 (by decide) q66 rfl rfl rfl rfl (Nat.le_of_ble_eq_true rfl) dJx4a65c_grow_92f84_56 (fun H locs h => ?_)
  refine g_aret X h hr (Or.inr ⟨_, rfl⟩) ⟨congrArg some ha1, hn, fun k => List.mem_cons, fun k q1 q2 => ?_, ?_, ?_⟩ (by decide) (by decide) dJx4a65c_grow_92f84_59
  · show sset (sset st (8, b, e, 0) _) (7, b, e, 0) _ k = st k
    rw [sset_ne _ _ q1, sset_ne _ _ q2]
  · show sset (sset st (8, b, e, 0) _) (7, b, e, 0) _ (7, b, e, 0) = _
    rw [sset_eq, ha1]
    rfl
  · dsimp only
    rw [sset_ne _ _ (Ne.symm hne), sset_eq]

set_option maxHeartbeats 4000000 in
set_option maxRecDepth 100000 in
theorem m_grow_more {l : Launch} {D : va_G} {tc : TC} {dz : Nat} {ad : KN → Nat} {Ks : List KN} {st : KN → va_E} (b e g1 g2 : Nat) (v : Int32) (f : Nat → Option Nat) (hk7 : (7, b, e, 0) ∈ Ks) (hg12 : g1 = g2) (hg0 : 0 < g2) (hgb : g2 < 2 ^ 20) (hk8 : (8, b, e, 0) ∈ Ks) (h52 : (52, b, e, 0) ∉ Ks) (hs7 : st (7, b, e, 0) = .inr (0, [.int v, .ref (ad (8, b, e, 0)), .int (nI g1)])) (hs8 : st (8, b, e, 0) = .inl (tc 6, g2, .inr (.inr (.inr (.inr f))))) (hel : ∀ i, i < g2 → ∀ y, f i = some y → ∃ (k2 : KN) (fs : List Value), k2 ∈ Ks ∧ y = ad k2 ∧ st k2 = .inr (5, fs)) : GR l yJx4a65c_grow_92f84 cJx4a65c_grow_92f84 4 (some (.array (.object "java/lang/Object"))) 4 1 (g2 + max 1 (g2 / 2)) D tc dz ad Ks st [.ref (ad (7, b, e, 0)), .int (nI (g1 + 1))] (fun r u => r = some (u.1 (8, b, e, 0)) ∧ (∀ k, k ≠ (8, b, e, 0) → u.1 k = ad k) ∧ (∀ k, k ∈ u.2.1 ↔ (k = (8, b, e, 0) ∨ k ∈ Ks)) ∧ (∀ k, k ≠ (7, b, e, 0) → k ≠ (8, b, e, 0) → u.2.2 k = st k) ∧ u.2.2 (7, b, e, 0) = .inr (0, [.int v, .ref (u.1 (8, b, e, 0)), .int (nI g1)]) ∧ u.2.2 (8, b, e, 0) = .inl (tc 6, (g2 + max 1 (g2 / 2)), .inr (.inr (.inr (.inr (va_cpy f (fun _ => none) 0 0 g2)))))) := by
  intro sz
  refine x_ofW (by decide +kernel) (Nat.le_of_ble_eq_true rfl) (fun pp ee s mm bel meth cd ls X hr hin hz h hl => ?_)
  subst hz
  obtain ⟨hx, hb, hmaxL, hown, hts⟩ := id X.1
  subst hg12
  have hl : lv_has ls 4 [(0, .ref (ad (7, b, e, 0))), (1, .int (nI (g1 + 1)))] := hl
  have hm1 := Nat.le_max_left 1 (g1 / 2)
  have hm2 := Nat.le_max_right 1 (g1 / 2)
  have hm3 : max 1 (g1 / 2) ≤ g1 := by rw [Nat.max_le]; omega
  refine lv_aload_n hx hb dJx4a65c_grow_92f84_0 rfl (lv_at hl 0 rfl) ?_
  refine r_get X h rfl hk7 hs7 rfl inJx4a65c 1 (by decide) q66 rfl rfl dJx4a65c_grow_92f84_1 ?_
  refine r_alen X h rfl hk8 6 rfl hs8 dJx4a65c_grow_92f84_4 ?_
  refine lv_istore_n (lv' := [(2, .int (nI g1)), (0, .ref (ad (7, b, e, 0))), (1, .int (nI (g1 + 1)))]) hx hb dJx4a65c_grow_92f84_5 rfl hl (by decide) rfl (fun ls hl => ?_)
  refine lv_iload_n hx hb dJx4a65c_grow_92f84_6 rfl (lv_at hl 0 rfl) ?_
  refine lv_if_gt (tgt := 20) hx hb dJx4a65c_grow_92f84_7 (by decide) (fun _ => ?_) (fun c => absurd (n_pos hg0 (by omega)) c)
  refine lv_iload_n hx hb dJx4a65c_grow_92f84_20 rfl (lv_at hl 0 rfl) ?_
  refine lv_iload_n hx hb dJx4a65c_grow_92f84_21 rfl (lv_at hl 2 rfl) ?_
  refine lv_iload_n hx hb dJx4a65c_grow_92f84_22 rfl (lv_at hl 0 rfl) ?_
  refine n_isub hx hb (by omega) dJx4a65c_grow_92f84_23 ?_
  rw [Nat.add_sub_cancel_left]
  refine lv_iload_n hx hb dJx4a65c_grow_92f84_24 rfl (lv_at hl 0 rfl) ?_
  refine lv_iconst (v := nI 1) hx hb dJx4a65c_grow_92f84_25 (by decide) ?_
  refine lv_ishr hx hb dJx4a65c_grow_92f84_26 ?_
  rw [pk_shrN (n := g1) (by omega) (nI 1 &&& 31) 1 (by decide), show g1 / 2 ^ 1 = g1 / 2 from rfl]
  refine x_doneI X h (x_runS X h (m_J8_newLength g1 1 (g1 / 2) hg0 (by omega) _) F_J8_newLength_cabcc q527 q528 rfl (Nat.le_of_ble_eq_true rfl) (Nat.le_of_ble_eq_true rfl) ⟨by show 0 + 0 ≤ 1; decide, by show 0 + 0 ≤ _; omega⟩ hl.1 (Nat.le_of_ble_eq_true rfl) dJx4a65c_grow_92f84_27 rfl) (fun H locs h => ?_)
  refine lv_istore_n (lv' := [(3, .int (nI (g1 + max 1 (g1 / 2)))), (2, .int (nI g1)), (0, .ref (ad (7, b, e, 0))), (1, .int (nI (g1 + 1)))]) hx hb dJx4a65c_grow_92f84_30 rfl hl (by decide) rfl (fun ls hl => ?_)
  refine lv_aload_n hx hb dJx4a65c_grow_92f84_31 rfl (lv_at hl 2 rfl) ?_
  refine lv_aload_n hx hb dJx4a65c_grow_92f84_32 rfl (lv_at hl 2 rfl) ?_
  refine r_get X h rfl hk7 hs7 rfl inJx4a65c 1 (by decide) q66 rfl rfl dJx4a65c_grow_92f84_33 ?_
  refine lv_iload_n hx hb dJx4a65c_grow_92f84_36 rfl (lv_at hl 0 rfl) ?_
  refine g_doneR X h (x_runS X h (m_J7_copyOf2 b e g1 (g1 + max 1 (g1 / 2)) f hk8 h52 hs8 hel (by omega) (by omega) _) F_J7_copyOf_1904c q537 q538 rfl (Nat.le_of_ble_eq_true rfl) (Nat.le_of_ble_eq_true rfl) ⟨by show 0 + 0 + 1 ≤ 1; decide, by show 0 + 0 + _ ≤ g1 + max 1 (g1 / 2); omega⟩ hl.1 (Nat.le_of_ble_eq_true rfl) dJx4a65c_grow_92f84_37 rfl) (fun r u H locs hP h => ?_)
  obtain ⟨ad1, Ks1, st1⟩ := u
  obtain ⟨rfl, hn, hK1, hso, hs52⟩ := hP
  have hK1 : Ks1 = (52, b, e, 0) :: Ks := hK1
  subst hK1
  have hn : ∀ k, k ≠ (52, b, e, 0) → ad1 k = ad k := hn
  have hso : ∀ k, k ≠ (52, b, e, 0) → st1 k = st k := hso
  have hs52 : st1 (52, b, e, 0) = .inl (tc 6, g1 + max 1 (g1 / 2), .inr (.inr (.inr (.inr (va_cpy f (fun _ => none) 0 0 g1))))) := hs52
  have h : Sx D (wA ad Ks s.heap.size) ad1 ((52, b, e, 0) :: Ks) st1 s H locs := h
  have hne : (7, b, e, 0) ≠ (8, b, e, 0) := nek (by decide)
  have hne7 : (7, b, e, 0) ≠ (52, b, e, 0) := nek (by decide)
  have hne8 : (8, b, e, 0) ≠ (52, b, e, 0) := nek (by decide)
  refine lv_dup_x1 hx hb dJx4a65c_grow_92f84_40 rfl rfl ?_
  refine r_put X h (hn _ hne7).symm (List.mem_cons_of_mem _ hk7) ((hso _ hne7).trans hs7) rfl inJx4a65c tyJx4a65c_ok nmJx4a65c 1 (by decide) q66 rfl rfl rfl rfl (Nat.le_of_ble_eq_true rfl) dJx4a65c_grow_92f84_41 (fun H locs h => ?_)
  have h := h.rename hk8 h52
  have h := h.ofOn (ad2 := sset ad (8, b, e, 0) (ad1 (52, b, e, 0))) (st2 := sset (sset st (7, b, e, 0) (.inr (0, [.int v, .ref (ad1 (52, b, e, 0)), .int (nI g1)]))) (8, b, e, 0) (.inl (tc 6, g1 + max 1 (g1 / 2), .inr (.inr (.inr (.inr (va_cpy f (fun _ => none) 0 0 g1))))))) (fun k q => ?_) (fun k q => ?_)
  · refine g_aret X h hr (Or.inr ⟨_, rfl⟩) ⟨?_, fun k q => sset_ne _ _ q, fun k => ⟨Or.inr, fun z => z.elim (fun z => z ▸ hk8) id⟩, fun k q1 q2 => ?_, ?_, sset_eq _ _ _⟩ (by show 0 + 0 + 1 ≤ 1; decide) (by show 0 + 0 + _ ≤ _; omega) dJx4a65c_grow_92f84_44
    · show some (ad1 (52, b, e, 0)) = some (sset ad (8, b, e, 0) (ad1 (52, b, e, 0)) (8, b, e, 0))
      rw [sset_eq]
    · show sset (sset st (7, b, e, 0) _) (8, b, e, 0) _ k = st k
      rw [sset_ne _ _ q2, sset_ne _ _ q1]
    · dsimp only
      rw [sset_ne _ _ hne, sset_eq, sset_eq]
  · by_cases hk : k = (8, b, e, 0)
    · rw [hk, sset_eq, sset_eq]
    · rw [sset_ne _ _ hk, sset_ne _ _ hk, hn k (k_ne q h52)]
  · by_cases hk : k = (8, b, e, 0)
    · rw [hk, sset_eq, sset_eq, sset_ne _ _ (Ne.symm hne7), hs52]
    · rw [sset_ne _ _ hk, sset_ne _ _ hk]
      by_cases hk7 : k = (7, b, e, 0)
      · rw [hk7, sset_eq, sset_eq]
        rfl
      · rw [sset_ne _ _ hk7, sset_ne _ _ hk7, hso k (k_ne q h52)]

set_option maxHeartbeats 4000000 in
set_option maxRecDepth 100000 in
theorem m_growe_first {l : Launch} {D : va_G} {tc : TC} {dz : Nat} {ad : KN → Nat} {Ks : List KN} {st : KN → va_E} (b e g1 : Nat) (v : Int32) (hk7 : (7, b, e, 0) ∈ Ks) (hg0 : g1 = 0) (h8 : (8, b, e, 0) ∉ Ks) (hs7 : st (7, b, e, 0) = .inr (0, [.int v, .ref dz, .int (nI g1)])) (hgs : g1 < 2 ^ 30) : GR l yJx4a65c_grow_d5877 cJx4a65c_grow_d5877 1 (some (.array (.object "java/lang/Object"))) 5 1 10 D tc dz ad Ks st [.ref (ad (7, b, e, 0))] (fun r u => r = some (u.1 (8, b, e, 0)) ∧ (∀ k, k ≠ (8, b, e, 0) → u.1 k = ad k) ∧ (∀ k, k ∈ u.2.1 ↔ (k = (8, b, e, 0) ∨ k ∈ Ks)) ∧ (∀ k, k ≠ (7, b, e, 0) → k ≠ (8, b, e, 0) → u.2.2 k = st k) ∧ u.2.2 (7, b, e, 0) = .inr (0, [.int v, .ref (u.1 (8, b, e, 0)), .int (nI g1)]) ∧ u.2.2 (8, b, e, 0) = .inl (tc 6, 10, .inr (.inr (.inr (.inr (fun _ => none)))))) := by
  intro sz
  refine x_ofW (by decide +kernel) (Nat.le_of_ble_eq_true rfl) (fun pp ee s mm bel meth cd ls X hr hin hz h hl => ?_)
  subst hz
  obtain ⟨hx, hb, hmaxL, hown, hts⟩ := id X.1
  have hl : lv_has ls 1 [(0, .ref (ad (7, b, e, 0)))] := hl
  refine lv_aload_n hx hb dJx4a65c_grow_d5877_0 rfl (lv_at hl 0 rfl) ?_
  refine lv_aload_n hx hb dJx4a65c_grow_d5877_1 rfl (lv_at hl 0 rfl) ?_
  refine r_get X h rfl hk7 hs7 rfl inJx4a65c 2 (by decide) q67 rfl rfl dJx4a65c_grow_d5877_2 ?_
  refine lv_iconst (v := nI 1) hx hb dJx4a65c_grow_d5877_5 (by decide) ?_
  refine n_iadd hx hb dJx4a65c_grow_d5877_6 ?_
  refine g_doneR X h (x_runV X h (k := (7, b, e, 0)) (m_grow_first b e g1 v hk7 hg0 h8 hs7 _) F_Jx4a65c_grow_92f84 q523 q525 q4 hk7 hs7 rfl rfl (Nat.le_of_ble_eq_true rfl) (Nat.le_of_ble_eq_true rfl) ⟨by show 0 + 1 ≤ 1; decide, by show 0 + 10 ≤ 10; omega⟩ hl.1 (Nat.le_of_ble_eq_true rfl) dJx4a65c_grow_d5877_7 rfl) (fun r u H locs hP h => ?_)
  obtain ⟨ad1, Ks1, st1⟩ := u
  obtain ⟨rfl, hP⟩ := hP
  exact g_aret X h hr (Or.inr ⟨_, rfl⟩) ⟨rfl, hP⟩ (by show 0 + 1 ≤ 1; decide) (by show 0 + 10 ≤ 10; omega) dJx4a65c_grow_d5877_10

set_option maxHeartbeats 4000000 in
set_option maxRecDepth 100000 in
theorem m_growe_more {l : Launch} {D : va_G} {tc : TC} {dz : Nat} {ad : KN → Nat} {Ks : List KN} {st : KN → va_E} (b e g1 g2 : Nat) (v : Int32) (f : Nat → Option Nat) (hk7 : (7, b, e, 0) ∈ Ks) (hg12 : g1 = g2) (hg0 : 0 < g2) (hgb : g2 < 2 ^ 20) (hk8 : (8, b, e, 0) ∈ Ks) (h52 : (52, b, e, 0) ∉ Ks) (hs7 : st (7, b, e, 0) = .inr (0, [.int v, .ref (ad (8, b, e, 0)), .int (nI g1)])) (hs8 : st (8, b, e, 0) = .inl (tc 6, g2, .inr (.inr (.inr (.inr f))))) (hel : ∀ i, i < g2 → ∀ y, f i = some y → ∃ (k2 : KN) (fs : List Value), k2 ∈ Ks ∧ y = ad k2 ∧ st k2 = .inr (5, fs)) (hgs : g1 < 2 ^ 30) : GR l yJx4a65c_grow_d5877 cJx4a65c_grow_d5877 1 (some (.array (.object "java/lang/Object"))) 5 1 (g2 + max 1 (g2 / 2)) D tc dz ad Ks st [.ref (ad (7, b, e, 0))] (fun r u => r = some (u.1 (8, b, e, 0)) ∧ (∀ k, k ≠ (8, b, e, 0) → u.1 k = ad k) ∧ (∀ k, k ∈ u.2.1 ↔ (k = (8, b, e, 0) ∨ k ∈ Ks)) ∧ (∀ k, k ≠ (7, b, e, 0) → k ≠ (8, b, e, 0) → u.2.2 k = st k) ∧ u.2.2 (7, b, e, 0) = .inr (0, [.int v, .ref (u.1 (8, b, e, 0)), .int (nI g1)]) ∧ u.2.2 (8, b, e, 0) = .inl (tc 6, (g2 + max 1 (g2 / 2)), .inr (.inr (.inr (.inr (va_cpy f (fun _ => none) 0 0 g2)))))) := by
  intro sz
  refine x_ofW (by decide +kernel) (Nat.le_of_ble_eq_true rfl) (fun pp ee s mm bel meth cd ls X hr hin hz h hl => ?_)
  subst hz
  obtain ⟨hx, hb, hmaxL, hown, hts⟩ := id X.1
  have hl : lv_has ls 1 [(0, .ref (ad (7, b, e, 0)))] := hl
  refine lv_aload_n hx hb dJx4a65c_grow_d5877_0 rfl (lv_at hl 0 rfl) ?_
  refine lv_aload_n hx hb dJx4a65c_grow_d5877_1 rfl (lv_at hl 0 rfl) ?_
  refine r_get X h rfl hk7 hs7 rfl inJx4a65c 2 (by decide) q67 rfl rfl dJx4a65c_grow_d5877_2 ?_
  refine lv_iconst (v := nI 1) hx hb dJx4a65c_grow_d5877_5 (by decide) ?_
  refine n_iadd hx hb dJx4a65c_grow_d5877_6 ?_
  refine g_doneR X h (x_runV X h (k := (7, b, e, 0)) (m_grow_more b e g1 g2 v f hk7 hg12 hg0 hgb hk8 h52 hs7 hs8 hel _) F_Jx4a65c_grow_92f84 q523 q525 q4 hk7 hs7 rfl rfl (Nat.le_of_ble_eq_true rfl) (Nat.le_of_ble_eq_true rfl) ⟨by show 0 + 1 ≤ 1; decide, by show 0 + (g2 + max 1 (g2 / 2)) ≤ (g2 + max 1 (g2 / 2)); omega⟩ hl.1 (Nat.le_of_ble_eq_true rfl) dJx4a65c_grow_d5877_7 rfl) (fun r u H locs hP h => ?_)
  obtain ⟨ad1, Ks1, st1⟩ := u
  obtain ⟨rfl, hP⟩ := hP
  exact g_aret X h hr (Or.inr ⟨_, rfl⟩) ⟨rfl, hP⟩ (by show 0 + 1 ≤ 1; decide) (by show 0 + (g2 + max 1 (g2 / 2)) ≤ (g2 + max 1 (g2 / 2)); omega) dJx4a65c_grow_d5877_10

set_option maxHeartbeats 4000000 in
set_option maxRecDepth 100000 in
theorem m_add2_room {l : Launch} {D : va_G} {tc : TC} {dz : Nat} {ad : KN → Nat} {Ks : List KN} {st : KN → va_E} (b e g1 g2 : Nat) (v : Int32) (f : Nat → Option Nat) (hk7 : (7, b, e, 0) ∈ Ks) (hg12 : g1 < g2) (hgb : g2 < 2 ^ 20) (hk8 : (8, b, e, 0) ∈ Ks) (hs7 : st (7, b, e, 0) = .inr (0, [.int v, .ref (ad (8, b, e, 0)), .int (nI g1)])) (hs8 : st (8, b, e, 0) = .inl (tc 6, g2, .inr (.inr (.inr (.inr f))))) (hM : (16, b, e, g1) ∈ Ks) (fsM : List Value) (hsM : st (16, b, e, g1) = .inr (5, fsM))  : GV l yJx4a65c_add_72be8 cJx4a65c_add_72be8 4 6 0 0 D tc dz ad Ks st [.ref (ad (7, b, e, 0)), .ref (ad (16, b, e, g1)), .ref (ad (8, b, e, 0)), .int (nI g1)] (fun u => (∀ k, k ≠ (8, b, e, 0) → u.1 k = ad k) ∧ (∀ k, k ∈ u.2.1 ↔ (k = (8, b, e, 0) ∨ k ∈ Ks)) ∧ (∀ k, k ≠ (7, b, e, 0) → k ≠ (8, b, e, 0) → u.2.2 k = st k) ∧ u.2.2 (7, b, e, 0) = .inr (0, [.int v, .ref (u.1 (8, b, e, 0)), .int (nI (g1 + 1))]) ∧ u.2.2 (8, b, e, 0) = .inl (tc 6, g2, .inr (.inr (.inr (.inr (va_up f g1 (some (ad (16, b, e, g1))))))))) := by
  intro sz
  refine x_ofW (by decide +kernel) (Nat.le_of_ble_eq_true rfl) (fun pp ee s mm bel meth cd ls X hr hin hz h hl => ?_)
  subst hz
  obtain ⟨hx, hb, hmaxL, hown, hts⟩ := id X.1
  have hl : lv_has ls 4 [(0, .ref (ad (7, b, e, 0))), (1, .ref (ad (16, b, e, g1))), (2, .ref (ad (8, b, e, 0))), (3, .int (nI g1))] := hl
  have hM7 : (16, b, e, g1) ≠ (7, b, e, 0) := nek (by decide)
  have hM8 : (16, b, e, g1) ≠ (8, b, e, 0) := nek (by decide)
  have hne : (7, b, e, 0) ≠ (8, b, e, 0) := nek (by decide)
  refine lv_iload_n hx hb dJx4a65c_add_72be8_0 rfl (lv_at hl 3 rfl) ?_
  refine lv_aload_n hx hb dJx4a65c_add_72be8_1 rfl (lv_at hl 2 rfl) ?_
  refine r_alen X h rfl hk8 6 rfl hs8 dJx4a65c_add_72be8_2 ?_
  refine n_icmp_ne (tgt := 11) hx hb (by omega) (by omega) dJx4a65c_add_72be8_3 (by decide) (fun _ => ?_) (fun c => absurd c (by omega))
  refine lv_aload_n hx hb dJx4a65c_add_72be8_11 rfl (lv_at hl 2 rfl) ?_
  refine lv_iload_n hx hb dJx4a65c_add_72be8_12 rfl (lv_at hl 3 rfl) ?_
  refine lv_aload_n hx hb dJx4a65c_add_72be8_13 rfl (lv_at hl 1 rfl) ?_
  refine r_astq X h rfl hk8 (t0 := 6) rfl hs8 rfl hM hsM rfl (Or.inr t806) g1 (by omega) (by omega) dJx4a65c_add_72be8_14 (fun H locs h => ?_)
  refine lv_aload_n hx hb dJx4a65c_add_72be8_15 rfl (lv_at hl 0 rfl) ?_
  refine lv_iload_n hx hb dJx4a65c_add_72be8_16 rfl (lv_at hl 3 rfl) ?_
  refine lv_iconst (v := nI 1) hx hb dJx4a65c_add_72be8_17 (by decide) ?_
  refine n_iadd hx hb dJx4a65c_add_72be8_18 ?_
  refine r_put X h rfl hk7 ((sset_ne _ _ hne).trans hs7) rfl inJx4a65c tyJx4a65c_ok nmJx4a65c 2 (by decide) q67 rfl rfl rfl rfl (Nat.le_of_ble_eq_true rfl) dJx4a65c_add_72be8_19 (fun H locs h => ?_)
  exact g_vret X h hr ⟨fun _ _ => rfl, fun k => ⟨Or.inr, fun z => z.elim (fun z => z ▸ hk8) id⟩, fun k q1 q2 => (by dsimp only; rw [sset_ne _ _ q1, sset_ne _ _ q2]), (by dsimp only; rw [sset_eq]; rfl), (by dsimp only; rw [sset_ne _ _ (Ne.symm hne), sset_eq])⟩ (by decide) (by decide) dJx4a65c_add_72be8_22

set_option maxHeartbeats 4000000 in
set_option maxRecDepth 100000 in
theorem m_add2_first {l : Launch} {D : va_G} {tc : TC} {dz : Nat} {ad : KN → Nat} {Ks : List KN} {st : KN → va_E} (b e g1 : Nat) (v : Int32) (hk7 : (7, b, e, 0) ∈ Ks) (hg0 : g1 = 0) (h8 : (8, b, e, 0) ∉ Ks) (hs7 : st (7, b, e, 0) = .inr (0, [.int v, .ref dz, .int (nI g1)])) (hM : (16, b, e, g1) ∈ Ks) (fsM : List Value) (hsM : st (16, b, e, g1) = .inr (5, fsM)) (hgs : g1 < 2 ^ 30) : GV l yJx4a65c_add_72be8 cJx4a65c_add_72be8 4 6 1 10 D tc dz ad Ks st [.ref (ad (7, b, e, 0)), .ref (ad (16, b, e, g1)), .ref dz, .int (nI g1)] (fun u => (∀ k, k ≠ (8, b, e, 0) → u.1 k = ad k) ∧ (∀ k, k ∈ u.2.1 ↔ (k = (8, b, e, 0) ∨ k ∈ Ks)) ∧ (∀ k, k ≠ (7, b, e, 0) → k ≠ (8, b, e, 0) → u.2.2 k = st k) ∧ u.2.2 (7, b, e, 0) = .inr (0, [.int v, .ref (u.1 (8, b, e, 0)), .int (nI (g1 + 1))]) ∧ u.2.2 (8, b, e, 0) = .inl (tc 6, 10, .inr (.inr (.inr (.inr (va_up (fun _ => none) g1 (some (ad (16, b, e, g1))))))))) := by
  intro sz
  refine x_ofW (by decide +kernel) (Nat.le_of_ble_eq_true rfl) (fun pp ee s mm bel meth cd ls X hr hin hz h hl => ?_)
  subst hz
  obtain ⟨hx, hb, hmaxL, hown, hts⟩ := id X.1
  have hl : lv_has ls 4 [(0, .ref (ad (7, b, e, 0))), (1, .ref (ad (16, b, e, g1))), (2, .ref dz), (3, .int (nI g1))] := hl
  have hM7 : (16, b, e, g1) ≠ (7, b, e, 0) := nek (by decide)
  have hM8 : (16, b, e, g1) ≠ (8, b, e, 0) := nek (by decide)
  have hne : (7, b, e, 0) ≠ (8, b, e, 0) := nek (by decide)
  refine lv_iload_n hx hb dJx4a65c_add_72be8_0 rfl (lv_at hl 3 rfl) ?_
  refine lv_aload_n hx hb dJx4a65c_add_72be8_1 rfl (lv_at hl 2 rfl) ?_
  refine va_tlen hx hb X.2.2.2.2.1.2.2.2 h.2.2 (v := nI 0) rfl dJx4a65c_add_72be8_2 ?_
  refine n_icmp_ne (tgt := 11) hx hb (by omega) (by omega) dJx4a65c_add_72be8_3 (by decide) (fun c => absurd hg0 c) (fun _ => ?_)
  refine lv_aload_n hx hb dJx4a65c_add_72be8_6 rfl (lv_at hl 0 rfl) ?_
  refine g_doneR X h (x_runV X h (k := (7, b, e, 0)) (m_growe_first b e g1 v hk7 hg0 h8 hs7 hgs _) F_Jx4a65c_grow_d5877 q519 q521 q3 hk7 hs7 rfl rfl (Nat.le_of_ble_eq_true rfl) (Nat.le_of_ble_eq_true rfl) ⟨by show 0 + 1 ≤ 1; decide, by show 0 + 10 ≤ 10; omega⟩ hl.1 (Nat.le_of_ble_eq_true rfl) dJx4a65c_add_72be8_7 rfl) (fun r u H locs hP h => ?_)
  obtain ⟨ad1, Ks1, st1⟩ := u
  obtain ⟨rfl, hn, hKi, hso, hs71, hs81⟩ := hP
  have hn : ∀ k, k ≠ (8, b, e, 0) → ad1 k = ad k := hn
  have hKi : ∀ k, k ∈ Ks1 ↔ (k = (8, b, e, 0) ∨ k ∈ Ks) := hKi
  have hso : ∀ k, k ≠ (7, b, e, 0) → k ≠ (8, b, e, 0) → st1 k = st k := hso
  have hs71 : st1 (7, b, e, 0) = .inr (0, [.int v, .ref (ad1 (8, b, e, 0)), .int (nI g1)]) := hs71
  have hs81 : st1 (8, b, e, 0) = .inl (tc 6, 10, .inr (.inr (.inr (.inr (fun _ => none))))) := hs81
  have h : Sx D (wA ad Ks s.heap.size) ad1 Ks1 st1 s H locs := h
  have hm71 : (7, b, e, 0) ∈ Ks1 := (hKi _).mpr (Or.inr hk7)
  have hm81 : (8, b, e, 0) ∈ Ks1 := (hKi _).mpr (Or.inl rfl)
  refine lv_astore_n (lv' := [(2, .ref (ad1 (8, b, e, 0))), (0, .ref (ad (7, b, e, 0))), (1, .ref (ad (16, b, e, g1))), (3, .int (nI g1))]) hx hb dJx4a65c_add_72be8_10 rfl hl (by decide) rfl (fun ls hl => ?_)
  refine lv_aload_n hx hb dJx4a65c_add_72be8_11 rfl (lv_at hl 0 rfl) ?_
  refine lv_iload_n hx hb dJx4a65c_add_72be8_12 rfl (lv_at hl 3 rfl) ?_
  refine lv_aload_n hx hb dJx4a65c_add_72be8_13 rfl (lv_at hl 2 rfl) ?_
  refine r_astq X h rfl hm81 (t0 := 6) rfl hs81 (hn _ hM8).symm ((hKi _).mpr (Or.inr hM)) ((hso _ hM7 hM8).trans hsM) rfl (Or.inr t806) g1 (by have := Nat.le_max_left 1 (g1 / 2); omega) (by have h1 := Nat.le_max_left 1 (g1 / 2); omega) dJx4a65c_add_72be8_14 (fun H locs h => ?_)
  refine lv_aload_n hx hb dJx4a65c_add_72be8_15 rfl (lv_at hl 1 rfl) ?_
  refine lv_iload_n hx hb dJx4a65c_add_72be8_16 rfl (lv_at hl 3 rfl) ?_
  refine lv_iconst (v := nI 1) hx hb dJx4a65c_add_72be8_17 (by decide) ?_
  refine n_iadd hx hb dJx4a65c_add_72be8_18 ?_
  refine r_put X h (hn _ hne).symm hm71 ((sset_ne _ _ hne).trans hs71) rfl inJx4a65c tyJx4a65c_ok nmJx4a65c 2 (by decide) q67 rfl rfl rfl rfl (Nat.le_of_ble_eq_true rfl) dJx4a65c_add_72be8_19 (fun H locs h => ?_)
  exact g_vret X h hr ⟨hn, hKi, fun k q1 q2 => (by dsimp only; rw [sset_ne _ _ q1, sset_ne _ _ q2]; exact hso k q1 q2), (by dsimp only; rw [sset_eq]; rfl), (by dsimp only; rw [sset_ne _ _ (Ne.symm hne), sset_eq])⟩ (by show 0 + 1 ≤ 1; decide) (by show 0 + 10 ≤ 10; omega) dJx4a65c_add_72be8_22

set_option maxHeartbeats 4000000 in
set_option maxRecDepth 100000 in
theorem m_add2_more {l : Launch} {D : va_G} {tc : TC} {dz : Nat} {ad : KN → Nat} {Ks : List KN} {st : KN → va_E} (b e g1 g2 : Nat) (v : Int32) (f : Nat → Option Nat) (hk7 : (7, b, e, 0) ∈ Ks) (hg12 : g1 = g2) (hg0 : 0 < g2) (hgb : g2 < 2 ^ 20) (hk8 : (8, b, e, 0) ∈ Ks) (h52 : (52, b, e, 0) ∉ Ks) (hs7 : st (7, b, e, 0) = .inr (0, [.int v, .ref (ad (8, b, e, 0)), .int (nI g1)])) (hs8 : st (8, b, e, 0) = .inl (tc 6, g2, .inr (.inr (.inr (.inr f))))) (hel : ∀ i, i < g2 → ∀ y, f i = some y → ∃ (k2 : KN) (fs : List Value), k2 ∈ Ks ∧ y = ad k2 ∧ st k2 = .inr (5, fs)) (hM : (16, b, e, g1) ∈ Ks) (fsM : List Value) (hsM : st (16, b, e, g1) = .inr (5, fsM)) (hgs : g1 < 2 ^ 30) : GV l yJx4a65c_add_72be8 cJx4a65c_add_72be8 4 6 1 (g2 + max 1 (g2 / 2)) D tc dz ad Ks st [.ref (ad (7, b, e, 0)), .ref (ad (16, b, e, g1)), .ref (ad (8, b, e, 0)), .int (nI g1)] (fun u => (∀ k, k ≠ (8, b, e, 0) → u.1 k = ad k) ∧ (∀ k, k ∈ u.2.1 ↔ (k = (8, b, e, 0) ∨ k ∈ Ks)) ∧ (∀ k, k ≠ (7, b, e, 0) → k ≠ (8, b, e, 0) → u.2.2 k = st k) ∧ u.2.2 (7, b, e, 0) = .inr (0, [.int v, .ref (u.1 (8, b, e, 0)), .int (nI (g1 + 1))]) ∧ u.2.2 (8, b, e, 0) = .inl (tc 6, (g2 + max 1 (g2 / 2)), .inr (.inr (.inr (.inr (va_up (va_cpy f (fun _ => none) 0 0 g2) g1 (some (ad (16, b, e, g1))))))))) := by
  intro sz
  refine x_ofW (by decide +kernel) (Nat.le_of_ble_eq_true rfl) (fun pp ee s mm bel meth cd ls X hr hin hz h hl => ?_)
  subst hz
  obtain ⟨hx, hb, hmaxL, hown, hts⟩ := id X.1
  have hl : lv_has ls 4 [(0, .ref (ad (7, b, e, 0))), (1, .ref (ad (16, b, e, g1))), (2, .ref (ad (8, b, e, 0))), (3, .int (nI g1))] := hl
  have hM7 : (16, b, e, g1) ≠ (7, b, e, 0) := nek (by decide)
  have hM8 : (16, b, e, g1) ≠ (8, b, e, 0) := nek (by decide)
  have hne : (7, b, e, 0) ≠ (8, b, e, 0) := nek (by decide)
  refine lv_iload_n hx hb dJx4a65c_add_72be8_0 rfl (lv_at hl 3 rfl) ?_
  refine lv_aload_n hx hb dJx4a65c_add_72be8_1 rfl (lv_at hl 2 rfl) ?_
  refine r_alen X h rfl hk8 6 rfl hs8 dJx4a65c_add_72be8_2 ?_
  refine n_icmp_ne (tgt := 11) hx hb (by omega) (by omega) dJx4a65c_add_72be8_3 (by decide) (fun c => absurd hg12 c) (fun _ => ?_)
  refine lv_aload_n hx hb dJx4a65c_add_72be8_6 rfl (lv_at hl 0 rfl) ?_
  refine g_doneR X h (x_runV X h (k := (7, b, e, 0)) (m_growe_more b e g1 g2 v f hk7 hg12 hg0 hgb hk8 h52 hs7 hs8 hel hgs _) F_Jx4a65c_grow_d5877 q519 q521 q3 hk7 hs7 rfl rfl (Nat.le_of_ble_eq_true rfl) (Nat.le_of_ble_eq_true rfl) ⟨by show 0 + 1 ≤ 1; decide, by show 0 + (g2 + max 1 (g2 / 2)) ≤ (g2 + max 1 (g2 / 2)); omega⟩ hl.1 (Nat.le_of_ble_eq_true rfl) dJx4a65c_add_72be8_7 rfl) (fun r u H locs hP h => ?_)
  obtain ⟨ad1, Ks1, st1⟩ := u
  obtain ⟨rfl, hn, hKi, hso, hs71, hs81⟩ := hP
  have hn : ∀ k, k ≠ (8, b, e, 0) → ad1 k = ad k := hn
  have hKi : ∀ k, k ∈ Ks1 ↔ (k = (8, b, e, 0) ∨ k ∈ Ks) := hKi
  have hso : ∀ k, k ≠ (7, b, e, 0) → k ≠ (8, b, e, 0) → st1 k = st k := hso
  have hs71 : st1 (7, b, e, 0) = .inr (0, [.int v, .ref (ad1 (8, b, e, 0)), .int (nI g1)]) := hs71
  have hs81 : st1 (8, b, e, 0) = .inl (tc 6, (g2 + max 1 (g2 / 2)), .inr (.inr (.inr (.inr (va_cpy f (fun _ => none) 0 0 g2))))) := hs81
  have h : Sx D (wA ad Ks s.heap.size) ad1 Ks1 st1 s H locs := h
  have hm71 : (7, b, e, 0) ∈ Ks1 := (hKi _).mpr (Or.inr hk7)
  have hm81 : (8, b, e, 0) ∈ Ks1 := (hKi _).mpr (Or.inl rfl)
  refine lv_astore_n (lv' := [(2, .ref (ad1 (8, b, e, 0))), (0, .ref (ad (7, b, e, 0))), (1, .ref (ad (16, b, e, g1))), (3, .int (nI g1))]) hx hb dJx4a65c_add_72be8_10 rfl hl (by decide) rfl (fun ls hl => ?_)
  refine lv_aload_n hx hb dJx4a65c_add_72be8_11 rfl (lv_at hl 0 rfl) ?_
  refine lv_iload_n hx hb dJx4a65c_add_72be8_12 rfl (lv_at hl 3 rfl) ?_
  refine lv_aload_n hx hb dJx4a65c_add_72be8_13 rfl (lv_at hl 2 rfl) ?_
  refine r_astq X h rfl hm81 (t0 := 6) rfl hs81 (hn _ hM8).symm ((hKi _).mpr (Or.inr hM)) ((hso _ hM7 hM8).trans hsM) rfl (Or.inr t806) g1 (by have := Nat.le_max_left 1 (g1 / 2); omega) (by have h1 := Nat.le_max_left 1 (g1 / 2); omega) dJx4a65c_add_72be8_14 (fun H locs h => ?_)
  refine lv_aload_n hx hb dJx4a65c_add_72be8_15 rfl (lv_at hl 1 rfl) ?_
  refine lv_iload_n hx hb dJx4a65c_add_72be8_16 rfl (lv_at hl 3 rfl) ?_
  refine lv_iconst (v := nI 1) hx hb dJx4a65c_add_72be8_17 (by decide) ?_
  refine n_iadd hx hb dJx4a65c_add_72be8_18 ?_
  refine r_put X h (hn _ hne).symm hm71 ((sset_ne _ _ hne).trans hs71) rfl inJx4a65c tyJx4a65c_ok nmJx4a65c 2 (by decide) q67 rfl rfl rfl rfl (Nat.le_of_ble_eq_true rfl) dJx4a65c_add_72be8_19 (fun H locs h => ?_)
  exact g_vret X h hr ⟨hn, hKi, fun k q1 q2 => (by dsimp only; rw [sset_ne _ _ q1, sset_ne _ _ q2]; exact hso k q1 q2), (by dsimp only; rw [sset_eq]; rfl), (by dsimp only; rw [sset_ne _ _ (Ne.symm hne), sset_eq])⟩ (by show 0 + 1 ≤ 1; decide) (by show 0 + (g2 + max 1 (g2 / 2)) ≤ (g2 + max 1 (g2 / 2)); omega) dJx4a65c_add_72be8_22
