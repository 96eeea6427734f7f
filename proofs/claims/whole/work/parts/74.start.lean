/-! THE CLAIM OUT OF ONE WALK OF THE LAW'S BODY. Your part is whole_start (and what it stands on); all else here is the same for every law, but numbers. -/
def R_law : String := "BraidBookLaw"
def lw_P (b : Addr) (xs : List Int32) (args : Array Value) (s : State) : Prop := args = #[.ref b] ∧ s.IntsAt b xs ∧ xs.length ≤ 2560 ∧ (Jvm.Cond.and given_1 narrow_1).before args s = true
/-- what a walk over the start with the record d0 says of its end, said of the start itself -/
theorem lw_closed {s t : State} {o : Outcome} {d0 : Drawn} {L : List Loc} {k n : Nat} (hd0 : s.drawn.sameBut d0 lw_cs) (hv : ∃ v, o = .returned v) (hW : (s.setDrawn d0).WarmedH t.vm) (hs : (s.setDrawn d0).sameButNew ({ t with vm := s.vm } : State) L k n) : State.butDraws s t lw_cs (fun t1 => Framed s o t1 L k n) := by
  have h2 : t.drawn = d0 := congrArg State.drawn hs.1
  refine ⟨⟨hv, hW, State.sameButNew.setDrawn hs s.drawn⟩, ?_, by decide⟩
  rw [h2]
  exact hd0
def lw_Q (_ : Array Value) (s : State) (o : Outcome) (t : State) : Prop := o = .returned (some (.int 1)) ∧ State.butDraws s t lw_cs (fun t1 => Framed s o t1 [] 601024 7293034)
def lw_Z (below : List Frame) (a : Array Value) (s : State) : State → Prop := fun t => ∃ o, t.status = .running ∧ Ended t below o ∧ lw_Q a s o t
/-- the law's own end, with 1 on the stack, nothing written that was there before, its room as the claim has it; d0: the record of draws at this point (at the entry s.drawn: begin with 'refine W.base ?_' and 'have hd0 := Drawn.sameBut.refl s.drawn lw_cs') -/
theorem lw_ret {p : Program} {l : Launch} {e : Env} {s : State} {m : MethodId} {below : List Frame} {meth : Method} {c : Code} {b : Nat} {d0 : Drawn} (hd0 : s.drawn.sameBut d0 lw_cs) (hx : p.tables.exec = Jvm.exec) (hb : c.code = code) (hr : meth.sig.returnType = ret) (hlocks : meth.locks = false) {pc : Nat} {H : Heap} {ls : Array Slot} (hdg : decode code pc = .ok (.ireturn, 1)) : W p l e room_1 (s.setDrawn d0) m #[Value.ref b] below meth c H [] 601024 7293034 (lw_Z below #[Value.ref b] s) (F0 m pc ls [.int 1]) := by
  intro T hT X
  obtain ⟨fs, hret, hrun, hended, hW, hframe⟩ := X.leave (v := some (.int 1)) (hlocks := hlocks) (fun h => by rw [hr] at h; cases h)
  have hmeth' : T.vm.method? m = some meth := X.method'
  refine ⟨T.setFrames fs, ?_, .returned (some (.int 1)), hrun, hended, rfl, lw_closed hd0 ⟨_, rfl⟩ hW hframe⟩
  jvm_step X.here [X.here.top, hx, hb, hdg, hmeth', hr, ret, narrow_b1]
  (try refine ⟨rfl, ?_⟩); (try refine ⟨rfl, ?_⟩)
  first | (intro acts; rw [hret _ acts rfl rfl rfl]) | rw [hret _ _ rfl rfl rfl]
  exact Steps.refl _
/-- what holds at the law's entry: the machine, the code, the tables' words (any of lw_tbl by 'hts w (by decide +kernel)'), the script of L ints xs at the cell b, what the Statement gives of the start (any of its parts by flat_of_before) -/
def lw_At (p : Program) (s : State) (m : MethodId) (meth : Method) (c : Code) (b L : Nat) (xs : Nat → Int32) : Prop :=
  p.tables.exec = Jvm.exec ∧ c.code = code ∧ meth.sig.returnType = ret ∧ c.maxLocals = 8 ∧ s.vm.findClass R_law = some m.cls ∧ (∀ w ∈ lw_tbl, w.before #[Value.ref b] s = true) ∧ va_X b L xs s s.heap ∧ b < s.heap.size ∧ meth.locks = false ∧ (Jvm.Cond.and given_1 narrow_1).before #[Value.ref b] s = true
/-- the names at the start -/
theorem start_names : ∀ k : KN, lvS gz0 k ↔ (k = (51, 0, 0, 0) ∨ k = (50, 0, 0, 0) ∨ k = (30, 0, 0, 0) ∨ nwR k ∨ k = (0, 0, 0, 0) ∨ nwA k)
  | (0, b, e, d) => by
    show (b = 0 ∧ e = 0 ∧ d = 0) ↔ _
    simp [nwR, nwA, nwJ, nwBi] <;> omega
  | (1, b, e, d) => by
    show (b < 2 ∧ e = 0 ∧ d = 0) ↔ _
    simp [nwR, nwA, nwJ, nwBi] <;> omega
  | (2, b, e, d) => by
    show (b < 2 ∧ e = 0 ∧ d = 0) ↔ _
    simp [nwR, nwA, nwJ, nwBi] <;> omega
  | (3, b, e, d) => by
    show (b < 2 ∧ e = 0 ∧ d = 0) ↔ _
    simp [nwR, nwA, nwJ, nwBi] <;> omega
  | (4, b, e, d) => by
    show (b < 2 ∧ e < 10 ∧ d = 0) ↔ _
    simp [nwR, nwA, nwJ, nwBi] <;> omega
  | (5, b, e, d) => by
    show (b < 2 ∧ e < 10 ∧ d = 0) ↔ _
    simp [nwR, nwA, nwJ, nwBi] <;> omega
  | (6, b, e, d) => by
    show (b < 2 ∧ e < 10 ∧ d = 0) ↔ _
    simp [nwR, nwA, nwJ, nwBi] <;> omega
  | (7, b, e, d) => by
    show (b < 2 ∧ e < 10 ∧ d = 0) ↔ _
    simp [nwR, nwA, nwJ, nwBi] <;> omega
  | (8, b, e, d) => by
    show (b < 2 ∧ e < 10 ∧ d = 0 ∧ 0 < 0) ↔ _
    simp [nwR, nwA, nwJ, nwBi] <;> omega
  | (9, b, e, d) => by
    show (b < 2 ∧ e < 10 ∧ d < 6) ↔ _
    simp [nwR, nwA, nwJ, nwBi] <;> omega
  | (10, b, e, d) => by
    show (b < 2 ∧ e < 10 ∧ d < 6) ↔ _
    simp [nwR, nwA, nwJ, nwBi] <;> omega
  | (11, b, e, d) => by
    show (b < 2 ∧ e < 10 ∧ d < 6) ↔ _
    simp [nwR, nwA, nwJ, nwBi] <;> omega
  | (12, b, e, d) => by
    show (b < 2 ∧ e < 10 ∧ d < 6) ↔ _
    simp [nwR, nwA, nwJ, nwBi] <;> omega
  | (13, b, e, d) => by
    show (b < 2 ∧ e < 10 ∧ d < 6) ↔ _
    simp [nwR, nwA, nwJ, nwBi] <;> omega
  | (14, b, e, d) => by
    show (b < 2 ∧ e < 10 ∧ d < 6) ↔ _
    simp [nwR, nwA, nwJ, nwBi] <;> omega
  | (15, b, e, d) => by
    show (b < 2 ∧ e < 10 ∧ d < 6) ↔ _
    simp [nwR, nwA, nwJ, nwBi] <;> omega
  | (16, b, e, d) => by
    show (b < 2 ∧ e < 10 ∧ d < 0) ↔ _
    simp [nwR, nwA, nwJ, nwBi] <;> omega
  | (17, b, e, d) => by
    show (b < 2 ∧ e < 10 ∧ d < 0) ↔ _
    simp [nwR, nwA, nwJ, nwBi] <;> omega
  | (18, b, e, d) => by
    show (b < 2 ∧ e < 10 ∧ d < 0) ↔ _
    simp [nwR, nwA, nwJ, nwBi] <;> omega
  | (19, b, e, d) => by
    show (b < 2 ∧ e < 10 ∧ d < 0) ↔ _
    simp [nwR, nwA, nwJ, nwBi] <;> omega
  | (n + 20, b, e, d) => by
    show (((20 ≤ n + 20 ∧ n + 20 ≤ 25) ∨ (30 ≤ n + 20 ∧ n + 20 ≤ 42) ∨ n + 20 = 50 ∨ n + 20 = 51) ∧ b = 0 ∧ e = 0 ∧ d = 0) ↔ _
    simp [nwR, nwA, nwJ, nwBi] <;> omega
set_option maxHeartbeats 4000000 in
set_option maxRecDepth 100000 in
theorem whole_start {p : Program} {e : Env} {s : State} {m : MethodId} {below : List Frame} {meth : Method} {c : Code} (l : Launch) (hflags : l.flags = flags0) {b L : Nat} {xs : Nat → Int32} (hL : L ≤ 2560) (C0 : lw_At p s m meth c b L xs) : W p l e room_1 s m #[Value.ref b] below meth c s.heap [] 0 0 (lw_Z below #[Value.ref b] s) (entryFrame m ([Value.ref b] : List Value).toArray 8) := by
  obtain ⟨hx, hb, hr, hml, hown, hts, hX, hbl, hlocks, hgv⟩ := id C0
  have hst : l.stackTraces = false := by
    unfold Launch.stackTraces
    rw [hflags]
    decide +kernel
  obtain ⟨D, tc, hK⟩ := start_K hts
  obtain ⟨dz, hZ⟩ := start_ZS hts hgv
  have hN := start_NW hts hgv
  have htsA : ∀ w ∈ AW, w.before #[Value.ref b] s = true := fun w hw => hts w (List.mem_filter.mp hw).1
  have X : Cx p s m #[Value.ref b] meth c cL_law RL 8 D tc dz (fun q => s.heap.size ≤ q) := ⟨⟨hx, hb, hml, hown, htsA⟩, hlocks, hK, hN, hZ, fun q h => h⟩
  have Z : LX p s m meth c D tc dz b L xs := ⟨X, hX, hbl, hL⟩
  have hl := lv_entry ([.ref b]) (n := 8) (Nat.le_of_ble_eq_true rfl)
  rw [lg_entry_eq]
  generalize (lg_sl ([.ref b]) ++ List.replicate (8 - (lg_sl ([.ref b])).length) Slot.unset).toArray = ls at hl ⊢
  have hl : lv_has ls 8 [(0, .ref b)] := hl
  have w : WF LK tc dz (fun _ => 0) [] (fun _ => .inl (tc 0, 0, .inl (fun _ => 0))) (99, 0, 0, 0) (fun _ => False) (fun _ => False) (fun _ => 0, [], (fun _ => .inl (tc 0, 0, .inl (fun _ => 0)))) := WF.start
  have h : Sx D (fun q => s.heap.size ≤ q) (fun _ => 0) [] (fun _ => .inl (tc 0, 0, .inl (fun _ => 0))) s s.heap [] := ⟨fun k hk => absurd hk List.not_mem_nil, ⟨List.nodup_nil, fun k hk => absurd hk List.not_mem_nil, fun k hk => absurd hk List.not_mem_nil⟩, va_S.rf⟩
  refine r_new X h (k := (0, 0, 0, 0)) List.not_mem_nil (ci := 7) (fs := [.null, .null, .null]) rfl inX6 tyX6_ok q51 q52 q27 dfX6 (Nat.le_of_ble_eq_true rfl) (Nat.le_of_ble_eq_true rfl) dL_law_0 (fun ad1 H a1 ta1 hn h => ?_)
  obtain ⟨Ks1, st1, h, tm1, tf1, kp, w⟩ := w_step h w id List.not_mem_nil (by simp [LK]) hn
  refine lv_dup hx hb dL_law_3 rfl ?_
  have hfr : ∀ k2, nwA k2 → k2 ∉ Ks1 := fun k2 z => w.fresh (by obtain ⟨n2, b2, e2, d2⟩ := k2; simp only [nwA, nwR, nwBi, nwJ, Prod.mk.injEq, or_false, false_or] at z ⊢; omega) List.not_mem_nil
  refine g_doneV X h (g_runI X h (b := a1) (by rw [ta1]; exact m_X6_init tf1 tm1 hfr _) F_X6_init q53 q54 rfl rfl (Nat.le_of_ble_eq_true rfl) (Nat.le_of_ble_eq_true rfl) ⟨(Nat.le_of_ble_eq_true rfl), (Nat.le_of_ble_eq_true rfl)⟩ hl.1 (Nat.le_of_ble_eq_true rfl) dL_law_4 rfl) (fun u H locs hP h => ?_)
  obtain ⟨ad2, Ks2, st2⟩ := u
  have h : Sx D (fun q => s.heap.size ≤ q) ad2 Ks2 st2 s H locs := h
  have kp := w_sub hP hfr
  have w := w.sub (Or.inl rfl) id hP (fun k2 z => ⟨by obtain ⟨n2, b2, e2, d2⟩ := k2; simp only [nwA, nwR, nwBi, nwJ, Prod.mk.injEq, or_false, false_or] at z ⊢; omega, List.not_mem_nil, by obtain ⟨n2, b2, e2, d2⟩ := k2; simp only [nwA, nwR, nwBi, nwJ, LK, Prod.mk.injEq, or_false] at z ⊢; omega⟩) (fun k2 z => Or.inl (by rcases z with rfl | rfl | rfl <;> simp [nwA])) List.not_mem_nil
  have ta1 := ta1.trans (kp _ tm1).1.symm
  have tm1 := (kp _ tm1).2.1
  refine lv_astore_n (lv' := [(1, .ref a1), (0, .ref b)]) hx hb dL_law_7 rfl hl (by decide) rfl (fun ls hl => ?_)
  refine r_new X h (k := (30, 0, 0, 0)) (w.fresh (by simp [nwA, nwBi, nwJ]) List.not_mem_nil) (ci := 8) (fs := [.int 0, .null, .int 0, .null, .null, .null, .null, .null, .null, .null, .null, .int 0, .null, .null, .null, .int 0, .int 0]) rfl inX7 tyX7_ok q790 q791 q36 dfX7 (Nat.le_of_ble_eq_true rfl) (Nat.le_of_ble_eq_true rfl) dL_law_8 (fun ad3 H a3 ta3 hn h => ?_)
  obtain ⟨Ks3, st3, h, tm3, tf3, kp, w⟩ := w_step h w (by simp [nwA, nwBi, nwJ]) List.not_mem_nil (by simp [LK]) hn
  have ta1 := ta1.trans (kp _ tm1).1.symm
  have tm1 := (kp _ tm1).2.1
  refine lv_dup hx hb dL_law_11 rfl ?_
  have hfr : ∀ k2, nwR k2 → k2 ∉ Ks3 := fun k2 z => w.fresh (by obtain ⟨n2, b2, e2, d2⟩ := k2; simp only [nwA, nwR, nwBi, nwJ, Prod.mk.injEq, or_false, false_or] at z ⊢; omega) List.not_mem_nil
  refine g_doneV X h (g_runI X h (b := a3) (by rw [ta3]; exact m_X7_init tf3 tm3 hfr _) F_X7_init q792 q793 rfl rfl (Nat.le_of_ble_eq_true rfl) (Nat.le_of_ble_eq_true rfl) ⟨(Nat.le_of_ble_eq_true rfl), (Nat.le_of_ble_eq_true rfl)⟩ hl.1 (Nat.le_of_ble_eq_true rfl) dL_law_12 rfl) (fun u H locs hP h => ?_)
  obtain ⟨ad4, Ks4, st4⟩ := u
  have h : Sx D (fun q => s.heap.size ≤ q) ad4 Ks4 st4 s H locs := h
  have kp := w_sub hP hfr
  have w := w.sub (Or.inl rfl) (by simp [nwA, nwBi, nwJ]) hP (fun k2 z => ⟨by obtain ⟨n2, b2, e2, d2⟩ := k2; simp only [nwA, nwR, nwBi, nwJ, Prod.mk.injEq, or_false, false_or] at z ⊢; omega, List.not_mem_nil, by obtain ⟨n2, b2, e2, d2⟩ := k2; simp only [nwA, nwR, nwBi, nwJ, LK, Prod.mk.injEq, or_false] at z ⊢; omega⟩) (fun k2 z => Or.inl (by rcases z with rfl | rfl | rfl | rfl | rfl | rfl | rfl | rfl | rfl | rfl | rfl | rfl <;> simp [nwR])) List.not_mem_nil
  have ta1 := ta1.trans (kp _ tm1).1.symm
  have tm1 := (kp _ tm1).2.1
  have ta3 := ta3.trans (kp _ tm3).1.symm
  have tm3 := (kp _ tm3).2.1
  refine lv_astore_n (lv' := [(2, .ref a3), (1, .ref a1), (0, .ref b)]) hx hb dL_law_15 rfl hl (by decide) rfl (fun ls hl => ?_)
  refine lv_iconst (v := nI 1) hx hb dL_law_16 (by decide) ?_
  refine r_newJ X h (k := (50, 0, 0, 0)) (w.fresh (by simp [nwA, nwR, nwBi, nwJ]) List.not_mem_nil) (n := 1) (by decide) (by decide) (Nat.le_of_ble_eq_true rfl) (Nat.le_of_ble_eq_true rfl) dL_law_17 (fun ad5 H a5 ta5 hn h => ?_)
  obtain ⟨Ks5, st5, h, tm5, tf5, kp, w⟩ := w_step h w (by simp [nwA, nwR, nwBi, nwJ]) List.not_mem_nil (by simp [LK]) hn
  have ta1 := ta1.trans (kp _ tm1).1.symm
  have tm1 := (kp _ tm1).2.1
  have ta3 := ta3.trans (kp _ tm3).1.symm
  have tm3 := (kp _ tm3).2.1
  have w := w.addT (Or.inl rfl) (tf5.trans (show _ = (.inl (tc 2, 1, .inr (.inl (fun _ => (0 : Int32).toInt64))) : va_E) by rw [show (0 : Int32).toInt64 = 0 by decide])) (fun k2 q => absurd q id)
  refine lv_astore_n (lv' := [(3, .ref a5), (2, .ref a3), (1, .ref a1), (0, .ref b)]) hx hb dL_law_19 rfl hl (by decide) rfl (fun ls hl => ?_)
  refine lv_iconst (v := nI 1) hx hb dL_law_20 (by decide) ?_
  refine r_newD X h (k := (51, 0, 0, 0)) (w.fresh (by simp [nwA, nwR, nwBi, nwJ]) List.not_mem_nil) (n := 1) (by decide) (by decide) (Nat.le_of_ble_eq_true rfl) (Nat.le_of_ble_eq_true rfl) dL_law_21 (fun ad6 H a6 ta6 hn h => ?_)
  obtain ⟨Ks6, st6, h, tm6, tf6, kp, w⟩ := w_step h w (by simp [nwA, nwR, nwBi, nwJ]) List.not_mem_nil (by simp [LK]) hn
  have ta1 := ta1.trans (kp _ tm1).1.symm
  have tm1 := (kp _ tm1).2.1
  have ta3 := ta3.trans (kp _ tm3).1.symm
  have tm3 := (kp _ tm3).2.1
  have ta5 := ta5.trans (kp _ tm5).1.symm
  have tm5 := (kp _ tm5).2.1
  have w := w.addT (Or.inl rfl) (tf6.trans (show _ = (.inl (tc 3, 1, .inr (.inr (.inr (.inl (fun _ => FP.f2d (0 : Int32).toUInt32))))) : va_E) by rw [show FP.f2d (0 : Int32).toUInt32 = 0 by decide +kernel])) (fun k2 q => absurd q id)
  refine lv_astore (lv' := [(4, .ref a6), (3, .ref a5), (2, .ref a3), (1, .ref a1), (0, .ref b)]) hx hb dL_law_23 hl (by decide) rfl (fun ls hl => ?_)
  refine lv_iconst (v := nI 0) hx hb dL_law_25 (by decide) ?_
  refine lv_istore (lv' := [(5, .int (nI 0)), (4, .ref a6), (3, .ref a5), (2, .ref a3), (1, .ref a1), (0, .ref b)]) hx hb dL_law_26 hl (by decide) rfl (fun ls hl => ?_)
  rw [ta1, ta3, ta5, ta6] at hl
  have hin : ∀ k, k ∈ Ks6 ↔ lvS gz0 k := fun k => by
    rw [show k ∈ Ks6 ↔ _ from w.2.1 k, start_names k]
    constructor
    · intro q
      rcases q with (q | q | q | q | q | q | q) | q
      · simp [q]
      · simp [q]
      · simp [q]
      · simp [q]
      · simp [q]
      · simp [q]
      · exact q.elim
      · exact absurd q List.not_mem_nil
    · intro q
      rcases q with q | q | q | q | q | q
      all_goals simp [q]
  have h : Sx D (fun q => s.heap.size ≤ q) ad6 Ks6 (lay tc ad6 gz0 dz zM) s H locs := h.congr (fun k hk => by
    refine (w.2.2.2 k ?_).2.1
    have q := (start_names k).mp ((hin k).mp hk)
    rcases q with q | q | q | q | q | q
    all_goals simp [q])
  refine W.widen (k := 948 + 5 * SG gz0 + 0) (n := 53118 + 2111 * SG gz0 + 6 * 0) (Nat.le_of_ble_eq_true rfl) (Nat.le_of_ble_eq_true rfl) ?_
  exact law_loop Z hst (fun H locs ls hlocs => va_forget hlocs (W.base (lw_ret (Drawn.sameBut.refl s.drawn lw_cs) hx hb hr hlocks dL_law_1193))) (L + 1) 0 (by omega) (by omega) ad6 Ks6 gz0 zM H locs ls li_zero (fun k hk => (hin k).mpr hk) (fun k hk => (hin k).mp hk) (fun b e => ⟨Nat.le_refl _, Nat.zero_le _, Nat.zero_le _⟩) h hl
