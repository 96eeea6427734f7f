/-! the start: what the tables say of the world -/
section START
variable {args : Array Value} {s : State}
theorem st_arrI (h : (Cond.arrayClass .int).before args s = true) : ∃ cA, ArrOfT s cA .int ∧ va_RA s cA .int := by
  obtain ⟨c, k, comp, h1, h2, h3⟩ := Cond.arrayClass_spec h
  exact ⟨c, fun n z => ⟨(fun k h => by cases h), k, h2, comp, h3⟩, h1⟩
theorem st_arrJ (h : (Cond.arrayClass .long).before args s = true) : ∃ cA, ArrOfT s cA .long ∧ va_RA s cA .long := by
  obtain ⟨c, k, comp, h1, h2, h3⟩ := Cond.arrayClass_spec h
  exact ⟨c, fun n z => ⟨(fun k h => by cases h), k, h2, comp, h3⟩, h1⟩
theorem st_arrO {C : String} (h : (Cond.arrayOver (.object C)).before args s = true) : ∃ cA, ArrOfT s cA (.object C) ∧ va_RA s cA (.object C) := by
  obtain ⟨comp, c, k, f1, f2, f3, f4, f5⟩ := Cond.arrayOver_spec h
  exact ⟨c, fun N z => ⟨(fun k h => by cases h), k, f3, comp, f4⟩, k, comp, f3, f4, f1, f5⟩
theorem tb_at {w : Cond} (hts : ∀ w ∈ lw_tbl, w.before args s = true) (i : Nat) (h : lw_tbl[i]? = some w) : w.before args s = true := hts _ (List.mem_of_getElem? h)
theorem start_K (hts : ∀ w ∈ lw_tbl, w.before args s = true) : ∃ (D : va_G) (tc : TC), va_K D vwCl (tysOf tc) s := by
  have htsA : ∀ w ∈ AW, w.before args s = true := fun w hw => hts w (List.mem_filter.mp hw).1
  obtain ⟨c0, i0, k0⟩ := u_known (C := RJx4a65c) (T := TJx4a65c) (N := 3) (n := 3) htsA inJx4a65c (htsA _ q53)
  obtain ⟨c1, i1, k1⟩ := u_known (C := RX0) (T := TX0) (N := 4) (n := 4) htsA inX0 (htsA _ q38)
  obtain ⟨c2, i2, k2⟩ := u_known (C := RX1) (T := TX1) (N := 6) (n := 6) htsA inX1 (htsA _ q79)
  obtain ⟨c3, i3, k3⟩ := u_known (C := RX2) (T := TX2) (N := 5) (n := 5) htsA inX2 (htsA _ q45)
  obtain ⟨c4, i4, k4⟩ := u_known (C := RX3) (T := TX3) (N := 6) (n := 6) htsA inX3 (htsA _ q164)
  obtain ⟨c5, i5, k5⟩ := u_known (C := RX4) (T := TX4) (N := 2) (n := 2) htsA inX4 (htsA _ q495)
  obtain ⟨c6, i6, k6⟩ := u_known (C := RX5) (T := TX5) (N := 1) (n := 1) htsA inX5 (htsA _ q85)
  obtain ⟨c7, i7, k7⟩ := u_known (C := RX6) (T := TX6) (N := 3) (n := 3) htsA inX6 (htsA _ q30)
  obtain ⟨a0, b0⟩ := st_arrI (htsA _ q78)
  obtain ⟨a1, b1⟩ := st_arrI (htsA _ q78)
  obtain ⟨a2, b2⟩ := st_arrJ (htsA _ q796)
  obtain ⟨a3, b3⟩ := st_arrJ (htsA _ q796)
  obtain ⟨a4, b4⟩ := st_arrO (C := "BraidBook$Entry") (tb_at hts 44 (by decide +kernel))
  obtain ⟨a5, b5⟩ := st_arrO (C := "BraidBook$Copy") (tb_at hts 51 (by decide +kernel))
  obtain ⟨a6, b6⟩ := st_arrO (C := "java/lang/Object") (tb_at hts 559 (by decide +kernel))
  refine ⟨(fun k => match k with | 0 => c0 | 1 => c1 | 2 => c2 | 3 => c3 | 4 => c4 | 5 => c5 | 6 => c6 | _ => c7, fun k => match k with | 0 => i0 | 1 => i1 | 2 => i2 | 3 => i3 | 4 => i4 | 5 => i5 | 6 => i6 | _ => i7), fun k => match k with | 0 => a0 | 1 => a1 | 2 => a2 | 3 => a3 | 4 => a4 | 5 => a5 | _ => a6, fun k q hq => ?_, fun k q hq => ?_⟩
  · match k, hq with
    | 0, hq => cases hq; exact k0
    | 1, hq => cases hq; exact k1
    | 2, hq => cases hq; exact k2
    | 3, hq => cases hq; exact k3
    | 4, hq => cases hq; exact k4
    | 5, hq => cases hq; exact k5
    | 6, hq => cases hq; exact k6
    | 7, hq => cases hq; exact k7
    | k + 8, hq => simp [vwCl] at hq
  · match k, hq with
    | 0, hq => cases hq; exact b0
    | 1, hq => cases hq; exact b1
    | 2, hq => cases hq; exact b2
    | 3, hq => cases hq; exact b3
    | 4, hq => cases hq; exact b4
    | 5, hq => cases hq; exact b5
    | 6, hq => cases hq; exact b6
    | k + 7, hq => simp [tysOf] at hq
theorem st_cur {own tx : String} {k : Nat} (h1 : (Cond.stringRef own k tx).before args s = true) : ∃ cur, s.vm.findClass own = some cur := by
  simp only [Cond.before, Cond.holds, Cond.value] at h1
  cases hc : s.vm.findClass own with
  | none => simp [hc] at h1
  | some cur => exact ⟨cur, rfl⟩
theorem st_eqi {tm : Term} {z : Int32} (h : (Cond.eq tm (.int z)).before args s = true) : tm.eval args s none [] s = some (.int z) := by
  cases hv : tm.eval args s none [] s with
  | none => simp [Cond.before, Cond.holds, Cond.value, hv] at h
  | some w =>
    have hz : (Term.int z).eval args s none [] s = some (.int z) := rfl
    simp only [Cond.before, Cond.holds, Cond.value, hv, hz] at h
    cases w <;> simp_all
theorem start_NW (hts : ∀ w ∈ lw_tbl, w.before args s = true) (hgv : (Jvm.Cond.and given_1 narrow_1).before args s = true) : NW s := by
  have hs := flat_of_before _ hgv
  refine ⟨fun a i x h m => va_Nw.of rfl (hts _ m), fun C T m => va_Nw.of rfl (hts _ m), fun x m => va_Nw.of rfl (hts _ m), fun own k tx m => ?_, fun C m => va_AO.of (hts _ m), va_Mi.of (hs (.isRef (.mirror "[Ljava/lang/Object;")) (by decide +kernel)), fun q hq => ?_⟩
  · have h1 := hts _ m
    obtain ⟨cur, hcur⟩ := st_cur h1
    obtain ⟨k9, cf, i, a, -, -, -, -, -, hev⟩ := Cond.stringRef_spec hcur h1
    exact ⟨a, vk_R.of h1 hev⟩
  · have h6 : q = (exI, exA) ∨ q = (exI, exS) ∨ q = (exA, exI) ∨ q = (exA, exS) ∨ q = (exS, exI) ∨ q = (exS, exA) := by simpa [ncL] using hq
    rcases h6 with rfl | rfl | rfl | rfl | rfl | rfl
    · exact va_Nc.of (hs (.not (.castable exI exA)) (by decide +kernel))
    · exact va_Nc.of (hs (.not (.castable exI exS)) (by decide +kernel))
    · exact va_Nc.of (hs (.not (.castable exA exI)) (by decide +kernel))
    · exact va_Nc.of (hs (.not (.castable exA exS)) (by decide +kernel))
    · exact va_Nc.of (hs (.not (.castable exS exI)) (by decide +kernel))
    · exact va_Nc.of (hs (.not (.castable exS exA)) (by decide +kernel))
theorem start_ZS (hts : ∀ w ∈ lw_tbl, w.before args s = true) (hgv : (Jvm.Cond.and given_1 narrow_1).before args s = true) : ∃ dz, ZS dz (fun q => s.heap.size ≤ q) s s.heap := by
  have hs := flat_of_before _ hgv
  have hA : ∀ a : Nat, a < s.heap.size → ¬ (fun q : Nat => s.heap.size ≤ q) a := fun a h => Nat.not_le.mpr h
  obtain ⟨dz, h1, h2⟩ := va_Tof (A := fun q => s.heap.size ≤ q) (f := fun _ => .null) (tm := .static "java/util/ArrayList" "DEFAULTCAPACITY_EMPTY_ELEMENTDATA" "[Ljava/lang/Object;") (ty := .object "java/lang/Object") (N := 0) (by decide) (hs (.arrayOf (.static "java/util/ArrayList" "DEFAULTCAPACITY_EMPTY_ELEMENTDATA" "[Ljava/lang/Object;") (.object "java/lang/Object")) (by decide +kernel)) (st_eqi (hs (.eq (.length (.static "java/util/ArrayList" "DEFAULTCAPACITY_EMPTY_ELEMENTDATA" "[Ljava/lang/Object;")) (.int 0)) (by decide +kernel))) (fun j hj => absurd hj (Nat.not_lt_zero _)) hA
  refine ⟨dz, vx_Zqof (tb_at hts 235 (by decide +kernel)) (tb_at hts 15 (by decide +kernel)) (hs (.isRef (.static Bundle.tN "UNASSIGNED_STACK" Bundle.steD)) (by decide +kernel)) hA, vx_Zqof (tb_at hts 237 (by decide +kernel)) (tb_at hts 15 (by decide +kernel)) (hs (.isRef (.static Bundle.tN "SUPPRESSED_SENTINEL" Bundle.listD)) (by decide +kernel)) hA, va_Zof (tb_at hts 65 (by decide +kernel)) (tb_at hts 11 (by decide +kernel)) h1 hA, h2⟩
end START
/-! THE CLAIM OUT OF ONE WALK OF THE LAW'S BODY. Your part is whole_start (and what it stands on); all else here is the same for every law, but numbers. -/
def R_law : String := "BraidBookLaw"
def lw_P (b : Addr) (xs : List Int32) (args : Array Value) (s : State) : Prop := args = #[.ref b] ∧ s.IntsAt b xs ∧ xs.length ≤ 260 ∧ (Jvm.Cond.and given_1 narrow_1).before args s = true
/-- what a walk over the start with the record d0 says of its end, said of the start itself -/
theorem lw_closed {s t : State} {o : Outcome} {d0 : Drawn} {L : List Loc} {k n : Nat} (hd0 : s.drawn.sameBut d0 lw_cs) (hv : ∃ v, o = .returned v) (hW : (s.setDrawn d0).WarmedH t.vm) (hs : (s.setDrawn d0).sameButNew ({ t with vm := s.vm } : State) L k n) : State.butDraws s t lw_cs (fun t1 => Framed s o t1 L k n) := by
  have h2 : t.drawn = d0 := congrArg State.drawn hs.1
  refine ⟨⟨hv, hW, State.sameButNew.setDrawn hs s.drawn⟩, ?_, by decide⟩
  rw [h2]
  exact hd0
def lw_Q (_ : Array Value) (s : State) (o : Outcome) (t : State) : Prop := o = .returned (some (.int 1)) ∧ State.butDraws s t lw_cs (fun t1 => Framed s o t1 [] room_1.cells room_1.slots)
def lw_Z (below : List Frame) (a : Array Value) (s : State) : State → Prop := fun t => ∃ o, t.status = .running ∧ Ended t below o ∧ lw_Q a s o t
/-- the law's own end, with 1 on the stack, nothing written that was there before, its room as the claim has it; d0: the record of draws at this point (at the entry s.drawn: begin with 'refine W.base ?_' and 'have hd0 := Drawn.sameBut.refl s.drawn lw_cs') -/
theorem lw_ret {p : Program} {l : Launch} {e : Env} {s : State} {m : MethodId} {below : List Frame} {meth : Method} {c : Code} {b : Nat} {d0 : Drawn} (hd0 : s.drawn.sameBut d0 lw_cs) (hx : p.tables.exec = Jvm.exec) (hb : c.code = code) (hr : meth.sig.returnType = ret) (hlocks : meth.locks = false) {pc : Nat} {H : Heap} {ls : Array Slot} (hdg : decode code pc = .ok (.ireturn, 1)) : W p l e room_1 (s.setDrawn d0) m #[Value.ref b] below meth c H [] room_1.cells room_1.slots (lw_Z below #[Value.ref b] s) (F0 m pc ls [.int 1]) := by
  intro T hT X
  obtain ⟨fs, hret, hrun, hended, hW, hframe⟩ := X.leave (v := some (.int 1)) (hlocks := hlocks) (fun h => by rw [hr] at h; cases h)
  have hmeth' : T.vm.method? m = some meth := X.method'
  refine ⟨T.setFrames fs, ?_, .returned (some (.int 1)), hrun, hended, rfl, lw_closed hd0 ⟨_, rfl⟩ hW hframe⟩
  jvm_step X.here [X.here.top, hx, hb, hdg, hmeth', hr, ret, narrow_b1]
  (try refine ⟨rfl, ?_⟩); (try refine ⟨rfl, ?_⟩)
  first | (intro acts; rw [hret _ acts rfl rfl rfl]) | rw [hret _ _ rfl rfl rfl]
  exact Steps.refl _
/-- what holds at the law's entry: the machine, the code, the tables' words (any of lw_tbl by 'hts w (by decide +kernel)'), the script of L ints xs at the cell b, what the Statement gives of the start (any of its parts by flat_of_before) -/
def lw_At (p : Program) (s : State) (m : MethodId) (meth : Method) (c : Code) (b L : Nat) (xs : Nat → Int32) : Prop :=
  p.tables.exec = Jvm.exec ∧ c.code = code ∧ meth.sig.returnType = ret ∧ c.maxLocals = 14 ∧ s.vm.findClass R_law = some m.cls ∧ (∀ w ∈ lw_tbl, w.before #[Value.ref b] s = true) ∧ va_X b L xs s s.heap ∧ b < s.heap.size ∧ meth.locks = false ∧ (Jvm.Cond.and given_1 narrow_1).before #[Value.ref b] s = true
/-- the names at the start -/
theorem start_names : ∀ k : KN, lvS gz0 k ↔ (k = (45, 0, 0, 0) ∨ k = (40, 0, 0, 0) ∨ k = (42, 0, 0, 0) ∨ k = (41, 0, 0, 0) ∨ k = (44, 0, 0, 0) ∨ k = (43, 0, 0, 0) ∨ k = (39, 0, 0, 0) ∨ k = (37, 0, 0, 0) ∨ k = (35, 0, 0, 0) ∨ k = (0, 0, 0, 0) ∨ nwA k)
  | (0, b, e, d) => by
    show (b = 0 ∧ e = 0 ∧ d = 0) ↔ _
    simp [nwA, nwJ, nwBi] <;> omega
  | (1, b, e, d) => by
    show (b < 2 ∧ e = 0 ∧ d = 0) ↔ _
    simp [nwA, nwJ, nwBi] <;> omega
  | (2, b, e, d) => by
    show (b < 2 ∧ e = 0 ∧ d = 0) ↔ _
    simp [nwA, nwJ, nwBi] <;> omega
  | (3, b, e, d) => by
    show (b < 2 ∧ e = 0 ∧ d = 0) ↔ _
    simp [nwA, nwJ, nwBi] <;> omega
  | (4, b, e, d) => by
    show (b < 2 ∧ e < 10 ∧ d = 0) ↔ _
    simp [nwA, nwJ, nwBi] <;> omega
  | (5, b, e, d) => by
    show (b < 2 ∧ e < 10 ∧ d = 0) ↔ _
    simp [nwA, nwJ, nwBi] <;> omega
  | (6, b, e, d) => by
    show (b < 2 ∧ e < 10 ∧ d = 0) ↔ _
    simp [nwA, nwJ, nwBi] <;> omega
  | (7, b, e, d) => by
    show (b < 2 ∧ e < 10 ∧ d = 0) ↔ _
    simp [nwA, nwJ, nwBi] <;> omega
  | (8, b, e, d) => by
    show (b < 2 ∧ e < 10 ∧ d = 0 ∧ 0 < 0) ↔ _
    simp [nwA, nwJ, nwBi] <;> omega
  | (9, b, e, d) => by
    show (b < 2 ∧ e < 10 ∧ d < 6) ↔ _
    simp [nwA, nwJ, nwBi] <;> omega
  | (10, b, e, d) => by
    show (b < 2 ∧ e < 10 ∧ d < 6) ↔ _
    simp [nwA, nwJ, nwBi] <;> omega
  | (11, b, e, d) => by
    show (b < 2 ∧ e < 10 ∧ d < 6) ↔ _
    simp [nwA, nwJ, nwBi] <;> omega
  | (12, b, e, d) => by
    show (b < 2 ∧ e < 10 ∧ d < 6) ↔ _
    simp [nwA, nwJ, nwBi] <;> omega
  | (13, b, e, d) => by
    show (b < 2 ∧ e < 10 ∧ d < 6) ↔ _
    simp [nwA, nwJ, nwBi] <;> omega
  | (14, b, e, d) => by
    show (b < 2 ∧ e < 10 ∧ d < 6) ↔ _
    simp [nwA, nwJ, nwBi] <;> omega
  | (15, b, e, d) => by
    show (b < 2 ∧ e < 10 ∧ d < 6) ↔ _
    simp [nwA, nwJ, nwBi] <;> omega
  | (16, b, e, d) => by
    show (b < 2 ∧ e < 10 ∧ d < 0) ↔ _
    simp [nwA, nwJ, nwBi] <;> omega
  | (17, b, e, d) => by
    show (b < 2 ∧ e < 10 ∧ d < 0) ↔ _
    simp [nwA, nwJ, nwBi] <;> omega
  | (18, b, e, d) => by
    show (b < 2 ∧ e < 10 ∧ d < 0) ↔ _
    simp [nwA, nwJ, nwBi] <;> omega
  | (19, b, e, d) => by
    show (b < 2 ∧ e < 10 ∧ d < 0) ↔ _
    simp [nwA, nwJ, nwBi] <;> omega
  | (n + 20, b, e, d) => by
    show (((20 ≤ n + 20 ∧ n + 20 ≤ 25) ∨ n + 20 = 35 ∨ n + 20 = 37 ∨ (39 ≤ n + 20 ∧ n + 20 ≤ 45)) ∧ b = 0 ∧ e = 0 ∧ d = 0) ↔ _
    simp [nwA, nwJ, nwBi] <;> omega
set_option maxHeartbeats 4000000 in
set_option maxRecDepth 100000 in
theorem whole_start {p : Program} {e : Env} {s : State} {m : MethodId} {below : List Frame} {meth : Method} {c : Code} (l : Launch) (hflags : l.flags = flags0) {b L : Nat} {xs : Nat → Int32} (hL : L ≤ 260) (C0 : lw_At p s m meth c b L xs) : W p l e room_1 s m #[Value.ref b] below meth c s.heap [] 0 0 (lw_Z below #[Value.ref b] s) (entryFrame m ([Value.ref b] : List Value).toArray 14) := by
  obtain ⟨hx, hb, hr, hml, hown, hts, hX, hbl, hlocks, hgv⟩ := id C0
  have hst : l.stackTraces = false := by
    unfold Launch.stackTraces
    rw [hflags]
    decide +kernel
  obtain ⟨D, tc, hK⟩ := start_K hts
  obtain ⟨dz, hZ⟩ := start_ZS hts hgv
  have hN := start_NW hts hgv
  have htsA : ∀ w ∈ AW, w.before #[Value.ref b] s = true := fun w hw => hts w (List.mem_filter.mp hw).1
  have X : Cx p s m #[Value.ref b] meth c cL_law RL 14 D tc dz (fun q => s.heap.size ≤ q) := ⟨⟨hx, hb, hml, hown, htsA⟩, hlocks, hK, hN, hZ, fun q h => h⟩
  have hXS : XS (fun q => s.heap.size ≤ q) b L xs s := ⟨hX, hbl, Nat.not_le.mpr hbl⟩
  have hl := lv_entry ([.ref b]) (n := 14) (Nat.le_of_ble_eq_true rfl)
  rw [lg_entry_eq]
  generalize (lg_sl ([.ref b]) ++ List.replicate (14 - (lg_sl ([.ref b])).length) Slot.unset).toArray = ls at hl ⊢
  have hl : lv_has ls 14 [(0, .ref b)] := hl
  have w : WF LK tc dz (fun _ => 0) [] (fun _ => .inl (tc 0, 0, .inl (fun _ => 0))) (99, 0, 0, 0) (fun _ => False) (fun _ => False) (fun _ => 0, [], (fun _ => .inl (tc 0, 0, .inl (fun _ => 0)))) := WF.start
  have h : Sx D (fun q => s.heap.size ≤ q) (fun _ => 0) [] (fun _ => .inl (tc 0, 0, .inl (fun _ => 0))) s s.heap [] := ⟨fun k hk => absurd hk List.not_mem_nil, ⟨List.nodup_nil, fun k hk => absurd hk List.not_mem_nil, fun k hk => absurd hk List.not_mem_nil⟩, va_S.rf⟩
  refine r_new X h (k := (0, 0, 0, 0)) List.not_mem_nil (ci := 7) (fs := [.null, .null, .null]) rfl inX6 tyX6_ok q29 q30 q6 dfX6 (Nat.le_of_ble_eq_true rfl) (Nat.le_of_ble_eq_true rfl) dL_law_0 (fun ad1 H a1 ta1 hn h => ?_)
  obtain ⟨Ks1, st1, h, tm1, tf1, kp, w⟩ := w_step h w id List.not_mem_nil (by simp [LK]) hn
  refine lv_dup hx hb dL_law_3 rfl ?_
  have hfr : ∀ k2, nwA k2 → k2 ∉ Ks1 := fun k2 z => w.fresh (by obtain ⟨n2, b2, e2, d2⟩ := k2; simp only [nwA, nwBi, nwJ, Prod.mk.injEq, or_false, false_or] at z ⊢; omega) List.not_mem_nil
  refine g_doneV X h (g_runI X h (b := a1) (by rw [ta1]; exact m_X6_init tf1 tm1 hfr _) F_X6_init q31 q32 rfl rfl (Nat.le_of_ble_eq_true rfl) (Nat.le_of_ble_eq_true rfl) ⟨(Nat.le_of_ble_eq_true rfl), (Nat.le_of_ble_eq_true rfl)⟩ hl.1 (Nat.le_of_ble_eq_true rfl) dL_law_4 rfl) (fun u H locs hP h => ?_)
  obtain ⟨ad2, Ks2, st2⟩ := u
  have h : Sx D (fun q => s.heap.size ≤ q) ad2 Ks2 st2 s H locs := h
  have kp := w_sub hP hfr
  have w := w.sub (Or.inl rfl) id hP (fun k2 z => ⟨by obtain ⟨n2, b2, e2, d2⟩ := k2; simp only [nwA, nwBi, nwJ, Prod.mk.injEq, or_false, false_or] at z ⊢; omega, List.not_mem_nil, by obtain ⟨n2, b2, e2, d2⟩ := k2; simp only [nwA, nwBi, nwJ, LK, Prod.mk.injEq, or_false] at z ⊢; omega⟩) (fun k2 z => Or.inl (by rcases z with rfl | rfl | rfl <;> simp [nwA])) List.not_mem_nil
  have ta1 := ta1.trans (kp _ tm1).1.symm
  have tm1 := (kp _ tm1).2.1
  refine lv_astore_n (lv' := [(1, .ref a1), (0, .ref b)]) hx hb dL_law_7 rfl hl (by decide) rfl (fun ls hl => ?_)
  refine lv_bipush (v := nI 48) hx hb dL_law_8 (by decide) ?_
  refine r_newJ X h (k := (35, 0, 0, 0)) (w.fresh (by simp [nwA, nwBi, nwJ]) List.not_mem_nil) (n := 48) (by decide) (by decide) (Nat.le_of_ble_eq_true rfl) (Nat.le_of_ble_eq_true rfl) dL_law_10 (fun ad3 H a3 ta3 hn h => ?_)
  obtain ⟨Ks3, st3, h, tm3, tf3, kp, w⟩ := w_step h w (by simp [nwA, nwBi, nwJ]) List.not_mem_nil (by simp [LK]) hn
  have ta1 := ta1.trans (kp _ tm1).1.symm
  have tm1 := (kp _ tm1).2.1
  have w := w.addT (Or.inl rfl) (tf3.trans (congrArg (fun f : Nat → Int64 => ((.inl (tc 2, 48, .inr (.inl f))) : va_E)) pkB_0)) (fun k2 q => absurd q id)
  refine lv_astore_n (lv' := [(2, .ref a3), (1, .ref a1), (0, .ref b)]) hx hb dL_law_12 rfl hl (by decide) rfl (fun ls hl => ?_)
  refine lv_bipush (v := nI 48) hx hb dL_law_13 (by decide) ?_
  refine r_newJ X h (k := (37, 0, 0, 0)) (w.fresh (by simp [nwA, nwBi, nwJ]) List.not_mem_nil) (n := 48) (by decide) (by decide) (Nat.le_of_ble_eq_true rfl) (Nat.le_of_ble_eq_true rfl) dL_law_15 (fun ad4 H a4 ta4 hn h => ?_)
  obtain ⟨Ks4, st4, h, tm4, tf4, kp, w⟩ := w_step h w (by simp [nwA, nwBi, nwJ]) List.not_mem_nil (by simp [LK]) hn
  have ta1 := ta1.trans (kp _ tm1).1.symm
  have tm1 := (kp _ tm1).2.1
  have ta3 := ta3.trans (kp _ tm3).1.symm
  have tm3 := (kp _ tm3).2.1
  have w := w.addT (Or.inl rfl) (tf4.trans (congrArg (fun f : Nat → Int64 => ((.inl (tc 2, 48, .inr (.inl f))) : va_E)) pkB_0)) (fun k2 q => absurd q id)
  refine lv_astore_n (lv' := [(3, .ref a4), (2, .ref a3), (1, .ref a1), (0, .ref b)]) hx hb dL_law_17 rfl hl (by decide) rfl (fun ls hl => ?_)
  refine lv_bipush (v := nI 48) hx hb dL_law_18 (by decide) ?_
  refine r_newJ X h (k := (39, 0, 0, 0)) (w.fresh (by simp [nwA, nwBi, nwJ]) List.not_mem_nil) (n := 48) (by decide) (by decide) (Nat.le_of_ble_eq_true rfl) (Nat.le_of_ble_eq_true rfl) dL_law_20 (fun ad5 H a5 ta5 hn h => ?_)
  obtain ⟨Ks5, st5, h, tm5, tf5, kp, w⟩ := w_step h w (by simp [nwA, nwBi, nwJ]) List.not_mem_nil (by simp [LK]) hn
  have ta1 := ta1.trans (kp _ tm1).1.symm
  have tm1 := (kp _ tm1).2.1
  have ta3 := ta3.trans (kp _ tm3).1.symm
  have tm3 := (kp _ tm3).2.1
  have ta4 := ta4.trans (kp _ tm4).1.symm
  have tm4 := (kp _ tm4).2.1
  have w := w.addT (Or.inl rfl) (tf5.trans (congrArg (fun f : Nat → Int64 => ((.inl (tc 2, 48, .inr (.inl f))) : va_E)) pkB_0)) (fun k2 q => absurd q id)
  refine lv_astore (lv' := [(4, .ref a5), (3, .ref a4), (2, .ref a3), (1, .ref a1), (0, .ref b)]) hx hb dL_law_22 hl (by decide) rfl (fun ls hl => ?_)
  refine lv_bipush (v := nI 12) hx hb dL_law_24 (by decide) ?_
  refine r_newI X h (k := (43, 0, 0, 0)) (w.fresh (by simp [nwA, nwBi, nwJ]) List.not_mem_nil) (n := 12) (by decide) (by decide) (Nat.le_of_ble_eq_true rfl) (Nat.le_of_ble_eq_true rfl) dL_law_26 (fun ad6 H a6 ta6 hn h => ?_)
  obtain ⟨Ks6, st6, h, tm6, tf6, kp, w⟩ := w_step h w (by simp [nwA, nwBi, nwJ]) List.not_mem_nil (by simp [LK]) hn
  have ta1 := ta1.trans (kp _ tm1).1.symm
  have tm1 := (kp _ tm1).2.1
  have ta3 := ta3.trans (kp _ tm3).1.symm
  have tm3 := (kp _ tm3).2.1
  have ta4 := ta4.trans (kp _ tm4).1.symm
  have tm4 := (kp _ tm4).2.1
  have ta5 := ta5.trans (kp _ tm5).1.symm
  have tm5 := (kp _ tm5).2.1
  have w := w.addT (Or.inl rfl) tf6 (fun k2 q => absurd q id)
  refine lv_astore (lv' := [(5, .ref a6), (4, .ref a5), (3, .ref a4), (2, .ref a3), (1, .ref a1), (0, .ref b)]) hx hb dL_law_28 hl (by decide) rfl (fun ls hl => ?_)
  refine lv_bipush (v := nI 8) hx hb dL_law_30 (by decide) ?_
  refine r_newI X h (k := (44, 0, 0, 0)) (w.fresh (by simp [nwA, nwBi, nwJ]) List.not_mem_nil) (n := 8) (by decide) (by decide) (Nat.le_of_ble_eq_true rfl) (Nat.le_of_ble_eq_true rfl) dL_law_32 (fun ad7 H a7 ta7 hn h => ?_)
  obtain ⟨Ks7, st7, h, tm7, tf7, kp, w⟩ := w_step h w (by simp [nwA, nwBi, nwJ]) List.not_mem_nil (by simp [LK]) hn
  have ta1 := ta1.trans (kp _ tm1).1.symm
  have tm1 := (kp _ tm1).2.1
  have ta3 := ta3.trans (kp _ tm3).1.symm
  have tm3 := (kp _ tm3).2.1
  have ta4 := ta4.trans (kp _ tm4).1.symm
  have tm4 := (kp _ tm4).2.1
  have ta5 := ta5.trans (kp _ tm5).1.symm
  have tm5 := (kp _ tm5).2.1
  have ta6 := ta6.trans (kp _ tm6).1.symm
  have tm6 := (kp _ tm6).2.1
  have w := w.addT (Or.inl rfl) tf7 (fun k2 q => absurd q id)
  refine lv_astore (lv' := [(6, .ref a7), (5, .ref a6), (4, .ref a5), (3, .ref a4), (2, .ref a3), (1, .ref a1), (0, .ref b)]) hx hb dL_law_34 hl (by decide) rfl (fun ls hl => ?_)
  refine lv_bipush (v := nI 40) hx hb dL_law_36 (by decide) ?_
  refine r_newJ X h (k := (41, 0, 0, 0)) (w.fresh (by simp [nwA, nwBi, nwJ]) List.not_mem_nil) (n := 40) (by decide) (by decide) (Nat.le_of_ble_eq_true rfl) (Nat.le_of_ble_eq_true rfl) dL_law_38 (fun ad8 H a8 ta8 hn h => ?_)
  obtain ⟨Ks8, st8, h, tm8, tf8, kp, w⟩ := w_step h w (by simp [nwA, nwBi, nwJ]) List.not_mem_nil (by simp [LK]) hn
  have ta1 := ta1.trans (kp _ tm1).1.symm
  have tm1 := (kp _ tm1).2.1
  have ta3 := ta3.trans (kp _ tm3).1.symm
  have tm3 := (kp _ tm3).2.1
  have ta4 := ta4.trans (kp _ tm4).1.symm
  have tm4 := (kp _ tm4).2.1
  have ta5 := ta5.trans (kp _ tm5).1.symm
  have tm5 := (kp _ tm5).2.1
  have ta6 := ta6.trans (kp _ tm6).1.symm
  have tm6 := (kp _ tm6).2.1
  have ta7 := ta7.trans (kp _ tm7).1.symm
  have tm7 := (kp _ tm7).2.1
  have w := w.addT (Or.inl rfl) (tf8.trans (congrArg (fun f : Nat → Int64 => ((.inl (tc 2, 40, .inr (.inl f))) : va_E)) pkA_0)) (fun k2 q => absurd q id)
  refine lv_astore (lv' := [(7, .ref a8), (6, .ref a7), (5, .ref a6), (4, .ref a5), (3, .ref a4), (2, .ref a3), (1, .ref a1), (0, .ref b)]) hx hb dL_law_40 hl (by decide) rfl (fun ls hl => ?_)
  refine lv_bipush (v := nI 60) hx hb dL_law_42 (by decide) ?_
  refine r_newI X h (k := (42, 0, 0, 0)) (w.fresh (by simp [nwA, nwBi, nwJ]) List.not_mem_nil) (n := 60) (by decide) (by decide) (Nat.le_of_ble_eq_true rfl) (Nat.le_of_ble_eq_true rfl) dL_law_44 (fun ad9 H a9 ta9 hn h => ?_)
  obtain ⟨Ks9, st9, h, tm9, tf9, kp, w⟩ := w_step h w (by simp [nwA, nwBi, nwJ]) List.not_mem_nil (by simp [LK]) hn
  have ta1 := ta1.trans (kp _ tm1).1.symm
  have tm1 := (kp _ tm1).2.1
  have ta3 := ta3.trans (kp _ tm3).1.symm
  have tm3 := (kp _ tm3).2.1
  have ta4 := ta4.trans (kp _ tm4).1.symm
  have tm4 := (kp _ tm4).2.1
  have ta5 := ta5.trans (kp _ tm5).1.symm
  have tm5 := (kp _ tm5).2.1
  have ta6 := ta6.trans (kp _ tm6).1.symm
  have tm6 := (kp _ tm6).2.1
  have ta7 := ta7.trans (kp _ tm7).1.symm
  have tm7 := (kp _ tm7).2.1
  have ta8 := ta8.trans (kp _ tm8).1.symm
  have tm8 := (kp _ tm8).2.1
  have w := w.addT (Or.inl rfl) tf9 (fun k2 q => absurd q id)
  refine lv_astore (lv' := [(8, .ref a9), (7, .ref a8), (6, .ref a7), (5, .ref a6), (4, .ref a5), (3, .ref a4), (2, .ref a3), (1, .ref a1), (0, .ref b)]) hx hb dL_law_46 hl (by decide) rfl (fun ls hl => ?_)
  refine lv_bipush (v := nI 10) hx hb dL_law_48 (by decide) ?_
  refine r_newI X h (k := (40, 0, 0, 0)) (w.fresh (by simp [nwA, nwBi, nwJ]) List.not_mem_nil) (n := 10) (by decide) (by decide) (Nat.le_of_ble_eq_true rfl) (Nat.le_of_ble_eq_true rfl) dL_law_50 (fun ad10 H a10 ta10 hn h => ?_)
  obtain ⟨Ks10, st10, h, tm10, tf10, kp, w⟩ := w_step h w (by simp [nwA, nwBi, nwJ]) List.not_mem_nil (by simp [LK]) hn
  have ta1 := ta1.trans (kp _ tm1).1.symm
  have tm1 := (kp _ tm1).2.1
  have ta3 := ta3.trans (kp _ tm3).1.symm
  have tm3 := (kp _ tm3).2.1
  have ta4 := ta4.trans (kp _ tm4).1.symm
  have tm4 := (kp _ tm4).2.1
  have ta5 := ta5.trans (kp _ tm5).1.symm
  have tm5 := (kp _ tm5).2.1
  have ta6 := ta6.trans (kp _ tm6).1.symm
  have tm6 := (kp _ tm6).2.1
  have ta7 := ta7.trans (kp _ tm7).1.symm
  have tm7 := (kp _ tm7).2.1
  have ta8 := ta8.trans (kp _ tm8).1.symm
  have tm8 := (kp _ tm8).2.1
  have ta9 := ta9.trans (kp _ tm9).1.symm
  have tm9 := (kp _ tm9).2.1
  have w := w.addT (Or.inl rfl) tf10 (fun k2 q => absurd q id)
  refine lv_astore (lv' := [(9, .ref a10), (8, .ref a9), (7, .ref a8), (6, .ref a7), (5, .ref a6), (4, .ref a5), (3, .ref a4), (2, .ref a3), (1, .ref a1), (0, .ref b)]) hx hb dL_law_52 hl (by decide) rfl (fun ls hl => ?_)
  refine lv_bipush (v := nI 9) hx hb dL_law_54 (by decide) ?_
  refine r_newI X h (k := (45, 0, 0, 0)) (w.fresh (by simp [nwA, nwBi, nwJ]) List.not_mem_nil) (n := 9) (by decide) (by decide) (Nat.le_of_ble_eq_true rfl) (Nat.le_of_ble_eq_true rfl) dL_law_56 (fun ad11 H a11 ta11 hn h => ?_)
  obtain ⟨Ks11, st11, h, tm11, tf11, kp, w⟩ := w_step h w (by simp [nwA, nwBi, nwJ]) List.not_mem_nil (by simp [LK]) hn
  have ta1 := ta1.trans (kp _ tm1).1.symm
  have tm1 := (kp _ tm1).2.1
  have ta3 := ta3.trans (kp _ tm3).1.symm
  have tm3 := (kp _ tm3).2.1
  have ta4 := ta4.trans (kp _ tm4).1.symm
  have tm4 := (kp _ tm4).2.1
  have ta5 := ta5.trans (kp _ tm5).1.symm
  have tm5 := (kp _ tm5).2.1
  have ta6 := ta6.trans (kp _ tm6).1.symm
  have tm6 := (kp _ tm6).2.1
  have ta7 := ta7.trans (kp _ tm7).1.symm
  have tm7 := (kp _ tm7).2.1
  have ta8 := ta8.trans (kp _ tm8).1.symm
  have tm8 := (kp _ tm8).2.1
  have ta9 := ta9.trans (kp _ tm9).1.symm
  have tm9 := (kp _ tm9).2.1
  have ta10 := ta10.trans (kp _ tm10).1.symm
  have tm10 := (kp _ tm10).2.1
  have w := w.addT (Or.inl rfl) tf11 (fun k2 q => absurd q id)
  refine lv_astore (lv' := [(10, .ref a11), (9, .ref a10), (8, .ref a9), (7, .ref a8), (6, .ref a7), (5, .ref a6), (4, .ref a5), (3, .ref a4), (2, .ref a3), (1, .ref a1), (0, .ref b)]) hx hb dL_law_58 hl (by decide) rfl (fun ls hl => ?_)
  rw [ta1, ta3, ta4, ta5, ta6, ta7, ta8, ta9, ta10, ta11] at hl
  have hl : lv_has ls 14 [(0, .ref b), (1, .ref (ad11 (0, 0, 0, 0))), (2, .ref (ad11 (35, 0, 0, 0))), (3, .ref (ad11 (37, 0, 0, 0))), (4, .ref (ad11 (39, 0, 0, 0))), (5, .ref (ad11 (43, 0, 0, 0))), (6, .ref (ad11 (44, 0, 0, 0))), (7, .ref (ad11 (41, 0, 0, 0))), (8, .ref (ad11 (42, 0, 0, 0))), (9, .ref (ad11 (40, 0, 0, 0))), (10, .ref (ad11 (45, 0, 0, 0)))] := lv_sub hl [10, 9, 8, 7, 6, 5, 4, 3, 2, 1, 0] rfl
  have hin : ∀ k, k ∈ Ks11 ↔ lvS gz0 k := fun k => by
    rw [show k ∈ Ks11 ↔ _ from w.2.1 k, start_names k]
    constructor
    · intro q
      rcases q with (q | q | q | q | q | q | q | q | q | q | q | q) | q
      · simp [q]
      · simp [q]
      · simp [q]
      · simp [q]
      · simp [q]
      · simp [q]
      · simp [q]
      · simp [q]
      · simp [q]
      · simp [q]
      · simp [q]
      · exact q.elim
      · exact absurd q List.not_mem_nil
    · intro q
      rcases q with q | q | q | q | q | q | q | q | q | q | q
      all_goals simp [q]
  have h : Sx D (fun q => s.heap.size ≤ q) ad11 Ks11 (lay tc ad11 gz0 dz zM) s H locs := h.congr (fun k hk => by
    refine (w.2.2.2 k ?_).2.1
    have q := (start_names k).mp ((hin k).mp hk)
    rcases q with q | q | q | q | q | q | q | q | q | q | q
    all_goals simp [q])
  rw [ll_zM] at h
  have hG2 : GM2 gz0 := fun b e => ⟨Nat.le_refl _, Nat.zero_le _, Nat.zero_le _⟩
  have hLV : LV gz0 Ks11 := fun k hk => (hin k).mpr hk
  have hLW : LW gz0 Ks11 := fun k hk => (hin k).mp hk
  have hR1 : 15 ≤ room_1.frames := Nat.le_of_ble_eq_true rfl
  have hR2 : 525 ≤ room_1.locals := Nat.le_of_ble_eq_true rfl
  refine W.widen (k := 1000) (n := 20000) (Nat.le_of_ble_eq_true rfl) (Nat.le_of_ble_eq_true rfl) ?_
  refine lw_0 X hR1 hR2 (Nat.le_of_ble_eq_true rfl) (Nat.le_of_ble_eq_true rfl) hLV hst hLW hG2 zM (fun _ => (zM, 0, fun _ => 0)) (fun _ => (0, 0, 0, 0, 0)) 0 0 0 0 (fun _ => 0) (fun _ => 0) 0 lws_zero (by decide) b rfl h hl (fun H locs ls h hl => ?_)
  refine lw_all X hR1 hR2 hst b L xs hXS hL room_1.cells room_1.slots (Nat.le_of_ble_eq_true rfl) (Nat.le_of_ble_eq_true rfl) (fun ad1 Ks1 gm1 Z1 H locs ls h => ?_) 58 0 ad11 Ks11 gz0 zM H locs ls _ _ rfl ⟨hLV, hLW, hG2, _, _, _, _, _, _, _, _, lws_zero⟩ (Nat.le_of_ble_eq_true rfl) (Nat.le_of_ble_eq_true rfl) h hl
  exact va_forget h.2.2.2.2 (W.base (lw_ret (Drawn.sameBut.refl s.drawn lw_cs) hx hb hr hlocks dL_law_418))
