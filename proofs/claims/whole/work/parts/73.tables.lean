/-! the start: what the tables say of the world -/
section START
variable {args : Array Value} {s : State}
theorem st_arrI (h : (Cond.arrayClass .int).before args s = true) : ∃ cA, ArrOfT s cA .int ∧ va_RA s cA .int := by
  obtain ⟨c, k, comp, h1, h2, h3⟩ := Cond.arrayClass_spec h
  exact ⟨c, fun n z => ⟨(fun k h => by cases h), k, h2, comp, h3⟩, h1⟩
theorem st_arrZ (h : (Cond.arrayClass .boolean).before args s = true) : ∃ cA, ArrOfT s cA .boolean ∧ va_RA s cA .boolean := by
  obtain ⟨c, k, comp, h1, h2, h3⟩ := Cond.arrayClass_spec h
  exact ⟨c, fun n z => ⟨(fun k h => by cases h), k, h2, comp, h3⟩, h1⟩
theorem st_arrJ (h : (Cond.arrayClass .long).before args s = true) : ∃ cA, ArrOfT s cA .long ∧ va_RA s cA .long := by
  obtain ⟨c, k, comp, h1, h2, h3⟩ := Cond.arrayClass_spec h
  exact ⟨c, fun n z => ⟨(fun k h => by cases h), k, h2, comp, h3⟩, h1⟩
theorem st_arrD (h : (Cond.arrayClass .double).before args s = true) : ∃ cA, ArrOfT s cA .double ∧ va_RA s cA .double := by
  obtain ⟨c, k, comp, h1, h2, h3⟩ := Cond.arrayClass_spec h
  exact ⟨c, fun n z => ⟨(fun k h => by cases h), k, h2, comp, h3⟩, h1⟩
theorem st_arrO {C : String} (h : (Cond.arrayOver (.object C)).before args s = true) : ∃ cA, ArrOfT s cA (.object C) ∧ va_RA s cA (.object C) := by
  obtain ⟨comp, c, k, f1, f2, f3, f4, f5⟩ := Cond.arrayOver_spec h
  exact ⟨c, fun N z => ⟨(fun k h => by cases h), k, f3, comp, f4⟩, k, comp, f3, f4, f1, f5⟩
theorem tb_at {w : Cond} (hts : ∀ w ∈ lw_tbl, w.before args s = true) (i : Nat) (h : lw_tbl[i]? = some w) : w.before args s = true := hts _ (List.mem_of_getElem? h)
theorem start_K (hts : ∀ w ∈ lw_tbl, w.before args s = true) : ∃ (D : va_G) (tc : TC), va_K D vwCl (tysOf tc) s := by
  have htsA : ∀ w ∈ AW, w.before args s = true := fun w hw => hts w (List.mem_filter.mp hw).1
  obtain ⟨c0, i0, k0⟩ := u_known (C := RJx4a65c) (T := TJx4a65c) (N := 3) (n := 3) htsA inJx4a65c (htsA _ q75)
  obtain ⟨c1, i1, k1⟩ := u_known (C := RX0) (T := TX0) (N := 4) (n := 4) htsA inX0 (htsA _ q60)
  obtain ⟨c2, i2, k2⟩ := u_known (C := RX1) (T := TX1) (N := 6) (n := 6) htsA inX1 (htsA _ q101)
  obtain ⟨c3, i3, k3⟩ := u_known (C := RX2) (T := TX2) (N := 5) (n := 5) htsA inX2 (htsA _ q67)
  obtain ⟨c4, i4, k4⟩ := u_known (C := RX3) (T := TX3) (N := 6) (n := 6) htsA inX3 (htsA _ q186)
  obtain ⟨c5, i5, k5⟩ := u_known (C := RX4) (T := TX4) (N := 2) (n := 2) htsA inX4 (htsA _ q471)
  obtain ⟨c6, i6, k6⟩ := u_known (C := RX5) (T := TX5) (N := 1) (n := 1) htsA inX5 (htsA _ q107)
  obtain ⟨c7, i7, k7⟩ := u_known (C := RX6) (T := TX6) (N := 3) (n := 3) htsA inX6 (htsA _ q52)
  obtain ⟨c8, i8, k8⟩ := u_known (C := RX7) (T := TX7) (N := 17) (n := 17) htsA inX7 (htsA _ q791)
  obtain ⟨a0, b0⟩ := st_arrI (htsA _ q100)
  obtain ⟨a1, b1⟩ := st_arrZ (htsA _ q848)
  obtain ⟨a2, b2⟩ := st_arrJ (htsA _ q1011)
  obtain ⟨a3, b3⟩ := st_arrD (htsA _ q1012)
  obtain ⟨a4, b4⟩ := st_arrO (C := "BraidBook$Entry") (tb_at hts 66 (by decide +kernel))
  obtain ⟨a5, b5⟩ := st_arrO (C := "BraidBook$Copy") (tb_at hts 73 (by decide +kernel))
  obtain ⟨a6, b6⟩ := st_arrO (C := "java/lang/Object") (tb_at hts 536 (by decide +kernel))
  refine ⟨(fun k => match k with | 0 => c0 | 1 => c1 | 2 => c2 | 3 => c3 | 4 => c4 | 5 => c5 | 6 => c6 | 7 => c7 | _ => c8, fun k => match k with | 0 => i0 | 1 => i1 | 2 => i2 | 3 => i3 | 4 => i4 | 5 => i5 | 6 => i6 | 7 => i7 | _ => i8), fun k => match k with | 0 => a0 | 1 => a1 | 2 => a2 | 3 => a3 | 4 => a4 | 5 => a5 | _ => a6, fun k q hq => ?_, fun k q hq => ?_⟩
  · match k, hq with
    | 0, hq => cases hq; exact k0
    | 1, hq => cases hq; exact k1
    | 2, hq => cases hq; exact k2
    | 3, hq => cases hq; exact k3
    | 4, hq => cases hq; exact k4
    | 5, hq => cases hq; exact k5
    | 6, hq => cases hq; exact k6
    | 7, hq => cases hq; exact k7
    | 8, hq => cases hq; exact k8
    | k + 9, hq => simp [vwCl] at hq
  · match k, hq with
    | 0, hq => cases hq; exact b0
    | 1, hq => cases hq; exact b1
    | 2, hq => cases hq; exact b2
    | 3, hq => cases hq; exact b3
    | 4, hq => cases hq; exact b4
    | 5, hq => cases hq; exact b5
    | 6, hq => cases hq; exact b6
    | k + 7, hq => simp [tysOf] at hq
theorem st_cur {own tx : String} {k : Nat} (h1 : (Cond.stringRef own k tx).before args s = true) : ∃ cur, s.vm.findClass own = some cur := by
  simp only [Cond.before, Cond.holds, Cond.value] at h1
  cases hc : s.vm.findClass own with
  | none => simp [hc] at h1
  | some cur => exact ⟨cur, rfl⟩
theorem st_eqi {tm : Term} {z : Int32} (h : (Cond.eq tm (.int z)).before args s = true) : tm.eval args s none [] s = some (.int z) := by
  cases hv : tm.eval args s none [] s with
  | none => simp [Cond.before, Cond.holds, Cond.value, hv] at h
  | some w =>
    have hz : (Term.int z).eval args s none [] s = some (.int z) := rfl
    simp only [Cond.before, Cond.holds, Cond.value, hv, hz] at h
    cases w <;> simp_all
theorem start_NW (hts : ∀ w ∈ lw_tbl, w.before args s = true) (hgv : (Jvm.Cond.and given_1 narrow_1).before args s = true) : NW s := by
  have hs := flat_of_before _ hgv
  refine ⟨fun a i x h m => va_Nw.of rfl (hts _ m), fun C T m => va_Nw.of rfl (hts _ m), fun x m => va_Nw.of rfl (hts _ m), fun own k tx m => ?_, fun C m => va_AO.of (hts _ m), va_Mi.of (hs (.isRef (.mirror "[Ljava/lang/Object;")) (by decide +kernel)), fun q hq => ?_⟩
  · have h1 := hts _ m
    obtain ⟨cur, hcur⟩ := st_cur h1
    obtain ⟨k9, cf, i, a, -, -, -, -, -, hev⟩ := Cond.stringRef_spec hcur h1
    exact ⟨a, vk_R.of h1 hev⟩
  · have h6 : q = (exI, exA) ∨ q = (exI, exS) ∨ q = (exA, exI) ∨ q = (exA, exS) ∨ q = (exS, exI) ∨ q = (exS, exA) := by simpa [ncL] using hq
    rcases h6 with rfl | rfl | rfl | rfl | rfl | rfl
    · exact va_Nc.of (hs (.not (.castable exI exA)) (by decide +kernel))
    · exact va_Nc.of (hs (.not (.castable exI exS)) (by decide +kernel))
    · exact va_Nc.of (hs (.not (.castable exA exI)) (by decide +kernel))
    · exact va_Nc.of (hs (.not (.castable exA exS)) (by decide +kernel))
    · exact va_Nc.of (hs (.not (.castable exS exI)) (by decide +kernel))
    · exact va_Nc.of (hs (.not (.castable exS exA)) (by decide +kernel))
theorem start_ZS (hts : ∀ w ∈ lw_tbl, w.before args s = true) (hgv : (Jvm.Cond.and given_1 narrow_1).before args s = true) : ∃ dz, ZS dz (fun q => s.heap.size ≤ q) s s.heap := by
  have hs := flat_of_before _ hgv
  have hA : ∀ a : Nat, a < s.heap.size → ¬ (fun q : Nat => s.heap.size ≤ q) a := fun a h => Nat.not_le.mpr h
  obtain ⟨dz, h1, h2⟩ := va_Tof (A := fun q => s.heap.size ≤ q) (f := fun _ => .null) (tm := .static "java/util/ArrayList" "DEFAULTCAPACITY_EMPTY_ELEMENTDATA" "[Ljava/lang/Object;") (ty := .object "java/lang/Object") (N := 0) (by decide) (hs (.arrayOf (.static "java/util/ArrayList" "DEFAULTCAPACITY_EMPTY_ELEMENTDATA" "[Ljava/lang/Object;") (.object "java/lang/Object")) (by decide +kernel)) (st_eqi (hs (.eq (.length (.static "java/util/ArrayList" "DEFAULTCAPACITY_EMPTY_ELEMENTDATA" "[Ljava/lang/Object;")) (.int 0)) (by decide +kernel))) (fun j hj => absurd hj (Nat.not_lt_zero _)) hA
  refine ⟨dz, vx_Zqof (tb_at hts 262 (by decide +kernel)) (tb_at hts 37 (by decide +kernel)) (hs (.isRef (.static Bundle.tN "UNASSIGNED_STACK" Bundle.steD)) (by decide +kernel)) hA, vx_Zqof (tb_at hts 264 (by decide +kernel)) (tb_at hts 37 (by decide +kernel)) (hs (.isRef (.static Bundle.tN "SUPPRESSED_SENTINEL" Bundle.listD)) (by decide +kernel)) hA, va_Zof (tb_at hts 87 (by decide +kernel)) (tb_at hts 32 (by decide +kernel)) h1 hA, h2⟩
end START
