/-! an entry -/
def GMok (gm : GM) : Prop := ∀ b e, (gm b e).1 ≤ (gm b e).2 ∧ (gm b e).2 < 4096
/-- the fields that a device may have -/
def ff (I : Mem) (b e d : Nat) : Int32 := if nI (d / 2) = I (4, b, e, 0) 0 then nI 15 else I (5, b, e, 0) (d / 2)
/-- a mark covers the entry -/
def mcv (I : Mem) (b e d j : Nat) : Bool := kno (I (19, b, e, j) d) && cov (I (10, b, e, d)) (I (18, b, e, j))
def cvd (I : Mem) (b e d mc : Nat) : Bool := anyB (fun j => mcv I b e d j) mc
def sto (I : Mem) (b e d mc : Nat) : Nat := if I (9, b, e, d) 0 = 0 then 0 else if cvd I b e d mc then 2 else if cvA (I (10, b, e, d)) = 0 then 3 else 1
theorem sto_le (I : Mem) (b e d mc : Nat) : sto I b e d mc ≤ 3 := by unfold sto; split <;> (try split) <;> (try split) <;> omega
def cmk (I : Mem) (b e d mc : Nat) : Nat := cntN (fun j => kno (I (19, b, e, j) d)) mc
/-- the latest month in which the device came to know one of the first n marks; -1 if none -/
def nwm (I : Mem) (b e d : Nat) : Nat → Int32
  | 0 => -1
  | n + 1 => imax (nwm I b e d n) (I (19, b, e, n) d)
/-- the note behind n marks -/
def noteR (I : Mem) (b e d : Nat) : Nat → Nat → Int32
  | 0 => gM (I (15, b, e, d)) (I (13, b, e, d))
  | n + 1 => if kno (I (19, b, e, n) d) then gM (noteR I b e d n) (I (18, b, e, n)) else noteR I b e d n
/-- the first n marks aren't known to the device any more -/
def unkM (I : Mem) (b e d n : Nat) : Mem := fun k => if k.1 = 19 ∧ k.2.1 = b ∧ k.2.2.1 = e ∧ k.2.2.2 < n then upd (I k) d (-1) else I k
theorem unk_0 (I : Mem) (b e d : Nat) : unkM I b e d 0 = I := by
  funext k
  have : ¬ (k.1 = 19 ∧ k.2.1 = b ∧ k.2.2.1 = e ∧ k.2.2.2 < 0) := by omega
  simp only [unkM, if_neg this]
theorem unk_ne {I : Mem} {b e d n : Nat} {k : KN} (h : k.1 ≠ 19) : unkM I b e d n k = I k := by
  have : ¬ (k.1 = 19 ∧ k.2.1 = b ∧ k.2.2.1 = e ∧ k.2.2.2 < n) := fun q => h q.1
  simp only [unkM, if_neg this]
theorem unk_at {I : Mem} {b e d n j : Nat} (h : n ≤ j) : unkM I b e d n (19, b, e, j) = I (19, b, e, j) := by
  have : ¬ ((19 : Nat) = 19 ∧ b = b ∧ e = e ∧ j < n) := by omega
  exact if_neg this
theorem unk_s (I : Mem) (b e d n : Nat) : sset (unkM I b e d n) (19, b, e, n) (upd (I (19, b, e, n)) d (-1)) = unkM I b e d (n + 1) := by
  funext k
  by_cases hk : k = (19, b, e, n)
  · subst hk
    rw [sset_eq]
    have : ((19 : Nat) = 19 ∧ b = b ∧ e = e ∧ n < n + 1) := by omega
    exact (if_pos this).symm
  · rw [sset_ne _ _ hk]
    obtain ⟨k1, k2, k3, k4⟩ := k
    have hk : ¬ (k1 = 19 ∧ k2 = b ∧ k3 = e ∧ k4 = n) := fun q => hk (by rw [q.1, q.2.1, q.2.2.1, q.2.2.2])
    by_cases h : k1 = 19 ∧ k2 = b ∧ k3 = e ∧ k4 < n
    · have h2 : k1 = 19 ∧ k2 = b ∧ k3 = e ∧ k4 < n + 1 := by omega
      simp only [unkM, if_pos h, if_pos h2]
    · have h2 : ¬ (k1 = 19 ∧ k2 = b ∧ k3 = e ∧ k4 < n + 1) := by omega
      simp only [unkM, if_neg h, if_neg h2]
/-- a mark that isn't known stays as it is -/
theorem upd_unk {r : Nat → Int32} {d : Nat} (h : kno (r d) = false) : upd r d (-1) = r := by
  have e : r d = -1 := by
    unfold kno at h
    by_cases q : r d = -1
    · exact q
    · rw [if_neg q] at h; cases h
  rw [← e]
  exact upd_same (α := Int32) r d
theorem unk_s2 {I : Mem} {b e d n : Nat} (h : kno (I (19, b, e, n) d) = false) : unkM I b e d n = unkM I b e d (n + 1) := by
  rw [← unk_s, upd_unk h]
  have := sset_id (unkM I b e d n) (19, b, e, n)
  rw [unk_at (Nat.le_refl n)] at this
  exact this.symm
/-- forgotten on a device: mc marks -/
def forgetM (I : Mem) (b e d mc : Nat) : Mem :=
  sset (sset (sset (sset (sset (unkM I b e d mc) (9, b, e, d) (upd (upd (I (9, b, e, d)) 1 1) 0 0)) (15, b, e, d) (noteR I b e d mc)) (10, b, e, d) (fun _ => 0)) (11, b, e, d) (fun _ => 0)) (13, b, e, d) (fun _ => 0)
/-- forgotten on the first n devices, where it's old in the month -/
def isOldB (I : Mem) (b e mc : Nat) (month : Int32) (d : Nat) : Bool := decide (sto I b e d mc = 2) && !decide (month - nwm I b e d mc ≤ nI 12)
def fwoM (I : Mem) (b e mc : Nat) (month : Int32) : Nat → Mem
  | 0 => I
  | n + 1 => if isOldB (fwoM I b e mc month n) b e mc month n then forgetM (fwoM I b e mc month n) b e n mc else fwoM I b e mc month n
def fwoN (I : Mem) (b e mc : Nat) (month : Int32) : Nat → Nat
  | 0 => 0
  | n + 1 => fwoN I b e mc month n + if isOldB (fwoM I b e mc month n) b e mc month n then 1 else 0
theorem fwoN_le (I : Mem) (b e mc : Nat) (month : Int32) : ∀ n, fwoN I b e mc month n ≤ n
  | 0 => Nat.le_refl 0
  | n + 1 => by
    have ih := fwoN_le I b e mc month n
    rw [fwoN]
    split <;> omega
def otd (I : Mem) (b e d d2 : Nat) : Bool := if I (9, b, e, d) 0 = 0 then false else if I (9, b, e, d2) 0 = 0 then (if I (9, b, e, d2) 1 = 0 then false else cov (I (10, b, e, d)) (I (15, b, e, d2))) else false
/-- the first n fields in common braided -/
def fldM (I : Mem) (b e d d2 : Nat) (F : Int32) : Nat → Mem
  | 0 => I
  | n + 1 => if bit F n then braidM (n * 6) (n * 6 + 6) (fldM I b e d d2 F n) b e d d2 else fldM I b e d d2 F n
def fldG (I : Mem) (b e d d2 : Nat) (F : Int32) : Nat → Int32
  | 0 => 0
  | n + 1 => if bit F n then fldG I b e d d2 F n + sumI (fun i => gR (fldM I b e d d2 F n (10, b, e, d)) (fldM I b e d d2 F n (10, b, e, d2)) (fldM I b e d d2 F n (13, b, e, d)) (fldM I b e d d2 F n (13, b, e, d2)) (n * 6 + i)) 6 else fldG I b e d d2 F n
/-- the first n marks spread -/
def spdM (I : Mem) (b e d d2 : Nat) (month : Int32) (n : Nat) : Mem := fun k => if k.1 = 19 ∧ k.2.1 = b ∧ k.2.2.1 = e ∧ k.2.2.2 < n then sprd (I k) d d2 month else I k
theorem spd_0 (I : Mem) (b e d d2 : Nat) (month : Int32) : spdM I b e d d2 month 0 = I := by
  funext k
  have : ¬ (k.1 = 19 ∧ k.2.1 = b ∧ k.2.2.1 = e ∧ k.2.2.2 < 0) := by omega
  simp only [spdM, if_neg this]
theorem spd_ne {I : Mem} {b e d d2 n : Nat} {month : Int32} {k : KN} (h : k.1 ≠ 19) : spdM I b e d d2 month n k = I k := by
  have : ¬ (k.1 = 19 ∧ k.2.1 = b ∧ k.2.2.1 = e ∧ k.2.2.2 < n) := fun q => h q.1
  simp only [spdM, if_neg this]
theorem spd_at {I : Mem} {b e d d2 n j : Nat} {month : Int32} (h : n ≤ j) : spdM I b e d d2 month n (19, b, e, j) = I (19, b, e, j) := by
  have : ¬ ((19 : Nat) = 19 ∧ b = b ∧ e = e ∧ j < n) := by omega
  exact if_neg this
theorem spd_s (I : Mem) (b e d d2 : Nat) (month : Int32) (n : Nat) : sset (spdM I b e d d2 month n) (19, b, e, n) (sprd (spdM I b e d d2 month n (19, b, e, n)) d d2 month) = spdM I b e d d2 month (n + 1) := by
  rw [spd_at (Nat.le_refl n)]
  funext k
  by_cases hk : k = (19, b, e, n)
  · subst hk
    rw [sset_eq]
    have : ((19 : Nat) = 19 ∧ b = b ∧ e = e ∧ n < n + 1) := by omega
    exact (if_pos this).symm
  · rw [sset_ne _ _ hk]
    obtain ⟨k1, k2, k3, k4⟩ := k
    have hk : ¬ (k1 = 19 ∧ k2 = b ∧ k3 = e ∧ k4 = n) := fun q => hk (by rw [q.1, q.2.1, q.2.2.1, q.2.2.2])
    by_cases h : k1 = 19 ∧ k2 = b ∧ k3 = e ∧ k4 < n
    · have h2 : k1 = 19 ∧ k2 = b ∧ k3 = e ∧ k4 < n + 1 := by omega
      simp only [spdM, if_pos h, if_pos h2]
    · have h2 : ¬ (k1 = 19 ∧ k2 = b ∧ k3 = e ∧ k4 < n + 1) := by omega
      simp only [spdM, if_neg h, if_neg h2]
/-- both know it -/
def knwM (I : Mem) (b e d d2 : Nat) : Mem := sset (sset I (9, b, e, d) (upd (I (9, b, e, d)) 0 1)) (9, b, e, d2) (upd (I (9, b, e, d2)) 0 1)
def ebrM (I : Mem) (b e d d2 mc : Nat) (F month : Int32) : Mem := spdM (fldM (knwM I b e d d2) b e d d2 F 4) b e d d2 month mc
/-- an entry merged: the memory ahead of the notes, and whole; the answer -/
def mg1M (I : Mem) (b e d d2 mc : Nat) (month : Int32) : Mem :=
  if otd I b e d d2 then forgetM I b e d mc else if otd I b e d2 d then forgetM I b e d2 mc else if I (9, b, e, d) 0 = 0 then (if I (9, b, e, d2) 0 = 0 then I else ebrM I b e d d2 mc (ff I b e d &&& ff I b e d2) month) else ebrM I b e d d2 mc (ff I b e d &&& ff I b e d2) month
def mg1R (I : Mem) (b e d d2 : Nat) : Int32 :=
  if otd I b e d d2 then nI 100 else if otd I b e d2 d then nI 100 else if I (9, b, e, d) 0 = 0 then (if I (9, b, e, d2) 0 = 0 then nI 0 else fldG (knwM I b e d d2) b e d d2 (ff I b e d &&& ff I b e d2) 4) else fldG (knwM I b e d d2) b e d d2 (ff I b e d &&& ff I b e d2) 4
def mg2M (J : Mem) (b e d d2 : Nat) : Mem := if J (9, b, e, d) 0 = 0 then (if J (9, b, e, d2) 0 = 0 then exchM J b e d d2 else J) else J
def mgeM (I : Mem) (b e d d2 mc : Nat) (month : Int32) : Mem := if ff I b e d &&& ff I b e d2 = 0 then I else mg2M (mg1M I b e d d2 mc month) b e d d2
def mgeR (I : Mem) (b e d d2 : Nat) : Int32 := if ff I b e d &&& ff I b e d2 = 0 then nI 0 else mg1R I b e d d2
def cmpF (I : Mem) (b e d d2 mc : Nat) : Int32 := if sto I b e d mc = 1 then ff I b e d &&& ff I b e d2 else if sto I b e d2 mc = 1 then ff I b e d &&& ff I b e d2 else nI 0
def cnS (I : Mem) (b e d d2 mc : Nat) : Nat := cntN (fun f => bit (cmpF I b e d d2 mc) f && sameV (I (10, b, e, d)) (I (10, b, e, d2)) f) 4
theorem cnS_le (I : Mem) (b e d d2 mc : Nat) : cnS I b e d d2 mc ≤ 4 := cntN_le _ _
def ecleM (I : Mem) (b e : Nat) : Nat → Mem
  | 0 => sset (sset I (4, b, e, 0) (upd (upd (I (4, b, e, 0)) 0 0) 1 0)) (5, b, e, 0) (fun _ => 0)
  | n + 1 => clearM (ecleM I b e n) b e n
section LISTS
variable {p : Program} {l : Launch} {e : Env} {R : Room} {s : State} {m : MethodId} {args : Array Value} {below : List Frame} {meth : Method} {c : Code} {H : Heap} {locs : List Loc} {cells slots : Nat} {Q : State → Prop}
variable {cc : ByteArray} {own : String} {nL : Nat} {D : va_G} {tc : TC} {dz : Nat} {A : Nat → Prop} {ad : KN → Nat} {Ks : List KN} {gm : GM} {I : Mem} {pc : Nat} {ls : Array Slot} {rest : List Value} {b z2 z3 index : Nat}
theorem gf_List_size (X : Cx p s m args meth c cc own nL D tc dz A) (h : Sx D A ad Ks (lay tc ad gm dz I) s H locs) (hk : (7, b, z2, z3) ∈ Ks) (hq : Cond.fieldLink own index RJx4a65c "size" "I" ∈ AW) (hdg : decode cc pc = .ok (.getfield index, 3)) (kk : W p l e R s m args below meth c H locs cells slots Q (F0 m (pc + 3) ls (.int (nI (gm b z2).1) :: rest))) : W p l e R s m args below meth c H locs cells slots Q (F0 m pc ls (.ref (ad (7, b, z2, z3)) :: rest)) :=
  x_get X h hk rfl rfl inJx4a65c 2 (by decide) hq rfl rfl hdg kk
theorem gf_List_elem (X : Cx p s m args meth c cc own nL D tc dz A) (h : Sx D A ad Ks (lay tc ad gm dz I) s H locs) (hk : (7, b, z2, z3) ∈ Ks) (hc : 0 < (gm b z2).2) (hq : Cond.fieldLink own index RJx4a65c "elementData" "[Ljava/lang/Object;" ∈ AW) (hdg : decode cc pc = .ok (.getfield index, 3)) (kk : W p l e R s m args below meth c H locs cells slots Q (F0 m (pc + 3) ls (.ref (ad (8, b, z2, 0)) :: rest))) : W p l e R s m args below meth c H locs cells slots Q (F0 m pc ls (.ref (ad (7, b, z2, z3)) :: rest)) :=
  x_get X h hk rfl rfl inJx4a65c 1 (by decide) hq rfl (by show some (Value.ref (if (gm b z2).2 = 0 then dz else ad (8, b, z2, 0))) = _; rw [if_neg (by omega)]) hdg kk
theorem ra_marks (X : Cx p s m args meth c cc own nL D tc dz A) (h : Sx D A ad Ks (lay tc ad gm dz I) s H locs) (hk : (8, b, z2, z3) ∈ Ks) {j : Nat} (hj : j < (gm b z2).1) (h12 : (gm b z2).1 ≤ (gm b z2).2) (hn : (gm b z2).2 < 2 ^ 31) (hdg : decode cc pc = .ok (.aaload, 1)) (kk : W p l e R s m args below meth c H locs cells slots Q (F0 m (pc + 1) ls (.ref (ad (16, b, z2, j)) :: rest))) : W p l e R s m args below meth c H locs cells slots Q (F0 m pc ls (.int (nI j) :: .ref (ad (8, b, z2, z3)) :: rest)) :=
  x_aald X h hk 6 rfl rfl j (by omega) hn (if_pos hj) hdg kk
theorem x_cast (X : Cx p s m args meth c cc own nL D tc dz A) {st : KN → va_E} (h : Sx D A ad Ks st s H locs) {k : KN} (hk : k ∈ Ks) {ci : Nat} {fs : List Value} {q : vw_C} (he : st k = .inr (ci, fs)) (hc : vwCl[ci]? = some q) (h1 : Cond.classLink own index q.1 ∈ AW) (hdg : decode cc pc = .ok (.checkcast index, 3)) (kk : W p l e R s m args below meth c H locs cells slots Q (F0 m (pc + 3) ls (.ref (ad k) :: rest))) : W p l e R s m args below meth c H locs cells slots Q (F0 m pc ls (.ref (ad k) :: rest)) :=
  va_castS (nm := q.1) X.1.1 X.1.2.1 X.1.2.2.2.1 (X.1.2.2.2.2 _ h1) (X.2.2.1.1 ci q hc).2 (x_recv X h hk he hc) hdg kk
theorem x_doneA (X : Cx p s m args meth c cc own nL D tc dz A) {st : KN → va_E} (h : Sx D A ad Ks st s H locs) {st' : KN → va_E} {mc ms r : Nat} {st0 : List Value} {a : Array Value} (hr : va_Run p l e R s m args below meth c H locs cells slots mc ms (F0 m pc ls st0) rest (va_Qq (fun (x : Option Nat) (_ : Unit) => x = some r) (fun _ t => Hw D ad Ks st' t.heap) (wA ad Ks H.size) a) (wA ad Ks H.size))
    (kk : ∀ (H1 : Heap) (locs1 : List Loc), Sx D A ad Ks st' s H1 locs1 → W p l e R s m args below meth c H1 locs1 (cells + mc) (slots + ms) Q (F0 m (pc + 3) ls (.ref r :: rest))) : W p l e R s m args below meth c H locs cells slots Q (F0 m pc ls st0) := x_doneR X h hr kk
end LISTS
