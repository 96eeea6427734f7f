/-! passing: the class goes entry by entry, the reference device by device -/
def foldN (f : Nat → Mem → Mem) (I : Mem) : Nat → Mem
  | 0 => I
  | k + 1 => f k (foldN f I k)
theorem foldN_s {f : Nat → Mem → Mem} {I : Mem} (k : Nat) : foldN f I (k + 1) = f k (foldN f I k) := rfl
theorem foldN_past {f : Nat → Mem → Mem} {g : Mem → Mem} : ∀ {k : Nat} (I : Mem), (∀ i, i < k → ∀ X, g (f i X) = f i (g X)) → g (foldN f I k) = foldN f (g I) k
  | 0, I, _ => rfl
  | k + 1, I, h => by rw [foldN, foldN, h k (Nat.lt_succ_self k), foldN_past I (fun i hi => h i (Nat.lt_succ_of_lt hi))]
/-- two loops, changed about -/
theorem foldN_swap {op : Nat → Nat → Mem → Mem} {D : Nat} (I : Mem) : ∀ n, (∀ e d e2 d2, e < n → d < D → e2 < n → d2 < D → ¬ (e = e2 ∧ d = d2) → ∀ X, op e d (op e2 d2 X) = op e2 d2 (op e d X)) →
    foldN (fun e X => foldN (fun d => op e d) X D) I n = foldN (fun d X => foldN (fun e => op e d) X n) I D
  | 0, _ => by
    have : ∀ k, foldN (fun d X => foldN (fun e => op e d) X 0) I k = I := fun k => by
      induction k with
      | zero => rfl
      | succ k ih => rw [foldN, ih]; rfl
    rw [this]
    rfl
  | n + 1, h => by
    have ih := foldN_swap (op := op) (D := D) I n (fun e d e2 d2 h1 h2 h3 h4 => h e d e2 d2 (by omega) h2 (by omega) h4)
    rw [foldN, ih]
    have key : ∀ k, k ≤ D → foldN (fun d => op n d) (foldN (fun d X => foldN (fun e => op e d) X n) I k) k = foldN (fun d X => foldN (fun e => op e d) X (n + 1)) I k := fun k => by
      induction k with
      | zero => intro _; rfl
      | succ k ihk =>
        intro hk
        have e2 := ihk (by omega)
        have q : ∀ Y, foldN (fun d => op n d) (foldN (fun e => op e k) Y n) k = foldN (fun e => op e k) (foldN (fun d => op n d) Y k) n := fun Y =>
          foldN_past (f := fun e => op e k) (g := fun X => foldN (fun d => op n d) X k) Y (fun e he X =>
            (foldN_past (f := fun d => op n d) (g := op e k) X (fun d hd Z => h e k n d (by omega) (by omega) (by omega) (by omega) (by omega) Z)).symm)
        show op n k (foldN (fun d => op n d) (foldN (fun e => op e k) (foldN (fun d X => foldN (fun e => op e d) X n) I k) n) k) = op n k (foldN (fun e => op e k) (foldN (fun d X => foldN (fun e => op e d) X (n + 1)) I k) n)
        rw [q, e2]
    exact key D (Nat.le_refl D)
section PASS
variable {I J I' J' : Mem} {L L' : Nat → Nat → Int32 → Int32} {n m t t' : Nat} {ac ac' mcs : Nat → Nat} {e d o e2 d2 : Nat} {month : Int32}
/-- one step of the class -/
def fo (mcs : Nat → Nat) (month : Int32) (e d : Nat) (X : Mem) : Mem := if isOldB X 0 e (mcs e) month d then forgetM X 0 e d (mcs e) else X
theorem fwo_fold : ∀ k, fwoM I 0 e (mcs e) month k = foldN (fun d => fo mcs month e d) I k
  | 0 => rfl
  | k + 1 => by rw [fwoM, fwo_fold k]; rfl
theorem pas_fold {x : Int32} : ∀ k, pasM I 0 mcs x k = foldN (fun e X => foldN (fun d => fo mcs (I (1, 0, 0, 0) 0 + x) e d) X 6) (pasM I 0 mcs x 0) k
  | 0 => rfl
  | k + 1 => by rw [show pasM I 0 mcs x (k + 1) = fwoM (pasM I 0 mcs x k) 0 k (mcs k) (I (1, 0, 0, 0) 0 + x) 6 from rfl, fwo_fold, pas_fold k, foldN_s k]
theorem note_congr (h15 : I' (15, 0, e, d) = I (15, 0, e, d)) (h13 : I' (13, 0, e, d) = I (13, 0, e, d)) (h18 : ∀ j, I' (18, 0, e, j) = I (18, 0, e, j)) (h19 : ∀ j, I' (19, 0, e, j) d = I (19, 0, e, j) d) : ∀ k, noteR I' 0 e d k = noteR I 0 e d k
  | 0 => by rw [noteR, noteR, h15, h13]
  | k + 1 => by rw [noteR, noteR, h19, h18, note_congr h15 h13 h18 h19 k]
theorem old_congr {mc : Nat} (h9 : I' (9, 0, e, d) = I (9, 0, e, d)) (h10 : I' (10, 0, e, d) = I (10, 0, e, d)) (h18 : ∀ j, I' (18, 0, e, j) = I (18, 0, e, j)) (h19 : ∀ j, I' (19, 0, e, j) d = I (19, 0, e, j) d) : isOldB I' 0 e mc month d = isOldB I 0 e mc month d := by
  have hn : ∀ k, nwm I' 0 e d k = nwm I 0 e d k := fun k => by
    induction k with
    | zero => rfl
    | succ k ih => rw [nwm, nwm, ih, h19]
  have hc : cvd I' 0 e d mc = cvd I 0 e d mc := anyB_congr (fun j _ => by unfold mcv; rw [h19, h18, h10])
  unfold isOldB sto
  rw [hn, hc, h9, h10]
theorem unk_row {mc j : Nat} : unkM I 0 e d mc (19, 0, e2, j) = if e2 = e ∧ j < mc then upd (I (19, 0, e2, j)) d (-1) else I (19, 0, e2, j) := by
  show (if (19 : Nat) = 19 ∧ (0 : Nat) = 0 ∧ e2 = e ∧ j < mc then upd (I (19, 0, e2, j)) d (-1) else I (19, 0, e2, j)) = _
  by_cases q : e2 = e ∧ j < mc
  · rw [if_pos q, if_pos ⟨rfl, rfl, q⟩]
  · rw [if_neg q, if_neg (fun z => q z.2.2)]
theorem for_19o {mc : Nat} (h : ¬ (e = e2 ∧ d = d2)) (j : Nat) : forgetM I 0 e d mc (19, 0, e2, j) d2 = I (19, 0, e2, j) d2 := by
  rw [for_19, unk_row]
  split
  · rename_i q
    exact ud_ne _ _ (fun z => h ⟨q.1.symm, z.symm⟩)
  · rfl
theorem old_for {mc mc2 : Nat} (h : ¬ (e = e2 ∧ d = d2)) : isOldB (forgetM I 0 e d mc) 0 e2 mc2 month d2 = isOldB I 0 e2 mc2 month d2 := by
  have h2 : ∀ kk, ((kk, 0, e2, d2) : KN).2 ≠ (0, e, d) := fun kk z => h ⟨(congrArg (·.2.1) z).symm, (congrArg (·.2.2) z).symm⟩
  exact old_congr (for_oth (kz rfl) (h2 9)) (for_oth (kz rfl) (h2 10)) (fun j => forget_see (kz rfl) (kz rfl) (kz rfl) (kz rfl) (kz rfl) (kz rfl)) (for_19o h)
theorem sset_c {X Y : Mem} {a k : KN} {f g : Nat → Int32} (hf : f = g) (h : X k = Y k) : sset X a f k = sset Y a g k := by
  subst hf
  by_cases q : k = a
  · subst q; rw [sset_eq, sset_eq]
  · rw [sset_ne _ _ q, sset_ne _ _ q, h]
theorem for_congr {mc : Nat} {k : KN} (h9 : I' (9, 0, e, d) = I (9, 0, e, d)) (hn : noteR I' 0 e d mc = noteR I 0 e d mc) (h19 : k.1 ≠ 19) (hk : I' k = I k) : forgetM I' 0 e d mc k = forgetM I 0 e d mc k := by
  unfold forgetM
  exact sset_c rfl (sset_c rfl (sset_c rfl (sset_c hn (sset_c (by rw [h9]) (by rw [unk_ne h19, unk_ne h19, hk])))))
theorem for_19r {mc b e3 j : Nat} : forgetM I 0 e d mc (19, b, e3, j) = if b = 0 ∧ e3 = e ∧ j < mc then upd (I (19, b, e3, j)) d (-1) else I (19, b, e3, j) := by
  rw [for_19]
  show (if (19 : Nat) = 19 ∧ b = 0 ∧ e3 = e ∧ j < mc then upd (I (19, b, e3, j)) d (-1) else I (19, b, e3, j)) = _
  by_cases q : b = 0 ∧ e3 = e ∧ j < mc
  · rw [if_pos q, if_pos ⟨rfl, q⟩]
  · rw [if_neg q, if_neg (fun z => q z.2)]
theorem for_comm {mc mc2 : Nat} (h : ¬ (e = e2 ∧ d = d2)) : forgetM (forgetM I 0 e2 d2 mc2) 0 e d mc = forgetM (forgetM I 0 e d mc) 0 e2 d2 mc2 := by
  have h' : ¬ (e2 = e ∧ d2 = d) := fun z => h ⟨z.1.symm, z.2.symm⟩
  have a1 : ∀ kk, ((kk, 0, e, d) : KN).2 ≠ (0, e2, d2) := fun kk z => h ⟨congrArg (·.2.1) z, congrArg (·.2.2) z⟩
  have a2 : ∀ kk, ((kk, 0, e2, d2) : KN).2 ≠ (0, e, d) := fun kk z => h' ⟨congrArg (·.2.1) z, congrArg (·.2.2) z⟩
  have n1 : noteR (forgetM I 0 e2 d2 mc2) 0 e d mc = noteR I 0 e d mc := note_congr (for_oth (kz rfl) (a1 15)) (for_oth (kz rfl) (a1 13)) (fun j => forget_see (kz rfl) (kz rfl) (kz rfl) (kz rfl) (kz rfl) (kz rfl)) (for_19o h') mc
  have n2 : noteR (forgetM I 0 e d mc) 0 e2 d2 mc2 = noteR I 0 e2 d2 mc2 := note_congr (for_oth (kz rfl) (a2 15)) (for_oth (kz rfl) (a2 13)) (fun j => forget_see (kz rfl) (kz rfl) (kz rfl) (kz rfl) (kz rfl) (kz rfl)) (for_19o h) mc2
  funext k
  by_cases k19 : k.1 = 19
  · obtain ⟨k1, b, e3, j⟩ := k
    have k19 : k1 = 19 := k19
    subst k19
    rw [for_19r (I := forgetM I 0 e2 d2 mc2), for_19r (I := I), for_19r (I := forgetM I 0 e d mc), for_19r (I := I)]
    by_cases c1 : b = 0 ∧ e3 = e ∧ j < mc
    · by_cases c2 : b = 0 ∧ e3 = e2 ∧ j < mc2
      · simp only [if_pos c1, if_pos c2]
        have hd : d ≠ d2 := fun z => h ⟨c1.2.1.symm.trans c2.2.1, z⟩
        funext x
        by_cases x1 : x = d
        · subst x1; rw [ud_eq, ud_ne _ _ hd, ud_eq]
        · by_cases x2 : x = d2
          · subst x2; rw [ud_ne _ _ x1, ud_eq, ud_eq]
          · rw [ud_ne _ _ x1, ud_ne _ _ x2, ud_ne _ _ x2, ud_ne _ _ x1]
      · simp only [if_pos c1, if_neg c2]
    · by_cases c2 : b = 0 ∧ e3 = e2 ∧ j < mc2
      · simp only [if_neg c1, if_pos c2]
      · simp only [if_neg c1, if_neg c2]
  · by_cases q1 : k.2 = (0, e, d)
    · have q2 : k.2 ≠ (0, e2, d2) := by rw [q1]; exact a1 0
      rw [for_oth k19 q2]
      exact for_congr (for_oth (kz rfl) (a1 9)) n1 k19 (for_oth k19 q2)
    · rw [for_oth k19 q1]
      exact (for_congr (for_oth (kz rfl) (a2 9)) n2 k19 (for_oth k19 q1)).symm
theorem old_fo (h : ¬ (e = e2 ∧ d = d2)) : isOldB (fo mcs month e d I) 0 e2 (mcs e2) month d2 = isOldB I 0 e2 (mcs e2) month d2 := by
  unfold fo
  split
  · exact old_for h
  · rfl
theorem fo_t (h : isOldB I 0 e (mcs e) month d = true) : fo mcs month e d I = forgetM I 0 e d (mcs e) := if_pos h
theorem fo_f (h : isOldB I 0 e (mcs e) month d = false) : fo mcs month e d I = I := if_neg (by rw [h]; decide)
theorem fo_comm (h : ¬ (e = e2 ∧ d = d2)) : fo mcs month e d (fo mcs month e2 d2 I) = fo mcs month e2 d2 (fo mcs month e d I) := by
  have h' : ¬ (e2 = e ∧ d2 = d) := fun z => h ⟨z.1.symm, z.2.symm⟩
  have o1 := old_fo (I := I) (mcs := mcs) (month := month) h
  have o2 := old_fo (I := I) (mcs := mcs) (month := month) h'
  cases h1 : isOldB I 0 e (mcs e) month d with
  | true =>
    cases h2 : isOldB I 0 e2 (mcs e2) month d2 with
    | true => rw [fo_t (o2.trans h1), fo_t (o1.trans h2), fo_t h1, fo_t h2]; exact for_comm h
    | false => rw [fo_t (o2.trans h1), fo_f (o1.trans h2), fo_t h1, fo_f h2]
  | false =>
    cases h2 : isOldB I 0 e2 (mcs e2) month d2 with
    | true => rw [fo_f (o2.trans h1), fo_t (o1.trans h2), fo_f h1, fo_t h2]
    | false => rw [fo_f (o2.trans h1), fo_f (o1.trans h2), fo_f h1, fo_f h2]
end PASS
