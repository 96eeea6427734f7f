/-! an entry that isn't there yet; what is seen is not more than what was told -/
theorem ent9_mge {I : Mem} {e d o e2 d2 mc : Nat} {month : Int32} (h : e2 ≠ e) : mgeM I 0 e d o mc month (9, 0, e2, d2) = I (9, 0, e2, d2) := by
  have hk : ∀ x : Nat, ((9, 0, e2, d2) : KN).2 ≠ (0, e, x) := fun x q => h (congrArg (·.2.1) q)
  have he : ∀ F, ebrM I 0 e d o mc F month (9, 0, e2, d2) = I (9, 0, e2, d2) := fun F => by
    unfold ebrM
    rw [spd_ne (kz rfl), fld_see (kz rfl) (kz rfl) (kz rfl) 4]
    unfold knwM
    rw [sset_ne _ _ (fun q => hk o (congrArg (·.2) q)), sset_ne _ _ (fun q => hk d (congrArg (·.2) q))]
  have h1 : mg1M I 0 e d o mc month (9, 0, e2, d2) = I (9, 0, e2, d2) := by
    unfold mg1M
    split
    · exact for_oth (kz rfl) (hk d)
    · split
      · exact for_oth (kz rfl) (hk o)
      · split
        · split
          · rfl
          · exact he _
        · exact he _
  unfold mgeM
  split
  · rfl
  · unfold mg2M
    split
    · split
      · rw [exch_oth (hk d) (hk o), h1]
      · exact h1
    · exact h1
theorem ent9_mgd {I : Mem} {d o e2 d2 : Nat} {mcs : Nat → Nat} : ∀ n, n ≤ e2 → mgdM I 0 d o mcs n (9, 0, e2, d2) = I (9, 0, e2, d2)
  | 0, _ => rfl
  | n + 1, h => by rw [mgdM, ent9_mge (by omega), ent9_mgd n (by omega)]
theorem ent9_fwo {I : Mem} {e mc e2 d2 : Nat} {month : Int32} (h : e2 ≠ e) : ∀ n, fwoM I 0 e mc month n (9, 0, e2, d2) = I (9, 0, e2, d2)
  | 0 => rfl
  | n + 1 => by
    rw [fwoM]
    split
    · rw [for_oth (kz rfl) (fun q => h (congrArg (·.2.1) q)), ent9_fwo h n]
    · exact ent9_fwo h n
theorem ent9_pas {I : Mem} {e2 d2 : Nat} {mcs : Nat → Nat} {x : Int32} : ∀ n, n ≤ e2 → pasM I 0 mcs x n (9, 0, e2, d2) = I (9, 0, e2, d2)
  | 0, _ => by rw [pasM, sset_ne _ _ (nek (by decide))]
  | n + 1, h => by rw [show pasM I 0 mcs x (n + 1) = fwoM (pasM I 0 mcs x n) 0 n (mcs n) (I (1, 0, 0, 0) 0 + x) 6 from rfl, ent9_fwo (by omega) 6, ent9_pas n (by omega)]
theorem ActS.new {S S' : BS} {a : Act} (hs : ActS S S' a) (h : ∀ e d, S.2.1 ≤ e → S.1 (9, 0, e, d) = fun _ => 0) : ∀ e d, S'.2.1 ≤ e → S'.1 (9, 0, e, d) = fun _ => 0 := by
  obtain ⟨I, n, m⟩ := S
  have h : ∀ e d, n ≤ e → I (9, 0, e, d) = fun _ => 0 := h
  rcases hs with ⟨d, hd, hn, -, rfl⟩ | ⟨d, e, f, v, hd, he, hf, -, rfl⟩ | ⟨d, e, hd, he, -, rfl⟩ | ⟨e, q, F, he, hq, -, rfl⟩ | ⟨d, d2, hd, hd2, hne, -, rfl⟩ | ⟨k, -, rfl⟩
  · intro e2 d2 he2
    have he2 : n + 1 ≤ e2 := he2
    show mkeM I 0 d n (9, 0, e2, d2) = _
    unfold mkeM
    rw [sset_ne _ _ (fun q => absurd (show e2 = n from congrArg (·.2.2.1) q) (by omega)), sset_ne _ _ (nek (by decide)), sset_ne _ _ (nek (by decide))]
    exact h e2 d2 (by omega)
  · exact fun e2 d2 he2 => (tll_see (kz rfl) (kz rfl) (kz rfl) (kz rfl)).trans (h e2 d2 he2)
  · intro e2 d2 he2
    show addM (nxtM I 0 d) 0 e d (m e) (I (1, 0, 0, 0) 0) (9, 0, e2, d2) = _
    rw [add_see (nek (by decide)) (kz rfl) (kz rfl), nxtM, sset_ne _ _ (nek (by decide))]
    exact h e2 d2 he2
  · exact fun e2 d2 he2 => (shr_see (kz rfl) (kz rfl) (kz rfl) (kz rfl) 6).trans (h e2 d2 he2)
  · exact fun e2 d2 he2 => (ent9_mgd n he2).trans (h e2 d2 he2)
  · exact fun e2 d2 he2 => (ent9_pas n he2).trans (h e2 d2 he2)
theorem Runs.new {V : Nat → BS} {acts : Nat → Act} {z : Nat} (h : Runs V acts z) : ∀ j, j ≤ z → ∀ e d, (V j).2.1 ≤ e → (V j).1 (9, 0, e, d) = fun _ => 0
  | 0, _ => fun e d _ => by rw [h.1]
  | j + 1, hj => ActS.new (h.2 j hj) (h.new j (Nat.le_of_succ_le hj))
/-- the second's rows of what is seen come from the first's, or are 0 -/
def S13 (I J : Mem) : Prop := ∀ e d c, J (13, 0, e, d) c = 0 ∨ ∃ e2 d2, J (13, 0, e, d) c = I (13, 0, e2, d2) c
theorem S13.of_eq {I J : Mem} (h : ∀ e d, J (13, 0, e, d) = I (13, 0, e, d)) : S13 I J := fun e d c => Or.inr ⟨e, d, by rw [h]⟩
theorem S13.trans {I J K : Mem} (h : S13 I J) (h2 : S13 J K) : S13 I K := fun e d c => by
  rcases h2 e d c with q | ⟨e2, d2, q⟩
  · exact Or.inl q
  · rcases h e2 d2 c with w | ⟨e3, d3, w⟩
    · exact Or.inl (q.trans w)
    · exact Or.inr ⟨e3, d3, q.trans w⟩
theorem s13_for {I : Mem} {e d mc : Nat} : S13 I (forgetM I 0 e d mc) := fun e2 d2 c => by
  by_cases q : e2 = e ∧ d2 = d
  · obtain ⟨rfl, rfl⟩ := q
    exact Or.inl (congrFun for_rows.2.2.2.2 c)
  · exact Or.inr ⟨e2, d2, congrFun (for_oth (kz rfl) (fun z => q ⟨congrArg (·.2.1) z, congrArg (·.2.2) z⟩)) c⟩
theorem s13_keep {I : Mem} {e d : Nat} {F : Int32} : S13 I (keepM F I 0 e d) := fun e2 d2 c => by
  by_cases q : e2 = e ∧ d2 = d
  · obtain ⟨rfl, rfl⟩ := q
    rw [keep_at.2.2]
    unfold keepR
    split
    · exact Or.inr ⟨e2, d2, rfl⟩
    · exact Or.inl rfl
  · exact Or.inr ⟨e2, d2, congrFun (keep_oth (fun z => q ⟨congrArg (·.2.1) z, congrArg (·.2.2) z⟩)) c⟩
theorem s13_gM {I : Mem} {e d o lo hi c e2 d2 : Nat} : (∃ e3 d3, rf lo hi (gM (I (13, 0, e, d)) (I (13, 0, e, o))) (I (13, 0, e2, d2)) c = I (13, 0, e3, d3) c) := by
  unfold rf
  split
  · unfold gM imax
    split
    · exact ⟨e, o, rfl⟩
    · exact ⟨e, d, rfl⟩
  · exact ⟨e2, d2, rfl⟩
theorem s13_braid {I : Mem} {lo hi e d o : Nat} (hne : d ≠ o) : S13 I (braidM lo hi I 0 e d o) := fun e2 d2 c => by
  by_cases q : e2 = e ∧ d2 = d
  · obtain ⟨rfl, rfl⟩ := q
    rw [(braid_at hne).2.2.2.2.1]
    exact Or.inr s13_gM
  · by_cases q2 : e2 = e ∧ d2 = o
    · obtain ⟨rfl, rfl⟩ := q2
      rw [(braid_at hne).2.2.2.2.2]
      exact Or.inr s13_gM
    · exact Or.inr ⟨e2, d2, congrFun (braid_oth (fun z => q ⟨congrArg (·.2.1) z, congrArg (·.2.2) z⟩) (fun z => q2 ⟨congrArg (·.2.1) z, congrArg (·.2.2) z⟩)) c⟩
theorem s13_fld {I : Mem} {e d o : Nat} {F : Int32} (hne : d ≠ o) : ∀ n, S13 I (fldM I 0 e d o F n)
  | 0 => S13.of_eq (fun _ _ => rfl)
  | n + 1 => by
    rw [fldM]
    split
    · exact (s13_fld hne n).trans (s13_braid hne)
    · exact s13_fld hne n
theorem s13_ebr {I : Mem} {e d o mc : Nat} {F month : Int32} (hne : d ≠ o) : S13 I (ebrM I 0 e d o mc F month) := by
  have h1 : S13 I (knwM I 0 e d o) := S13.of_eq (fun _ _ => knw_see (kz rfl))
  exact (h1.trans (s13_fld hne 4)).trans (S13.of_eq (fun _ _ => spd_ne (kz rfl)))
theorem s13_mge {I : Mem} {e d o mc : Nat} {month : Int32} (hne : d ≠ o) : S13 I (mgeM I 0 e d o mc month) := by
  have h1 : S13 I (mg1M I 0 e d o mc month) := by
    unfold mg1M
    split
    · exact s13_for
    · split
      · exact s13_for
      · split
        · split
          · exact S13.of_eq (fun _ _ => rfl)
          · exact s13_ebr hne
        · exact s13_ebr hne
  unfold mgeM
  split
  · exact S13.of_eq (fun _ _ => rfl)
  · unfold mg2M
    split
    · split
      · exact h1.trans (S13.of_eq (fun _ _ => exch_see (kz rfl) (kz rfl)))
      · exact h1
    · exact h1
theorem s13_mgd {I : Mem} {d o : Nat} {mcs : Nat → Nat} (hne : d ≠ o) : ∀ n, S13 I (mgdM I 0 d o mcs n)
  | 0 => S13.of_eq (fun _ _ => rfl)
  | n + 1 => (s13_mgd hne n).trans (s13_mge hne)
theorem s13_fwo {I : Mem} {e mc : Nat} {month : Int32} : ∀ n, S13 I (fwoM I 0 e mc month n)
  | 0 => S13.of_eq (fun _ _ => rfl)
  | n + 1 => by
    rw [fwoM]
    split
    · exact (s13_fwo n).trans s13_for
    · exact s13_fwo n
theorem s13_pas {I : Mem} {mcs : Nat → Nat} {x : Int32} : ∀ n, S13 I (pasM I 0 mcs x n)
  | 0 => S13.of_eq (fun _ _ => by rw [pasM, sset_ne _ _ (nek (by decide))])
  | n + 1 => (s13_pas n).trans (s13_fwo 6)
theorem s13_shr {I : Mem} {e p : Nat} {F : Int32} : ∀ n, S13 I (shrM I 0 e p F n)
  | 0 => S13.of_eq (fun _ _ => by rw [shrM, sset_ne _ _ (nek (by decide))])
  | n + 1 => by
    rw [shrM]
    split
    · exact (s13_shr n).trans s13_keep
    · exact s13_shr n
/-- how many acts each device did, and what is seen of them -/
def SNs (I : Mem) (a : Nat → Nat) : Prop := (∀ d, I (2, 0, 0, 0) d = nI (a d)) ∧ ∀ e d c, 0 ≤ (I (13, 0, e, d) c).toInt ∧ (I (13, 0, e, d) c).toInt ≤ a (c % 6)
theorem SNs.sub {I J : Mem} {a : Nat → Nat} (h : SNs I a) (h2 : J (2, 0, 0, 0) = I (2, 0, 0, 0)) (hs : S13 I J) : SNs J a := by
  refine ⟨fun d => by rw [h2]; exact h.1 d, fun e d c => ?_⟩
  rcases hs e d c with q | ⟨e2, d2, q⟩
  · rw [q, i_zero]; omega
  · rw [q]; exact h.2 e2 d2 c
theorem mup_two {m : Nat → Nat} {e x : Nat} : m x ≤ mup m e x ∧ mup m e x ≤ m x + 1 := by
  by_cases q : x = e
  · subst q; rw [mup_eq]; omega
  · rw [mup_ne q]; omega
theorem ActS.sn {S S' : BS} {x : Act} {a : Nat → Nat} {j : Nat} (hs : ActS S S' x) (h : SNs S.1 a) (ha : ∀ d, a d ≤ j) (hj : j ≤ 1000) : ∃ a', (∀ d, a' d ≤ j + 1) ∧ SNs S'.1 a' := by
  obtain ⟨I, n, m⟩ := S
  have h : SNs I a := h
  have o2 : offK (2, 0, 0, 0) := by simp [offK]
  have hsame : ∀ J : Mem, J (2, 0, 0, 0) = I (2, 0, 0, 0) → S13 I J → ∃ a', (∀ d, a' d ≤ j + 1) ∧ SNs J a' := fun J q1 q2 => ⟨a, fun d => Nat.le_succ_of_le (ha d), h.sub q1 q2⟩
  have h2u : ∀ d, (∀ J : Mem, J (2, 0, 0, 0) = upd (I (2, 0, 0, 0)) d (I (2, 0, 0, 0) d + 1) → ∀ d2, J (2, 0, 0, 0) d2 = nI (mup a d d2)) := fun d J q d2 => by
    rw [q]
    by_cases w : d2 = d
    · subst w
      rw [ud_eq, mup_eq, h.1, show (1 : Int32) = nI 1 from rfl, nI_add]
    · rw [ud_ne _ _ w, mup_ne w, h.1]
  have hup : ∀ d x, mup a d x ≤ j + 1 := fun d x => by
    have := (mup_two (m := a) (e := d) (x := x)).2
    have := ha x
    omega
  rcases hs with ⟨d, hd, hn, -, rfl⟩ | ⟨d, e, f, v, hd, he, hf, -, rfl⟩ | ⟨d, e, hd, he, -, rfl⟩ | ⟨e, q, F, he, hq, -, rfl⟩ | ⟨d, d2, hd, hd2, hne, -, rfl⟩ | ⟨k, -, rfl⟩
  · refine hsame _ ?_ (S13.of_eq (fun e2 d2 => ?_))
    · show mkeM I 0 d n (2, 0, 0, 0) = _
      unfold mkeM
      rw [sset_ne _ _ (nek (by decide)), sset_ne _ _ (nek (by decide)), sset_ne _ _ (nek (by decide))]
    · show mkeM I 0 d n (13, 0, e2, d2) = I (13, 0, e2, d2)
      unfold mkeM
      rw [sset_ne _ _ (nek (by decide)), sset_ne _ _ (nek (by decide)), sset_ne _ _ (nek (by decide))]
  · refine ⟨mup a d, hup d, h2u d _ tll_2, fun e2 d2 c => ?_⟩
    show 0 ≤ (tllM I 0 e f d v (13, 0, e2, d2) c).toInt ∧ (tllM I 0 e f d v (13, 0, e2, d2) c).toInt ≤ (mup a d (c % 6) : Nat)
    have hm := (mup_two (m := a) (e := d) (x := c % 6)).1
    by_cases q : e2 = e ∧ d2 = d
    · obtain ⟨rfl, rfl⟩ := q
      rw [tll_13]
      by_cases w : c = f * 6 + d2
      · subst w
        have had := ha d2
        rw [ud_eq, show (f * 6 + d2) % 6 = d2 by omega, mup_eq, h.1, show (1 : Int32) = nI 1 from rfl, nI_add, i_nI (by omega)]
        omega
      · rw [ud_ne _ _ w]
        have := h.2 e2 d2 c
        omega
    · rw [tll_oth (kz rfl) (fun z => q ⟨congrArg (·.2.1) z, congrArg (·.2.2) z⟩)]
      have := h.2 e2 d2 c
      omega
  · have r2 : addM (nxtM I 0 d) 0 e d (m e) (I (1, 0, 0, 0) 0) (2, 0, 0, 0) = upd (I (2, 0, 0, 0)) d (I (2, 0, 0, 0) d + 1) := by
      rw [add_see (nek (by decide)) (kz rfl) (kz rfl), nxtM, sset_eq]
    refine ⟨mup a d, hup d, h2u d _ r2, fun e2 d2 c => ?_⟩
    show 0 ≤ (addM (nxtM I 0 d) 0 e d (m e) (I (1, 0, 0, 0) 0) (13, 0, e2, d2) c).toInt ∧ (addM (nxtM I 0 d) 0 e d (m e) (I (1, 0, 0, 0) 0) (13, 0, e2, d2) c).toInt ≤ (mup a d (c % 6) : Nat)
    rw [add_see (nek (by decide)) (kz rfl) (kz rfl), nxtM, sset_ne _ _ (nek (by decide))]
    have hm := (mup_two (m := a) (e := d) (x := c % 6)).1
    have := h.2 e2 d2 c
    omega
  · exact hsame _ (shr_see (kz rfl) (kz rfl) (kz rfl) (kz rfl) 6) (s13_shr 6)
  · exact hsame _ (mgd_see o2 n) (s13_mgd hne n)
  · exact hsame _ ((pas_see o2 n).trans (by rw [pasM, sset_ne _ _ (nek (by decide))])) (s13_pas n)
theorem Runs.sn {V : Nat → BS} {acts : Nat → Act} {z : Nat} (h : Runs V acts z) (hz : z ≤ 512) : ∀ j, j ≤ z → ∃ a, (∀ d, a d ≤ j) ∧ SNs (V j).1 a
  | 0, _ => ⟨fun _ => 0, fun _ => Nat.le_refl 0, by rw [h.1]; exact ⟨fun _ => rfl, fun _ _ _ => by show 0 ≤ (0 : Int32).toInt ∧ (0 : Int32).toInt ≤ (0 : Nat); rw [i_zero]; omega⟩⟩
  | j + 1, hj => by
    obtain ⟨a, h1, h2⟩ := h.sn hz j (Nat.le_of_succ_le hj)
    exact ActS.sn (h.2 j hj) h2 h1 (by omega)
section LWSX
variable {Z : Mem} {gm : GM} {V : Nat → BS} {acts : Nat → Act} {z n m t : Nat} {ac mcs : Nat → Nat} {cn : Nat}
theorem lws_new (h : LWS Z gm V acts z n m t ac mcs cn) {d : Nat} (hd : d < 6) : Z (38, 0, 0, 0) (10 * d + n) = 0 := by
  obtain ⟨⟨h1, h2, h3, h4, h5, h6, h7, h8, h9, h10, h11, h12⟩, hok, hn2, hm⟩ := h
  rw [← (h1.cp n d (by omega) hd).nt, h4.at 9 n d (by decide), h3.new z (Nat.le_refl z) n d (by rw [h5]; exact Nat.le_refl n)]
theorem lws_sn (h : LWS Z gm V acts z n m t ac mcs cn) (hcn : cn ≤ 58) {d e c : Nat} (hd : d < 6) (he : e < 10) (hc : c < 24) : (Z (37, 0, 0, 0) (cl d e c)).toInt ≤ ac (c % 6) := by
  obtain ⟨⟨h1, h2, h3, h4, h5, h6, h7, h8, h9, h10, h11, h12⟩, hok, hn2, hm⟩ := h
  obtain ⟨a, ha, hs⟩ := h3.sn (by omega) z (Nat.le_refl z)
  have hc6 : c % 6 < 6 := Nat.mod_lt _ (by decide)
  have e1 := h1.gl.aI (c % 6) hc6
  have e2 := hs.1 (c % 6)
  rw [h4.at 2 0 0 (by decide), e2] at e1
  have e3 := nI_inj (by have := ha (c % 6); omega) (by have := h11 (c % 6); omega) e1
  rw [← e3, ← (h1.cp e d he hd).se c hc, h4.at 13 e d (by decide)]
  exact (hs.2 e d c).2
theorem LWS.mono (h : LWS Z gm V acts z n m t ac mcs cn) {c2 : Nat} (hc : cn ≤ c2) : LWS Z gm V acts z n m t ac mcs c2 := by
  obtain ⟨⟨h1, h2, h3, h4, h5, h6, h7, h8, h9, h10, h11, h12⟩, hok⟩ := h
  exact ⟨⟨h1, h2, h3, h4, h5, h6, h7, by omega, by omega, by omega, fun d => Nat.le_trans (h11 d) hc, by omega⟩, hok⟩
end LWSX
