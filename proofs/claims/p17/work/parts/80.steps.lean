/-! a call: the law's own rows first, then the class -/
/-- the value of an act -/
def Lw : Nat → Nat → Int32 → Int32 := fun _ c a => nI ((100 * (c % 6) + 37 * a.toInt.toNat) % 1000)
def LWS (I : Mem) (gm : GM) (V : Nat → BS) (acts : Nat → Act) (z n m t : Nat) (ac mcs : Nat → Nat) (c : Nat) : Prop :=
  LI I gm V acts z Lw n m t ac mcs c ∧ OKX I ∧ n ≤ 2 ∧ m ≤ 10
def LWT (I : Mem) (gm : GM) (c : Nat) : Prop := ∃ V acts z n m t ac mcs, LWS I gm V acts z n m t ac mcs c
theorem rel_L {I J : Mem} {L L' : Nat → Nat → Int32 → Int32} {n m t : Nat} {ac mcs : Nat → Nat} (h : Rel I J L n m t ac mcs) (hL : ∀ e d c, e < 10 → d < 6 → c < 24 → I (10, 0, e, d) c ≠ 0 → L e c (I (10, 0, e, d) c) = L' e c (I (10, 0, e, d) c)) : Rel I J L' n m t ac mcs := by
  refine ⟨h.gl, fun e d he hd => ?_, h.mk, h.acb, h.mb, h.tb⟩
  have q := h.cp e d he hd
  exact ⟨q.kn, q.nt, q.ac_, q.se, q.no, fun c hc hz => (q.to c hc hz).trans (hL e d c he hd hc hz), fun c hc hz => (q.va c hc hz).trans (hL e d c he hd hc hz), q.av, q.sv⟩
theorem kcode_congr {X Y : Mem} (h : ∀ k : KN, 30 ≤ k.1 → k.1 < 43 → Y k = X k) : kcode Y = kcode X ∧ wcode Y = wcode X ∧ gcode Y = gcode X := by
  unfold kcode wcode gcode
  rw [h (34, 0, 0, 0) (by decide) (by decide), h (38, 0, 0, 0) (by decide) (by decide), h (32, 0, 0, 0) (by decide) (by decide), h (33, 0, 0, 0) (by decide) (by decide), h (30, 0, 0, 0) (by decide) (by decide), h (31, 0, 0, 0) (by decide) (by decide)]
  exact ⟨rfl, rfl, rfl⟩
/-- an act of the class leaves the law's rows -/
theorem ll_back {G R : Mem} (h : ∀ k : KN, 30 ≤ k.1 → R k = LL G k) : R = LL R := by
  obtain ⟨e1, e2, e3⟩ := kcode_congr (X := G) (Y := R) (fun k a b => (h k a).trans (LL_see b))
  funext k
  unfold LL
  by_cases q45 : k = (45, 0, 0, 0)
  · rw [q45, sset_eq, h _ (by decide), LL_45, e3]
  · rw [sset_ne _ _ q45]
    by_cases q44 : k = (44, 0, 0, 0)
    · rw [q44, sset_eq, h _ (by decide), LL_44, e2]
    · rw [sset_ne _ _ q44]
      by_cases q43 : k = (43, 0, 0, 0)
      · rw [q43, sset_eq, h _ (by decide), LL_43, e1]
      · rw [sset_ne _ _ q43]
section ST
variable {I G : Mem} {gm gm' : GM} {V : Nat → BS} {acts : Nat → Act} {z : Nat} {L L' : Nat → Nat → Int32 → Int32} {n m t n' m' t' c : Nat} {ac mcs ac' mcs' : Nat → Nat}
theorem lb_see (hG : ∀ k : KN, k.1 < 30 → G k = I k) {k : KN} (h : k.1 < 30) : LL G k = I k := (LL_see (by omega)).trans (hG k h)
theorem lb_jr (h : JR I acts z) (hG : ∀ k : KN, k.1 < 30 → G k = I k) : JR (LL G) acts z := by
  unfold JR
  rw [lb_see hG (k := (20, 0, 0, 0)) (by decide), lb_see hG (k := (21, 0, 0, 0)) (by decide), lb_see hG (k := (22, 0, 0, 0)) (by decide), lb_see hG (k := (23, 0, 0, 0)) (by decide), lb_see hG (k := (24, 0, 0, 0)) (by decide), lb_see hG (k := (25, 0, 0, 0)) (by decide)]
  exact h
theorem lb_sb {S : Mem} (h : SB 0 0 mcs I I S) (hG : ∀ k : KN, k.1 < 30 → G k = I k) : SB 0 0 mcs (LL G) (LL G) S := by
  refine ⟨fun k e' d' hk => ?_, fun _ _ => rfl⟩
  have hk2 : k < 20 := by rcases hk with q | q <;> omega
  rw [lb_see hG (by show k < 30; omega)]
  exact h.1 k e' d' hk
theorem lb_bk (h : LI I gm V acts z L n m t ac mcs c) (hG : ∀ k : KN, k.1 < 30 → G k = I k) : BK gm (LL G) 0 n mcs := (li_bk h).of (by rw [lb_see hG (by decide)]) (fun e => by rw [lb_see hG (by show 4 < 30; decide)])
theorem lb_rel {a b c' d e : Int32} (h : Rel I I L n m t ac mcs) (hG : ∀ k : KN, k.1 < 30 → G k = I k) : Rel (jwM (LL G) z a b c' d e) I L n m t ac mcs := by
  refine rel_congr h (fun k e d hk => ?_) (fun _ _ => rfl) (fun _ _ _ => rfl)
  rw [jw_see (by show k ≠ 20; omega) (by show k ≠ 21; omega) (by show k ≠ 22; omega) (by show k ≠ 23; omega) (by show k ≠ 24; omega) (by show k ≠ 25; omega)]
  exact lb_see hG (by show k < 30; omega)
theorem lb_z (h : LI I gm V acts z L n m t ac mcs c) (hG : ∀ k : KN, k.1 < 30 → G k = I k) : LL G (20, 0, 0, 0) 0 = nI z := by
  rw [lb_see hG (by decide)]
  exact h.2.1.1
theorem st_gen (h : LI I gm V acts z L n m t ac mcs c) (hG : ∀ k : KN, k.1 < 30 → G k = I k) {a : Act} {S' O : Mem} (hs : ActS (V z) (S', n', mcs') a)
    (hX : SB 0 0 mcs' (jwM (LL G) z (nI a.1) a.2.1 a.2.2.1 a.2.2.2.1 a.2.2.2.2) O S') (hRel : Rel O G L' n' m' t' ac' mcs') (hg0 : ∀ e, (gm' 0 e).1 = mcs' e) (hg1 : ∀ e, (gm' 1 e).1 ≤ mcs' e) (hm : m' ≤ m + 1) (ht : t' ≤ t + 24) (hac : ∀ d, ac' d ≤ ac d + 1) (hsum : sumN mcs' 10 ≤ sumN mcs 10 + 1) : (∃ V' acts', LI O gm' V' acts' (z + 1) L' n' m' t' ac' mcs' (c + 1)) ∧ O = LL O ∧ ∀ k : KN, 30 ≤ k.1 → k.1 < 43 → O k = G k := by
  obtain ⟨h1, h2, h3, h4, h5, h6, h7, h8, h9, h10, h11, h12⟩ := h
  have hjr := jw_JR (lb_jr h2 hG) a
  have hO : ∀ k : KN, 20 ≤ k.1 → O k = jwM (LL G) z (nI a.1) a.2.1 a.2.2.1 a.2.2.2.1 a.2.2.2.2 k := fun k hk => hX.2 k (Or.inr (Or.inl hk))
  have h30 : ∀ k : KN, 30 ≤ k.1 → O k = LL G k := fun k hk => (hO k (by omega)).trans (jw_see (by omega) (by omega) (by omega) (by omega) (by omega) (by omega))
  have hOG : ∀ k : KN, 30 ≤ k.1 → k.1 < 43 → O k = G k := fun k a b => (h30 k a).trans (LL_see b)
  refine ⟨⟨fun j => if j ≤ z then V j else (S', n', mcs'), fun j => if j < z then acts j else a, ?_, ?_, h3.ext hs, ?_, ?_, hg0, hg1, by omega, by omega, by omega, fun d => by have := h11 d; have := hac d; omega, by omega⟩, ll_back h30, hOG⟩
  · exact rel_congr hRel (fun _ _ _ _ => rfl) (fun j _ => by rw [hOG _ (by decide) (by decide)]) (fun k a b => hOG _ (by show 30 ≤ k; omega) (by show k < 43; omega))
  · unfold JR
    rw [hO (20, 0, 0, 0) (by decide), hO (21, 0, 0, 0) (by decide), hO (22, 0, 0, 0) (by decide), hO (23, 0, 0, 0) (by decide), hO (24, 0, 0, 0) (by decide), hO (25, 0, 0, 0) (by decide)]
    exact hjr
  · simp only [if_neg (Nat.not_succ_le_self z)]
    exact ⟨fun k e d hk => hX.1 k e d hk, fun _ _ => rfl⟩
  · simp only [if_neg (Nat.not_succ_le_self z)]
theorem ls_of {O : Mem} (hG : OKX G) (h : (∃ V' acts', LI O gm' V' acts' (z + 1) Lw n' m' t' ac' mcs' (c + 1)) ∧ O = LL O ∧ ∀ k : KN, 30 ≤ k.1 → k.1 < 43 → O k = G k) (hn : n' ≤ 2) (hm : m' ≤ 10) : LWT O gm' (c + 1) ∧ O = LL O := by
  obtain ⟨⟨V', acts', h1⟩, h2, h3⟩ := h
  exact ⟨⟨V', acts', z + 1, n', m', t', ac', mcs', h1, okx_of hG (fun k hk => h3 _ (by show 30 ≤ k; omega) (by show k < 43; omega)) (by rw [h3 _ (by decide) (by decide)]), hn, hm⟩, h2⟩
theorem st_entry (h : LWS I gm V acts z n m t ac mcs c) {d : Nat} (hd : d < 6) (hn : n < 2) : LWT (mkeM (jwM (LL (mEntM I d n)) z (nI 0) (nI d) (nI 0) (nI 0) (nI 0)) 0 d n) gm (c + 1) ∧ mkeM (jwM (LL (mEntM I d n)) z (nI 0) (nI d) (nI 0) (nI 0) (nI 0)) 0 d n = LL (mkeM (jwM (LL (mEntM I d n)) z (nI 0) (nI d) (nI 0) (nI 0) (nI 0)) 0 d n) := by
  obtain ⟨hLI, hok, hn2, hm⟩ := h
  have hG : ∀ k : KN, k.1 < 30 → mEntM I d n k = I k := fun k hk => mEnt_lo hk
  have hLI' := hLI
  obtain ⟨h1, h2, h3, h4, h5, h6, h7, h8, h9, h10, h11, h12⟩ := hLI
  have hO := (jw_SB (z := z) (a := nI 0) (b := nI d) (c := nI 0) (d := nI 0) (e := nI 0) (lb_sb h4 hG)).mke d n
  exact ls_of (ok_ent hok) (st_gen (n' := n + 1) (mcs' := mcs) (m' := m) (t' := t) (ac' := ac) (a := (0, nI d, nI 0, nI 0, nI 0)) hLI' hG (Or.inl ⟨d, hd, by rw [h5]; show n < 10; omega, rfl, by rw [h5]⟩) hO (rel_entry (lb_rel h1 hG) hd (by omega)) h6 h7 (by omega) (by omega) (fun d => by omega) (by omega)) (by omega) hm
theorem lw_tell {e f d a : Nat} {v : Int32} (hd : d < 6) (ha : a < 64) (hv : v = nI ((100 * d + 37 * a) % 1000)) : logU Lw e (f * 6 + d) (nI a) v = Lw := by
  funext e2 c2 a2
  unfold logU
  by_cases q : e2 = e ∧ c2 = f * 6 + d ∧ a2 = nI a
  · obtain ⟨rfl, rfl, rfl⟩ := q
    rw [if_pos ⟨rfl, rfl, rfl⟩, hv]
    unfold Lw
    rw [i_nI (by omega), show (f * 6 + d) % 6 = d by omega]
    rfl
  · rw [if_neg q]
theorem st_tell (h : LWS I gm V acts z n m t ac mcs c) (hc : c < 58) {d e f : Nat} (hd : d < 6) (he : e < n) (hf : f < 4) {v : Int32} (hv : v = -1 ∨ v = nI ((100 * d + 37 * (ac d + 1)) % 1000)) : LWT (tllM (jwM (LL (mtlM I d e f v)) z (nI 1) (nI d) (nI e) (nI f) v) 0 e f d v) gm (c + 1) ∧ tllM (jwM (LL (mtlM I d e f v)) z (nI 1) (nI d) (nI e) (nI f) v) 0 e f d v = LL (tllM (jwM (LL (mtlM I d e f v)) z (nI 1) (nI d) (nI e) (nI f) v) 0 e f d v) := by
  obtain ⟨hLI, hok, hn2, hm⟩ := h
  have hG : ∀ k : KN, k.1 < 30 → mtlM I d e f v k = I k := fun k hk => mtl_lo hk
  have hLI' := hLI
  obtain ⟨h1, h2, h3, h4, h5, h6, h7, h8, h9, h10, h11, h12⟩ := hLI
  have hO := (jw_SB (z := z) (a := nI 1) (b := nI d) (c := nI e) (d := nI f) (e := v) (lb_sb h4 hG)).tll e f d v
  have hac := h11 d
  have hvn : v = -1 ↔ v < 0 := by
    rcases hv with rfl | rfl
    · decide
    · constructor
      · intro q
        have := congrArg Int32.toInt q
        rw [i_nI (by omega), i_mone] at this
        omega
      · intro q
        rw [Int32.lt_iff_toInt_lt, i_nI (by omega), i_zero] at q
        omega
  have hr := rel_tell (lb_rel (z := z) (a := nI 1) (b := nI d) (c' := nI e) (d := nI f) (e := v) h1 hG) hd (show e < 10 by omega) hf hvn (show ac d < 600 by omega)
  have hr2 : Rel (tllM (jwM (LL (mtlM I d e f v)) z (nI 1) (nI d) (nI e) (nI f) v) 0 e f d v) (mtlM I d e f v) Lw n m t (mup ac d) mcs := by
    rcases hv with hv | hv
    · refine rel_L hr (fun e2 d2 c2 he2 hd2 hc2 hz => ?_)
      refine logU_ne ?_
      rintro ⟨rfl, rfl, q3⟩
      have hold := ((lb_rel (z := z) (a := nI 1) (b := nI d) (c' := nI e2) (d := nI f) (e := v) h1 hG).cp e2 d2 he2 hd2).av (f * 6 + d) hc2
      rw [show (f * 6 + d) % 6 = d by omega] at hold
      by_cases q : d2 = d
      · subst q
        rw [tll_10, if_pos hv, rf_in ⟨by omega, by omega⟩] at hz
        exact hz rfl
      · have e1 : tllM (jwM (LL (mtlM I d e2 f v)) z (nI 1) (nI d) (nI e2) (nI f) v) 0 e2 f d v (10, 0, e2, d2) = jwM (LL (mtlM I d e2 f v)) z (nI 1) (nI d) (nI e2) (nI f) v (10, 0, e2, d2) := tll_oth (by show (10 : Nat) ≠ 2; decide) (fun w => q (congrArg (·.2.2) w))
        rw [e1] at q3
        rw [q3, i_nI (by omega)] at hold
        omega
    · rw [lw_tell hd (by omega) hv] at hr
      exact hr
  refine ls_of (ok_tll (a := ac d) hok ?_ (by omega)) (st_gen (n' := n) (mcs' := mcs) (m' := m) (t' := t) (a := (1, nI d, nI e, nI f, v)) hLI' hG (Or.inr (Or.inl ⟨d, e, f, v, hd, by rw [h5]; exact he, hf, rfl, by rw [h5]⟩)) hO hr2 h6 h7 (by omega) (by omega) (fun d2 => ?_) (by omega)) hn2 hm
  · exact h1.gl.aJ d hd
  · by_cases q : d2 = d
    · subst q; rw [mup_eq]; omega
    · rw [mup_ne q]; omega
theorem st_delete (h : LWS I gm V acts z n m t ac mcs c) (hc : c < 58) {d e : Nat} (hd : d < 6) (he : e < n) (hm10 : m < 10) {v7 : Nat → Int32} (hg0 : ∀ e2, (gm' 0 e2).1 = mup mcs e e2) (hg1 : ∀ e2, (gm' 1 e2).1 = (gm 1 e2).1) {R : Mem}
    (hR : R = sset (addM (nxtM (jwM (LL (mdlM I d e m)) z (nI 2) (nI d) (nI e) (nI 0) (nI 0)) 0 d) 0 e d (mcs e) (LL (mdlM I d e m) (1, 0, 0, 0) 0)) (7, 0, e, 0) v7) : LWT R gm' (c + 1) ∧ R = LL R := by
  subst hR
  obtain ⟨hLI, hok, hn2, hm⟩ := h
  have hG : ∀ k : KN, k.1 < 30 → mdlM I d e m k = I k := fun k hk => mdl_lo hk
  have hLI' := hLI
  obtain ⟨h1, h2, h3, h4, h5, h6, h7, h8, h9, h10, h11, h12⟩ := hLI
  have he10 : e < 10 := by omega
  have hj := jw_SB (z := z) (a := nI 2) (b := nI d) (c := nI e) (d := nI 0) (e := nI 0) (lb_sb h4 hG)
  have e1 : jwM (LL (mdlM I d e m)) z (nI 2) (nI d) (nI e) (nI 0) (nI 0) (1, 0, 0, 0) = LL (mdlM I d e m) (1, 0, 0, 0) := jw_see (kz rfl) (kz rfl) (kz rfl) (kz rfl) (kz rfl) (kz rfl)
  have e2 : LL (mdlM I d e m) (1, 0, 0, 0) = (V z).1 (1, 0, 0, 0) := (lb_see hG (by decide)).trans (h4.at 1 0 0 (by decide))
  have hO := ((hj.nxt d).add e d (LL (mdlM I d e m) (1, 0, 0, 0) 0)).lst e v7
  have hac := h11 d
  have hr := rel_delete (lb_rel (z := z) (a := nI 2) (b := nI d) (c' := nI e) (d := nI 0) (e := nI 0) h1 hG) hd he10 (show m < 600 by omega) (show ac d < 600 by omega)
  rw [e1] at hr
  have hr2 := rel_congr (I' := sset (addM (nxtM (jwM (LL (mdlM I d e m)) z (nI 2) (nI d) (nI e) (nI 0) (nI 0)) 0 d) 0 e d (mcs e) (LL (mdlM I d e m) (1, 0, 0, 0) 0)) (7, 0, e, 0) v7) hr (fun k e3 d3 hk => sset_ne _ _ (fun q => by have q1 : k = 7 := congrArg (·.1) q; omega)) (fun _ _ => rfl) (fun _ _ _ => rfl)
  refine ls_of (ok_del hok) (st_gen (n' := n) (mcs' := mup mcs e) (m' := m + 1) (t' := t) (a := (2, nI d, nI e, nI 0, nI 0)) (S' := addM (nxtM (V z).1 0 d) 0 e d (mcs e) (LL (mdlM I d e m) (1, 0, 0, 0) 0)) hLI' hG (Or.inr (Or.inr (Or.inl ⟨d, e, hd, by rw [h5]; exact he, rfl, by rw [h5, e2]⟩))) hO hr2 hg0 (fun e3 => ?_) (by omega) (by omega) (fun d2 => ?_) ?_) hn2 (by omega)
  · rw [hg1]
    have := h7 e3
    by_cases q : e3 = e
    · subst q; rw [mup_eq]; omega
    · rw [mup_ne q]; exact this
  · by_cases q : d2 = d
    · subst q; rw [mup_eq]; omega
    · rw [mup_ne q]; omega
  · have := sum_mup (mcs := mcs) (e := e) (k := 10)
    split at this <;> omega
theorem st_share (h : LWS I gm V acts z n m t ac mcs c) {e q x : Nat} (he : e < n) (hq : q < 3) (hx : x < 16) : LWT (shrM (jwM (LL (mshM I e q (nI x))) z (nI 3) (nI e) (nI q) (nI x) (nI 0)) 0 e q (nI x) 6) gm (c + 1) ∧ shrM (jwM (LL (mshM I e q (nI x))) z (nI 3) (nI e) (nI q) (nI x) (nI 0)) 0 e q (nI x) 6 = LL (shrM (jwM (LL (mshM I e q (nI x))) z (nI 3) (nI e) (nI q) (nI x) (nI 0)) 0 e q (nI x) 6) := by
  obtain ⟨hLI, hok, hn2, hm⟩ := h
  have hG : ∀ k : KN, k.1 < 30 → mshM I e q (nI x) k = I k := fun k hk => msh_lo hk
  have hLI' := hLI
  obtain ⟨h1, h2, h3, h4, h5, h6, h7, h8, h9, h10, h11, h12⟩ := hLI
  have he10 : e < 10 := by omega
  have hO := (jw_SB (z := z) (a := nI 3) (b := nI e) (c := nI q) (d := nI x) (e := nI 0) (lb_sb h4 hG)).shr e q (nI x) 6
  exact ls_of (ok_shr hok) (st_gen (n' := n) (mcs' := mcs) (m' := m) (t' := t) (ac' := ac) (a := (3, nI e, nI q, nI x, nI 0)) hLI' hG (Or.inr (Or.inr (Or.inr (Or.inl ⟨e, q, nI x, by rw [h5]; exact he, hq, rfl, by rw [h5]⟩)))) hO (rel_share (lb_rel h1 hG) he10 hq hx rfl) h6 h7 (by omega) (by omega) (fun d => by omega) (by omega)) hn2 hm
theorem st_merge (h : LWS I gm V acts z n m t ac mcs c) {d o : Nat} (hd : d < 6) (ho : o < 6) (hne : d ≠ o) : (LWT (mgdM (jwM (LL (mmM I d o m n)) z (nI 4) (nI d) (nI o) (nI 0) (nI 0)) 0 d o mcs n) gm (c + 1) ∧ mgdM (jwM (LL (mmM I d o m n)) z (nI 4) (nI d) (nI o) (nI 0) (nI 0)) 0 d o mcs n = LL (mgdM (jwM (LL (mmM I d o m n)) z (nI 4) (nI d) (nI o) (nI 0) (nI 0)) 0 d o mcs n)) ∧ mmM I d o m n (30, 0, 0, 0) 3 + nI (100 * mmG I d o m n) = mgdR (jwM (LL (mmM I d o m n)) z (nI 4) (nI d) (nI o) (nI 0) (nI 0)) 0 d o mcs n := by
  obtain ⟨hLI, hok, hn2, hm⟩ := h
  have hG : ∀ k : KN, k.1 < 30 → mmM I d o m n k = I k := fun k hk => mm_lo hk n
  have hLI' := hLI
  obtain ⟨h1, h2, h3, h4, h5, h6, h7, h8, h9, h10, h11, h12⟩ := hLI
  have hO := (jw_SB (z := z) (a := nI 4) (b := nI d) (c := nI o) (d := nI 0) (e := nI 0) (lb_sb h4 hG)).mgd d o n
  obtain ⟨a, b⟩ := rel_mgd (lb_rel (z := z) (a := nI 4) (b := nI d) (c' := nI o) (d := nI 0) (e := nI 0) h1 hG) hd ho hne n h1.gl.n10
  exact ⟨ls_of (ok_mm hok n) (st_gen (n' := n) (mcs' := mcs) (m' := m) (t' := t) (ac' := ac) (a := (4, nI d, nI o, nI 0, nI 0)) hLI' hG (Or.inr (Or.inr (Or.inr (Or.inr (Or.inl ⟨d, o, hd, ho, hne, rfl, by rw [h5]⟩))))) hO a h6 h7 (by omega) (by omega) (fun d => by omega) (by omega)) hn2 hm, b⟩
theorem st_pass (h : LWS I gm V acts z n m t ac mcs c) (hc : c < 58) {x : Nat} (hx : x ≤ 24) : (LWT (pasM (jwM (LL (mpD I (nI x) n m 6)) z (nI 5) (nI x) (nI 0) (nI 0) (nI 0)) 0 mcs (nI x) n) gm (c + 1) ∧ pasM (jwM (LL (mpD I (nI x) n m 6)) z (nI 5) (nI x) (nI 0) (nI 0) (nI 0)) 0 mcs (nI x) n = LL (pasM (jwM (LL (mpD I (nI x) n m 6)) z (nI 5) (nI x) (nI 0) (nI 0) (nI 0)) 0 mcs (nI x) n)) ∧ pasN (jwM (LL (mpD I (nI x) n m 6)) z (nI 5) (nI x) (nI 0) (nI 0) (nI 0)) 0 mcs (nI x) n = mpDn I (nI x) n m 6 := by
  obtain ⟨hLI, hok, hn2, hm⟩ := h
  have hG : ∀ k : KN, k.1 < 30 → mpD I (nI x) n m 6 k = I k := fun k hk => mpD_lo hk 6
  have hLI' := hLI
  obtain ⟨h1, h2, h3, h4, h5, h6, h7, h8, h9, h10, h11, h12⟩ := hLI
  have hO := (jw_SB (z := z) (a := nI 5) (b := nI x) (c := nI 0) (d := nI 0) (e := nI 0) (lb_sb h4 hG)).pas (nI x) n
  obtain ⟨a, b⟩ := rel_pass (lb_rel (z := z) (a := nI 5) (b := nI x) (c' := nI 0) (d := nI 0) (e := nI 0) h1 hG) (x := x) (by omega)
  exact ⟨ls_of (ok_mpD (t := t) hok h1.gl.tJ (by omega) 6) (st_gen (n' := n) (mcs' := mcs) (m' := m) (t' := t + x) (ac' := ac) (a := (5, nI x, nI 0, nI 0, nI 0)) hLI' hG (Or.inr (Or.inr (Or.inr (Or.inr (Or.inr ⟨nI x, rfl, by rw [h5]⟩))))) hO a h6 h7 (by omega) (by omega) (fun d => by omega) (by omega)) hn2 hm, b⟩
end ST
