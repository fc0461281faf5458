/-! ===== the parser's moves over its state ===== -/
theorem upd_self {f : Nat → Int32} {k : Nat} : upd f k (f k) = f := by
  funext j; rw [upd_ap]; split
  · rename_i e; rw [e]
  · rfl
section PR
variable {o c : Int} {nx nx' sr wr wr' fm fm' wa wa' tg ts tg' ts' od : Int32} {st : Nat → Int32} {wt : Nat → Int64} {lv op jm bs sg fr pt cn cc pl ai ai' : Nat → Int32} {i i2 i3 j1 j2 j3 j4 j5 j6 j7 : Nat} {s s1 s2 z b k x y p1 pp nn c2 l : Int32} {v v1 v2 t : Int64}
theorem Plast_new {h g B : Nat → Int} {a S E F W : Nat} {o o' : Int} (hp : PI h g B a S E F W o st wt lv op jm bs sg fr pt cn cc pl tg ts) (hs : s.toInt = 9 ∨ s.toInt = 11 ∨ s.toInt = 12) : Plast S (E + 1) F o' (upd st E s) (vp_updL wt E v) fr pl ai' := by
  intro hF hfr hpl hai ho
  subst hF
  obtain ⟨h1, h2, h3, h4, ⟨h5, h5a, h6, h7⟩, h8⟩ := hp
  refine ⟨E, rfl, h5, by rw [upd_eq]; exact hs, fun q a1 a2 hc => ?_⟩
  rw [upd_ne (by omega)] at hc
  rw [updL_ne (by omega)]
  obtain ⟨-, k1, k2, k3⟩ := Pcode_noP h1 hpl (h7 q a1 (by omega))
  rcases k2 hc with ⟨t, t1, t2, t3, t4⟩ | k
  · exact ⟨t, t1, t2, t3⟩
  · exact absurd k id
theorem Plast_no {S E F : Nat} (h : F = 1 → (ai 0).toInt = 0 ∨ (pl 0).toInt = 0) : Plast S E F o st wt fr pl ai := fun hF _ hpl hai _ => by
  rcases h hF with h | h
  · exact absurd h hai
  · exact absurd h hpl
theorem PQ_load (hq : PQ1 0 0 nx sr wr fm wa st wt lv op jm bs sg fr pt cn cc pl tg ts ai) (hsr : sr.toInt ≤ 3510) (hi : (i : Int) = sr.toInt + wr.toInt) (hnx0 : nx.toInt ≤ 40) (hw : wr'.toInt = wr.toInt + 1) (hnx : nx.toInt + 1 ≤ nx'.toInt) (hs : 1 ≤ s.toInt ∧ s.toInt ≤ 10) :
    PQ0 1 1 nx' sr wr' fm wa (upd st i s) (vp_updL wt i v) lv op jm bs sg fr pt cn cc pl tg ts ∧ ((s.toInt = 9 ∨ (fm.toInt = 1 → (ai' 0).toInt = 0)) → PQ1 1 0 nx' sr wr' fm wa (upd st i s) (vp_updL wt i v) lv op jm bs sg fr pt cn cc pl tg ts ai') := by
  have hb := hq.z.b
  obtain ⟨h, g, B, a, S, E, F, W, e1, e2, e3, e4, hp, hpot, hwn, hh, hla⟩ := hq
  have hE9 := hh E hp.2.2.2.2.1.1 (Nat.le_refl E)
  obtain rfl : i = E := by omega
  obtain ⟨n, rfl⟩ : ∃ n, F = n + 1 := ⟨F - 1, by have := hp.1.1; omega⟩
  have hub := PI_und hp.1 hp.2.1 hp.2.2.1
  have h8 : h i = und (B n) g lv (bs n).toInt.toNat W + 0 := hp.2.2.2.2.2
  have hp' := PI_emit (s := s) (v := v) (o' := 1) hp (by omega) (by unfold isj; omega) (by omega) (by unfold CK; omega)
  have hpn := pot_nn sg (n + 1)
  refine ⟨⟨_, g, B, a, S, i + 1, n + 1, W, e1, by omega, e3, e4, hp', by omega, by omega, hb_ext hh (by omega) (by omega)⟩, fun hl => ⟨_, g, B, a, S, i + 1, n + 1, W, e1, by omega, e3, e4, hp', by omega, by omega, hb_ext hh (by omega) (by omega), ?_⟩⟩
  rcases hl with hl | hl
  · exact Plast_new hp (Or.inl hl)
  · exact Plast_no (fun hF => Or.inl (hl (by omega)))
theorem PQ_weak (hq : PQ1 1 0 nx sr wr fm wa st wt lv op jm bs sg fr pt cn cc pl tg ts ai) (hnx : nx.toInt + 1 ≤ nx'.toInt) : PQ0 1 1 nx' sr wr fm wa st wt lv op jm bs sg fr pt cn cc pl tg ts := by
  obtain ⟨h, g, B, a, S, E, F, W, e1, e2, e3, e4, hp, hpot, hwn, hh, hla⟩ := hq
  have hE9 := hh E hp.2.2.2.2.1.1 (Nat.le_refl E)
  exact ⟨h, g, B, a, S, E, F, W, e1, e2, e3, e4, hp, by omega, by omega, hb_same hh (by omega)⟩
theorem PQ_prop (hq : PQ0 1 1 nx sr wr fm wa st wt lv op jm bs sg fr pt cn cc pl tg ts) (hsr : sr.toInt ≤ 3510) (hnx0 : nx.toInt ≤ 40) (hi : (i : Int) = sr.toInt + wr.toInt) (hw : wr'.toInt = wr.toInt + 1) (hs : s.toInt = 11 ∨ s.toInt = 12) :
    PQ1 1 0 nx sr wr' fm wa (upd st i s) (vp_updL wt i v) lv op jm bs sg fr pt cn cc pl tg ts ai' := by
  have hb := hq.b
  obtain ⟨h, g, B, a, S, E, F, W, e1, e2, e3, e4, hp, hpot, hwn, hh⟩ := hq
  have hE9 := hh E hp.2.2.2.2.1.1 (Nat.le_refl E)
  obtain rfl : i = E := by omega
  obtain ⟨n, rfl⟩ : ∃ n, F = n + 1 := ⟨F - 1, by have := hp.1.1; omega⟩
  have hub := PI_und hp.1 hp.2.1 hp.2.2.1
  have h8 : h i = und (B n) g lv (bs n).toInt.toNat W + 1 := hp.2.2.2.2.2
  have hp' := PI_emit (s := s) (v := v) (o' := 1) hp (by omega) (by unfold isj; omega) (by omega) (by unfold CK; omega)
  exact ⟨_, g, B, a, S, i + 1, n + 1, W, e1, by omega, e3, e4, hp', by omega, by omega, hb_ext hh (by omega) (by omega), Plast_new hp (by omega)⟩
theorem PQ_call0 (hq : PQ0 1 1 nx sr wr fm wa st wt lv op jm bs sg fr pt cn cc pl tg ts) (hsr : sr.toInt ≤ 3510) (hnx0 : nx.toInt ≤ 40) (hi : (i : Int) = sr.toInt + wr.toInt) (hi2 : (i2 : Int) = i + 1) (hi3 : i3 = i) (hw : wr'.toInt = wr.toInt + 2) (hnx : nx'.toInt = nx.toInt + 2) (hs1 : s1.toInt = 13 ∨ s1.toInt = 14) (hs2 : s2.toInt = 15) (hv : 0 ≤ v2.toInt ∧ v2.toInt % 4 = 0) (ht : t.toInt = i + 2) (hai : fm.toInt = 1 → (ai' 0).toInt = 0) :
    PQ1 1 0 nx' sr wr' fm wa (upd (upd st i s1) i2 s2) (vp_updL (vp_updL (vp_updL wt i v1) i2 v2) i3 t) lv op jm bs sg fr pt cn cc pl tg ts ai' := by
  have hb := hq.b
  obtain ⟨h, g, B, a, S, E, F, W, e1, e2, e3, e4, hp, hpot, hwn, hh⟩ := hq
  have hE9 := hh E hp.2.2.2.2.1.1 (Nat.le_refl E)
  obtain rfl : i = E := by omega
  obtain rfl : i2 = i + 1 := by omega
  subst hi3
  obtain ⟨n, hF⟩ : ∃ n, F = n + 1 := ⟨F - 1, by have := hp.1.1; omega⟩
  exact ⟨_, g, B, a, S, i3 + 2, F, W, e1, by omega, e3, e4, PI_call0 hp hF (by omega) hs1 hs2 hv ht (y := 0), by omega, by omega, hb_ext (hb_ext hh (by omega) (by omega)) (by omega) (Int.le_refl _), Plast_no (fun hF => Or.inl (hai (by omega)))⟩
/-- a frame opens behind a jump -/
theorem PQ_jopen (hq : PQ0 1 c nx sr wr fm wa st wt lv op jm bs sg fr pt cn cc pl tg ts) (hc : 0 ≤ c) (hsr : sr.toInt ≤ 3510) (hnx0 : nx.toInt ≤ 40) (hi : (i : Int) = sr.toInt + wr.toInt) (hw : wr'.toInt = wr.toInt + 1) (hnx : nx'.toInt = nx.toInt + 1) (hf : fm.toInt < 5) (hf' : fm'.toInt = fm.toInt + 1)
    (h1 : (j1 : Int) = fm.toInt) (h2 : j2 = j1) (h3 : j3 = j1) (h4 : j4 = j1) (h5 : j5 = j1) (h6 : j6 = j1) (h7 : j7 = j1) (hb : b = wa) (hz : z.toInt = 0) (hpp : pp.toInt = i)
    (hk : (k.toInt = 3 ∧ (s.toInt = 13 ∨ s.toInt = 14) ∧ c2.toInt = 1 ∧ 0 ≤ nn.toInt ∧ nn.toInt ≤ 14348906) ∨ (k.toInt = 4 ∧ s.toInt = 35) ∨ (k.toInt = 5 ∧ s.toInt = 37)) :
    PQ1 0 0 nx' sr wr' fm' wa (upd st i s) (vp_updL wt i v) lv op jm (upd bs j1 b) (upd sg j2 z) (upd fr j3 k) (upd pt j4 pp) (upd cn j5 nn) (upd cc j6 c2) (upd pl j7 p1) tg ts ai' := by
  have hbb := hq.b
  obtain ⟨h, g, B, a, S, E, F, W, e1, e2, e3, e4, hp, hpot, hwn, hh⟩ := hq
  have hE9 := hh E hp.2.2.2.2.1.1 (Nat.le_refl E)
  obtain rfl : i = E := by omega
  obtain ⟨n, rfl⟩ : ∃ n, F = n + 1 := ⟨F - 1, by have := hp.1.1; omega⟩
  obtain rfl : j1 = n + 1 := by omega
  subst h2 h3 h4 h5 h6 h7 hb
  have hp' := PI_openJ (p1 := p1) (c2 := c2) (nn := nn) (v := v) hp (by omega) (by omega) e4 hz hpp hk rfl
  have h8 : h i = und (B n) g lv (bs n).toInt.toNat W + 1 := hp.2.2.2.2.2
  have hpo := pot_new (sg := sg) (n := n + 1) hz
  exact ⟨_, g, _, a, S, i + 1, n + 2, W, e1, by omega, by omega, e4, hp', by rw [show n + 2 = n + 1 + 1 from rfl, hpo]; omega, by omega, hb_ext hh (by split <;> omega) (by omega), fun _ _ _ _ ho => by omega⟩
theorem PQ_brack (hq : PQ1 0 0 nx sr wr fm wa st wt lv op jm bs sg fr pt cn cc pl tg ts ai) (hnx : nx.toInt ≤ nx'.toInt) (hf : fm.toInt < 5) (hf' : fm'.toInt = fm.toInt + 1)
    (h1 : (j1 : Int) = fm.toInt) (h2 : j2 = j1) (h3 : j3 = j1) (h7 : j7 = j1) (hb : b = wa) (hz : z.toInt = 0) (hk : k.toInt = 2) :
    PQ1 0 0 nx' sr wr fm' wa st wt lv op jm (upd bs j1 b) (upd sg j2 z) (upd fr j3 k) pt cn cc (upd pl j7 p1) tg ts ai' := by
  obtain ⟨h, g, B, a, S, E, F, W, e1, e2, e3, e4, hp, hpot, hwn, hh, hla⟩ := hq
  have hE9 := hh E hp.2.2.2.2.1.1 (Nat.le_refl E)
  obtain ⟨n, rfl⟩ : ∃ n, F = n + 1 := ⟨F - 1, by have := hp.1.1; omega⟩
  obtain rfl : j1 = n + 1 := by omega
  subst h2 h3 h7 hb
  have hp' := PI_open2 (p1 := p1) (pp := pt (n + 1)) (nn := cn (n + 1)) (c2 := cc (n + 1)) hp (by omega) hk e4 hz
  rw [upd_self, upd_self, upd_self] at hp'
  have hpo := pot_new (sg := sg) (n := n + 1) hz
  exact ⟨h, g, _, a, S, E, n + 2, W, e1, e2, by omega, e4, hp', by rw [show n + 2 = n + 1 + 1 from rfl, hpo]; omega, by omega, hb_same hh (by omega), fun _ _ _ _ ho => by omega⟩
theorem PQ_sign (hq : PQ1 0 0 nx sr wr fm wa st wt lv op jm bs sg fr pt cn cc pl tg ts ai) (hnx : nx.toInt + 1 ≤ nx'.toInt) (h1 : (j1 : Int) = fm.toInt - 1) (h2 : j2 = j1) (hz : z.toInt = 0) (hx : x.toInt = 30 ∨ x.toInt = 31) :
    PQ1 0 0 nx' sr wr fm wa st wt lv op jm bs (upd sg j1 x) fr pt cn cc (upd pl j2 z) tg ts ai' := by
  obtain ⟨h, g, B, a, S, E, F, W, e1, e2, e3, e4, hp, hpot, hwn, hh, hla⟩ := hq
  have hE9 := hh E hp.2.2.2.2.1.1 (Nat.le_refl E)
  obtain ⟨n, rfl⟩ : ∃ n, F = n + 1 := ⟨F - 1, by have := hp.1.1; omega⟩
  obtain rfl : j1 = n := by omega
  subst h2
  have hp' := PI_sign (x := x) (i := j2) (PI_strike (i := j2) hp hz) (Or.inr ⟨hx, by rw [upd_eq]; exact hz⟩)
  have hpo := pot_set (sg := sg) (n := j2) (z := x)
  rw [pot_succ] at hpot
  refine ⟨h, g, B, a, S, E, j2 + 1, W, e1, e2, e3, e4, hp', ?_, by omega, hb_same hh (by omega), fun _ _ _ _ ho => by omega⟩
  rw [hpo, if_neg (by omega)]
  split at hpot <;> omega
theorem PQ_signE (hq : PQ1 1 0 nx sr wr fm wa st wt lv op jm bs sg fr pt cn cc pl tg ts ai) (hsr : sr.toInt ≤ 3510) (hnx0 : nx.toInt ≤ 40) (hi : (i : Int) = sr.toInt + wr.toInt) (hw : wr'.toInt = wr.toInt + 1) (h1 : (j1 : Int) = fm.toInt - 1) (hs : s = sg j1) (hs0 : ¬ s.toInt = 0) (hz : z.toInt = 0) :
    PQ1 1 0 nx sr wr' fm wa (upd st i s) (vp_updL wt i v) lv op jm bs (upd sg j1 z) fr pt cn cc pl tg ts ai := by
  have hb := hq.z.b
  obtain ⟨h, g, B, a, S, E, F, W, e1, e2, e3, e4, hp, hpot, hwn, hh, hla⟩ := hq
  have hE9 := hh E hp.2.2.2.2.1.1 (Nat.le_refl E)
  obtain rfl : i = E := by omega
  obtain ⟨n, rfl⟩ : ∃ n, F = n + 1 := ⟨F - 1, by have := hp.1.1; omega⟩
  obtain rfl : j1 = n := by omega
  have hsg := hp.1.2.2.2.2.2.2.2.1 j1 (by omega)
  subst hs
  have hub := PI_und hp.1 hp.2.1 hp.2.2.1
  have h8 : h i = und (B j1) g lv (bs j1).toInt.toNat W + 1 := hp.2.2.2.2.2
  have hp' := PI_emit (s := sg j1) (v := v) (o' := 1) hp (by omega) (by unfold isj; omega) (by omega) (by unfold CK; omega)
  have hp2 := PI_sign (x := z) (i := j1) hp' (Or.inl hz)
  have hpo := pot_set (sg := sg) (n := j1) (z := z)
  rw [pot_succ, if_neg hs0] at hpot
  refine ⟨_, g, B, a, S, i + 1, j1 + 1, W, e1, by omega, e3, e4, hp2, ?_, by omega, hb_ext hh (by omega) (by omega), Plast_no (fun hF => Or.inr ?_)⟩
  · rw [hpo, if_pos hz]; omega
  · obtain rfl : j1 = 0 := by omega
    exact hsg.2 hs0
theorem PQ_pop (hq : PQ1 1 0 nx sr wr fm wa st wt lv op jm bs sg fr pt cn cc pl tg ts ai) (hsr : sr.toInt ≤ 3510) (hnx0 : nx.toInt ≤ 40) (hi : (i : Int) = sr.toInt + wr.toInt) (hw : wr'.toInt = wr.toInt + 1) (hwa : wa'.toInt = wa.toInt - 1) (h1 : (j1 : Int) = wa'.toInt) (hbs : (bs (fm.toInt - 1).toNat).toInt < wa.toInt) (hl : 2 < (lv j1).toInt) (hs : s = op j1) :
    PQ1 1 0 nx sr wr' fm wa' (upd st i s) (vp_updL wt i v) lv op jm bs sg fr pt cn cc pl tg ts ai := by
  have hb := hq.z.b
  obtain ⟨h, g, B, a, S, E, F, W, e1, e2, e3, e4, hp, hpot, hwn, hh, hla⟩ := hq
  have hE9 := hh E hp.2.2.2.2.1.1 (Nat.le_refl E)
  obtain rfl : i = E := by omega
  obtain ⟨n, rfl⟩ : ∃ n, F = n + 1 := ⟨F - 1, by have := hp.1.1; omega⟩
  rw [show (fm.toInt - 1).toNat = n by omega] at hbs hb
  obtain ⟨w, rfl⟩ : ∃ w, W = w + 1 := ⟨W - 1, by omega⟩
  obtain rfl : j1 = w := by omega
  subst hs
  have hp' := PI_pop (v := v) hp (by omega) (by omega) hl
  refine ⟨_, g, B, a, S, i + 1, n + 1, j1, e1, by omega, e3, by omega, hp', by omega, by omega, hb_ext hh (by omega) (by omega), ?_⟩
  intro hF hfr hpl
  obtain rfl : n = 0 := by omega
  have := hp.1.2.2.2.2.2.2.2.2 hpl
  unfold lim at this
  rw [if_neg (by omega)] at this
  omega
theorem PQ_popJ (hq : PQ1 1 0 nx sr wr fm wa st wt lv op jm bs sg fr pt cn cc pl tg ts ai) (hsr : sr.toInt ≤ 3510) (hnx0 : nx.toInt ≤ 40) (hi : (i : Int) = sr.toInt + wr.toInt) (hw : wr'.toInt = wr.toInt + 1) (hwa : wa'.toInt = wa.toInt - 1) (h1 : (j1 : Int) = wa'.toInt) (hbs : (bs (fm.toInt - 1).toNat).toInt < wa.toInt) (hl : (lv j1).toInt ≤ 2) (hs : s.toInt = 34) (hx : i2 = (jm j1).toNatClampNeg) (ht : t.toInt = sr.toInt + wr'.toInt) :
    PQ1 1 0 nx sr wr' fm wa' (upd st i s) (vp_updL (vp_updL wt i v) i2 t) lv op jm bs sg fr pt cn cc pl tg ts ai ∧ sr.toInt ≤ i2 := by
  have hb := hq.z.b
  obtain ⟨h, g, B, a, S, E, F, W, e1, e2, e3, e4, hp, hpot, hwn, hh, hla⟩ := hq
  have hE9 := hh E hp.2.2.2.2.1.1 (Nat.le_refl E)
  obtain rfl : i = E := by omega
  obtain ⟨n, rfl⟩ : ∃ n, F = n + 1 := ⟨F - 1, by have := hp.1.1; omega⟩
  rw [show (fm.toInt - 1).toNat = n by omega] at hbs hb
  obtain ⟨w, rfl⟩ : ∃ w, W = w + 1 := ⟨W - 1, by omega⟩
  obtain rfl : j1 = w := by omega
  obtain ⟨q, q1, q2, q3, -⟩ := (hp.2.1.1 j1 (by omega)).2.2.2.2 hl
  have q2 := Nat.le_trans (PI_lo hp.1 hp.2.2.2.1 hp.2.2.2.2.1.1).2 q2
  have hx' : (jm j1).toInt = i2 := by rw [hx, clampN]; omega
  have hp' := PI_popJ (v := v) (t := t) (s := s) hp (by omega) (by omega) hl hs hx' (by omega)
  refine ⟨⟨_, g, B, a, S, i + 1, n + 1, j1, e1, by omega, e3, by omega, hp', by omega, by omega, hb_ext hh (by omega) (by omega), ?_⟩, by omega⟩
  intro hF hfr hpl
  obtain rfl : n = 0 := by omega
  have := hp.1.2.2.2.2.2.2.2.2 hpl
  unfold lim at this
  rw [if_neg (by omega)] at this
  omega
theorem PQ_jm (hq : PQ1 1 0 nx sr wr fm wa st wt lv op jm bs sg fr pt cn cc pl tg ts ai) (h1 : (j1 : Int) < wa.toInt) (hl : (lv j1).toInt ≤ 2) : sr.toInt ≤ (jm j1).toInt ∧ (jm j1).toInt < sr.toInt + wr.toInt := by
  obtain ⟨h, g, B, a, S, E, F, W, e1, e2, e3, e4, hp, hpot, hwn, hh, hla⟩ := hq
  have hE9 := hh E hp.2.2.2.2.1.1 (Nat.le_refl E)
  obtain ⟨q, q1, q2, q3, -⟩ := (hp.2.1.1 j1 (by omega)).2.2.2.2 hl
  have q2 := Nat.le_trans (PI_lo hp.1 hp.2.2.2.1 hp.2.2.2.2.1.1).2 q2
  omega
theorem PQ_lv (hq : PQ1 1 0 nx sr wr fm wa st wt lv op jm bs sg fr pt cn cc pl tg ts ai) (h1 : (j1 : Int) < wa.toInt) : 1 ≤ (lv j1).toInt := by
  obtain ⟨h, g, B, a, S, E, F, W, e1, e2, e3, e4, hp, hpot, hwn, hh, hla⟩ := hq
  have hE9 := hh E hp.2.2.2.2.1.1 (Nat.le_refl E)
  exact (hp.2.1.1 j1 (by omega)).1
theorem PQ_push (hq : PQ1 1 0 nx sr wr fm wa st wt lv op jm bs sg fr pt cn cc pl tg ts ai) (hnx : nx'.toInt = nx.toInt + 1) (h1 : (j1 : Int) = wa.toInt) (h2 : j2 = j1) (h3 : j3 = j1) (h4 : (j4 : Int) = fm.toInt - 1) (hwa : wa'.toInt = wa.toInt + 1) (hl : 2 < l.toInt ∧ l.toInt ≤ 5) (hx : 16 ≤ x.toInt ∧ x.toInt ≤ 26) (hz : z = 0) :
    PQ1 0 0 nx' sr wr fm wa' st wt (upd lv j1 l) (upd op j2 x) (upd jm j3 y) bs sg fr pt cn cc (upd pl j4 z) tg ts ai' := by
  obtain ⟨h, g, B, a, S, E, F, W, e1, e2, e3, e4, hp, hpot, hwn, hh, hla⟩ := hq
  have hE9 := hh E hp.2.2.2.2.1.1 (Nat.le_refl E)
  obtain ⟨n, rfl⟩ : ∃ n, F = n + 1 := ⟨F - 1, by have := hp.1.1; omega⟩
  obtain rfl : j1 = W := by omega
  obtain rfl : j4 = n := by omega
  subst h2 h3 hz
  exact ⟨h, _, B, a, S, E, j4 + 1, j3 + 1, e1, e2, e3, by omega, PI_push hp hl hx, by omega, by omega, hb_same hh (by omega), fun _ _ _ _ ho => by omega⟩
theorem PQ_pushJ (hq : PQ1 1 0 nx sr wr fm wa st wt lv op jm bs sg fr pt cn cc pl tg ts ai) (hsr : sr.toInt ≤ 3510) (hnx0 : nx.toInt ≤ 40) (hi : (i : Int) = sr.toInt + wr.toInt) (hw : wr'.toInt = wr.toInt + 1) (hnx : nx'.toInt = nx.toInt + 1) (h1 : (j1 : Int) = wa.toInt) (h2 : j2 = j1) (h3 : j3 = j1) (h4 : (j4 : Int) = fm.toInt - 1) (hwa : wa'.toInt = wa.toInt + 1) (hl : 1 ≤ l.toInt ∧ l.toInt ≤ 2) (hs : s.toInt = 32 ∨ s.toInt = 33) (hy : y.toInt = i) (hz : z = 0) :
    PQ1 0 0 nx' sr wr' fm wa' (upd st i s) (vp_updL wt i v) (upd lv j1 l) (upd op j2 x) (upd jm j3 y) bs sg fr pt cn cc (upd pl j4 z) tg ts ai' := by
  have hb := hq.z.b
  obtain ⟨h, g, B, a, S, E, F, W, e1, e2, e3, e4, hp, hpot, hwn, hh, hla⟩ := hq
  have hE9 := hh E hp.2.2.2.2.1.1 (Nat.le_refl E)
  obtain rfl : i = E := by omega
  obtain ⟨n, rfl⟩ : ∃ n, F = n + 1 := ⟨F - 1, by have := hp.1.1; omega⟩
  obtain rfl : j1 = W := by omega
  obtain rfl : j4 = n := by omega
  subst h2 h3 hz
  exact ⟨_, _, B, a, S, i + 1, j4 + 1, j3 + 1, e1, by omega, e3, by omega, PI_pushJ hp (by omega) hl hs hy, by omega, by omega, hb_ext hh (by omega) (by omega), fun _ _ _ _ ho => by omega⟩
theorem PQ_strike (hq : PQ1 1 0 nx sr wr fm wa st wt lv op jm bs sg fr pt cn cc pl tg ts ai) (hz : z.toInt = 0) (h1 : (j1 : Int) = fm.toInt - 1) : PQ1 1 0 nx sr wr fm wa st wt lv op jm bs sg fr pt cn cc (upd pl j1 z) tg ts ai := by
  obtain ⟨h, g, B, a, S, E, F, W, e1, e2, e3, e4, hp, hpot, hwn, hh, hla⟩ := hq
  have hE9 := hh E hp.2.2.2.2.1.1 (Nat.le_refl E)
  refine ⟨h, g, B, a, S, E, F, W, e1, e2, e3, e4, PI_strike hp hz, hpot, hwn, hh, Plast_no (fun hF => Or.inr ?_)⟩
  obtain rfl : j1 = 0 := by omega
  rw [upd_eq]; exact hz
/-- frames are left -/
theorem PQ_close2 (hq : PQ1 1 0 nx sr wr fm wa st wt lv op jm bs sg fr pt cn cc pl tg ts ai) (hnx : nx.toInt ≤ nx'.toInt) (hf : fm'.toInt = fm.toInt - 1) (hf2 : 2 ≤ fm.toInt) (h1 : (j1 : Int) = fm.toInt - 1) (hb : (bs j1).toInt = wa.toInt) (hk : (fr j1).toInt = 2) (hai : fm'.toInt = 1 → (ai' 0).toInt = 0) :
    PQ1 1 0 nx' sr wr fm' wa st wt lv op jm bs sg fr pt cn cc pl tg ts ai' := by
  obtain ⟨h, g, B, a, S, E, F, W, e1, e2, e3, e4, hp, hpot, hwn, hh, hla⟩ := hq
  have hE9 := hh E hp.2.2.2.2.1.1 (Nat.le_refl E)
  obtain ⟨n, rfl⟩ : ∃ n, F = n + 2 := ⟨F - 2, by omega⟩
  obtain rfl : j1 = n + 1 := by omega
  rw [show n + 2 = n + 1 + 1 from rfl, pot_succ] at hpot
  refine ⟨h, g, B, a, S, E, n + 1, W, e1, e2, by omega, e4, PI_close2 hp (by omega) hk, ?_, by omega, hb_same hh (by omega), Plast_no (fun hF => Or.inl (hai (by omega)))⟩
  split at hpot <;> omega
theorem PQ_close5 (hq : PQ1 1 0 nx sr wr fm wa st wt lv op jm bs sg fr pt cn cc pl tg ts ai) (hf : fm'.toInt = fm.toInt - 1) (hf2 : 2 ≤ fm.toInt) (h1 : (j1 : Int) = fm.toInt - 1) (hb : (bs j1).toInt = wa.toInt) (hk : (fr j1).toInt = 5) (hx : i2 = (pt j1).toNatClampNeg) (ht : t.toInt = sr.toInt + wr.toInt) (h2 : (j2 : Int) = fm.toInt - 2) (hz : z.toInt = 0) :
    PQ1 1 0 nx sr wr fm' wa st (vp_updL wt i2 t) lv op jm bs sg fr pt cn cc (upd pl j2 z) tg ts ai' ∧ sr.toInt ≤ i2 := by
  obtain ⟨h, g, B, a, S, E, F, W, e1, e2, e3, e4, hp, hpot, hwn, hh, hla⟩ := hq
  have hE9 := hh E hp.2.2.2.2.1.1 (Nat.le_refl E)
  obtain ⟨n, rfl⟩ : ∃ n, F = n + 2 := ⟨F - 2, by omega⟩
  obtain rfl : j1 = n + 1 := by omega
  obtain rfl : j2 = n := by omega
  obtain ⟨-, T, -, -, -, -, t5⟩ := hp.2.2.1 (j2 + 1) (by omega) (by omega)
  obtain ⟨q, q1, q2, -⟩ := t5 (by omega)
  have q2 := Nat.le_trans (PI_lo hp.1 hp.2.2.2.1 hp.2.2.2.2.1.1).2 q2
  rw [show j2 + 2 = j2 + 1 + 1 from rfl, pot_succ] at hpot
  refine ⟨⟨h, g, B, a, S, E, j2 + 1, W, e1, e2, by omega, e4, PI_strike (i := j2) (PI_close5 (x := i2) hp (by omega) hk (by rw [hx, clampN]; omega) (by omega)) hz, ?_, by omega, hb_same hh (by omega), Plast_no (fun hF => Or.inr ?_)⟩, by rw [hx, clampN]; omega⟩
  · split at hpot <;> omega
  · obtain rfl : j2 = 0 := by omega
    rw [upd_eq]; exact hz
theorem PQ_close3 (hq : PQ1 1 0 nx sr wr fm wa st wt lv op jm bs sg fr pt cn cc pl tg ts ai) (hsr : sr.toInt ≤ 3510) (hnx0 : nx.toInt ≤ 40) (hi : (i : Int) = sr.toInt + wr.toInt) (hw : wr'.toInt = wr.toInt + 1) (hnx : nx'.toInt = nx.toInt + 1) (hf : fm'.toInt = fm.toInt - 1) (hf2 : 2 ≤ fm.toInt) (h1 : (j1 : Int) = fm.toInt - 1) (hb : (bs j1).toInt = wa.toInt) (hk : (fr j1).toInt = 3) (hs : s.toInt = 15) (hv : v.toInt = 4 * (cn j1).toInt + (cc j1).toInt) (hx : i2 = (pt j1).toNatClampNeg) (ht : t.toInt = sr.toInt + wr'.toInt) (hai : fm'.toInt = 1 → (ai' 0).toInt = 0) :
    PQ1 1 0 nx' sr wr' fm' wa (upd st i s) (vp_updL (vp_updL wt i v) i2 t) lv op jm bs sg fr pt cn cc pl tg ts ai' ∧ sr.toInt ≤ i2 := by
  have hbb := hq.z.b
  obtain ⟨h, g, B, a, S, E, F, W, e1, e2, e3, e4, hp, hpot, hwn, hh, hla⟩ := hq
  have hE9 := hh E hp.2.2.2.2.1.1 (Nat.le_refl E)
  obtain rfl : i = E := by omega
  obtain ⟨n, rfl⟩ : ∃ n, F = n + 2 := ⟨F - 2, by omega⟩
  obtain rfl : j1 = n + 1 := by omega
  obtain ⟨-, T, -, -, t3, -, t5⟩ := hp.2.2.1 (n + 1) (by omega) (by omega)
  have t3 := t3 hk
  obtain ⟨q, q1, q2, -⟩ := t5 (by omega)
  have q2 := Nat.le_trans (PI_lo hp.1 hp.2.2.2.1 hp.2.2.2.2.1.1).2 q2
  rw [show n + 2 = n + 1 + 1 from rfl, pot_succ] at hpot
  refine ⟨⟨_, g, B, a, S, i + 1, n + 1, W, e1, by omega, by omega, e4, PI_close3 (x := i2) hp (by omega) (by omega) hk hs hv (by rw [hx, clampN]; omega) (by omega), ?_, by omega, hb_ext hh (by omega) (by omega), Plast_no (fun hF => Or.inl (hai (by omega)))⟩, by rw [hx, clampN]; omega⟩
  split at hpot <;> omega
theorem PQ_pt (hq : PQ1 1 0 nx sr wr fm wa st wt lv op jm bs sg fr pt cn cc pl tg ts ai) (hf2 : 2 ≤ fm.toInt) (h1 : (j1 : Int) = fm.toInt - 1) (hk : 3 ≤ (fr j1).toInt) : sr.toInt ≤ (pt j1).toInt ∧ (pt j1).toInt < sr.toInt + wr.toInt ∧ ((fr j1).toInt = 3 → 0 ≤ (cn j1).toInt ∧ (cn j1).toInt ≤ 14348906 ∧ 1 ≤ (cc j1).toInt ∧ (cc j1).toInt ≤ 2) := by
  obtain ⟨h, g, B, a, S, E, F, W, e1, e2, e3, e4, hp, hpot, hwn, hh, hla⟩ := hq
  have hE9 := hh E hp.2.2.2.2.1.1 (Nat.le_refl E)
  obtain ⟨-, T, -, -, t3, -, t5⟩ := hp.2.2.1 j1 (by omega) (by omega)
  obtain ⟨q, q1, q2, q3, -⟩ := t5 hk
  have q2 := Nat.le_trans (PI_lo hp.1 hp.2.2.2.1 hp.2.2.2.2.1.1).2 q2
  exact ⟨by omega, by omega, fun hc => by have := t3 hc; omega⟩
theorem PQ_fr (hq : PQ1 1 0 nx sr wr fm wa st wt lv op jm bs sg fr pt cn cc pl tg ts ai) (h1 : (j1 : Int) = fm.toInt - 1) : (2 ≤ fm.toInt → 2 ≤ (fr j1).toInt ∧ (fr j1).toInt ≤ 5) ∧ (fm.toInt = 1 → (fr j1).toInt = 0 ∨ (fr j1).toInt = 1) := by
  obtain ⟨h, g, B, a, S, E, F, W, e1, e2, e3, e4, hp, hpot, hwn, hh, hla⟩ := hq
  have hE9 := hh E hp.2.2.2.2.1.1 (Nat.le_refl E)
  refine ⟨fun hc => hp.1.2.2.2.2.2.2.1 j1 (by omega) (by omega), fun hc => ?_⟩
  obtain rfl : j1 = 0 := by omega
  exact hp.1.2.2.2.2.2.1
theorem PQ_else (hq : PQ1 1 0 nx sr wr fm wa st wt lv op jm bs sg fr pt cn cc pl tg ts ai) (hsr : sr.toInt ≤ 3510) (hnx0 : nx.toInt ≤ 40) (hi : (i : Int) = sr.toInt + wr.toInt) (hw : wr'.toInt = wr.toInt + 1) (hnx : nx'.toInt = nx.toInt + 1) (hf2 : 2 ≤ fm.toInt) (h1 : (j1 : Int) = fm.toInt - 1) (hb : (bs j1).toInt = wa.toInt) (hk : (fr j1).toInt = 4) (hs : s.toInt = 36) (hx : i2 = (pt j1).toNatClampNeg) (ht : t.toInt = sr.toInt + wr'.toInt) (hk2 : k.toInt = 5) (hpp : pp.toInt = i) (hb2 : b = wa) (hz : z.toInt = 0)
    (h2 : j2 = j1) (h3 : j3 = j1) (h4 : j4 = j1) (h5 : j5 = j1) (h6 : j6 = j1) :
    PQ1 0 0 nx' sr wr' fm wa (upd st i s) (vp_updL (vp_updL wt i v) i2 t) lv op jm (upd bs j2 b) (upd sg j3 z) (upd fr j4 k) (upd pt j5 pp) cn cc (upd pl j6 p1) tg ts ai' ∧ sr.toInt ≤ i2 := by
  have hbb := hq.z.b
  obtain ⟨h, g, B, a, S, E, F, W, e1, e2, e3, e4, hp, hpot, hwn, hh, hla⟩ := hq
  have hE9 := hh E hp.2.2.2.2.1.1 (Nat.le_refl E)
  obtain rfl : i = E := by omega
  obtain ⟨n, rfl⟩ : ∃ n, F = n + 2 := ⟨F - 2, by omega⟩
  obtain rfl : j1 = n + 1 := by omega
  subst h2 h3 h4 h5 h6 hb2
  obtain ⟨-, T, -, -, -, -, t5⟩ := hp.2.2.1 (n + 1) (by omega) (by omega)
  obtain ⟨q, q1, q2, -⟩ := t5 (by omega)
  have q2 := Nat.le_trans (PI_lo hp.1 hp.2.2.2.1 hp.2.2.2.2.1.1).2 q2
  have hpo := pot_new (sg := sg) (n := n + 1) hz
  rw [show n + 2 = n + 1 + 1 from rfl, pot_succ] at hpot
  refine ⟨⟨_, g, B, a, S, i + 1, n + 2, W, e1, by omega, e3, e4, PI_else (x := i2) hp (by omega) (by omega) hk hs (by rw [hx, clampN]; omega) (by omega) hk2 hpp e4 hz, ?_, by omega, hb_ext hh (by omega) (by omega), fun _ _ _ _ ho => by omega⟩, by rw [hx, clampN]; omega⟩
  rw [show n + 2 = n + 1 + 1 from rfl, hpo]
  split at hpot <;> omega
theorem PQ_comma (hq : PQ1 1 0 nx sr wr fm wa st wt lv op jm bs sg fr pt cn cc pl tg ts ai) (hnx : nx.toInt ≤ nx'.toInt) (hf2 : 2 ≤ fm.toInt) (h1 : (j1 : Int) = fm.toInt - 1) (hb : (bs j1).toInt = wa.toInt) (hk : (fr j1).toInt = 3) (hc1 : (cc j1).toInt = 1) (hc2 : c2.toInt = 2) (hb2 : b = wa) (hz : z.toInt = 0) (h2 : j2 = j1) (h3 : j3 = j1) (h4 : j4 = j1) (h5 : j5 = j1) :
    PQ1 0 0 nx' sr wr fm wa st wt lv op jm (upd bs j2 b) (upd sg j3 z) fr pt cn (upd cc j4 c2) (upd pl j5 p1) tg ts ai' := by
  obtain ⟨h, g, B, a, S, E, F, W, e1, e2, e3, e4, hp, hpot, hwn, hh, hla⟩ := hq
  have hE9 := hh E hp.2.2.2.2.1.1 (Nat.le_refl E)
  obtain ⟨n, rfl⟩ : ∃ n, F = n + 2 := ⟨F - 2, by omega⟩
  obtain rfl : j1 = n + 1 := by omega
  subst h2 h3 h4 h5 hb2
  have hpo := pot_new (sg := sg) (n := n + 1) hz
  rw [show n + 2 = n + 1 + 1 from rfl, pot_succ] at hpot
  refine ⟨h, g, _, a, S, E, n + 2, W, e1, e2, e3, e4, PI_comma hp (by omega) hk hc1 hc2 e4 hz, ?_, by omega, hb_same hh (by omega), fun _ _ _ _ ho => by omega⟩
  rw [show n + 2 = n + 1 + 1 from rfl, hpo]
  split at hpot <;> omega
theorem PQ_last (hq : PQ1 1 0 nx sr wr fm wa st wt lv op jm bs sg fr pt cn cc pl tg ts ai) (hf : fm.toInt = 1) (hfr : (fr 0).toInt = 0) (hpl : ¬ (pl 0).toInt = 0) (hai : ¬ (ai 0).toInt = 0) : 1 ≤ wr.toInt ∧ ((st (sr.toInt + wr.toInt - 1).toNat).toInt = 9 ∨ (st (sr.toInt + wr.toInt - 1).toNat).toInt = 11 ∨ (st (sr.toInt + wr.toInt - 1).toNat).toInt = 12) := by
  obtain ⟨h, g, B, a, S, E, F, W, e1, e2, e3, e4, hp, hpot, hwn, hh, hla⟩ := hq
  have hE9 := hh E hp.2.2.2.2.1.1 (Nat.le_refl E)
  obtain ⟨E', k1, k2, k3, k4⟩ := hla (by omega) hfr hpl hai rfl
  rw [show (sr.toInt + wr.toInt - 1).toNat = E' by omega]
  exact ⟨by omega, k3⟩
theorem PQ_assignV (hq : PQ1 1 0 nx sr wr fm wa st wt lv op jm bs sg fr pt cn cc pl tg ts ai) (hnx : nx.toInt ≤ nx'.toInt) (hf : fm.toInt = 1) (hfr : (fr 0).toInt = 0) (hpl : ¬ (pl 0).toInt = 0) (hai : ¬ (ai 0).toInt = 0) (hw : wr'.toInt = wr.toInt - 1) (hi : (i : Int) = sr.toInt + wr'.toInt) (hs : (st i).toInt = 9) (hk : k.toInt = 1) (hts : ts'.toInt = 38) (hb : b = wa) (hz : z.toInt = 0) (h1 : j1 = 0) (h2 : j2 = 0) (h3 : j3 = 0) (h4 : j4 = 0) :
    PQ1 0 0 nx' sr wr' fm wa st wt lv op jm (upd bs j1 b) (upd sg j2 z) (upd fr j3 k) pt cn cc (upd pl j4 p1) tg' ts' ai' := by
  obtain ⟨h, g, B, a, S, E, F, W, e1, e2, e3, e4, hp, hpot, hwn, hh, hla⟩ := hq
  have hE9 := hh E hp.2.2.2.2.1.1 (Nat.le_refl E)
  obtain rfl : F = 1 := by omega
  obtain ⟨E', k1, k2, k3, k4⟩ := hla (by omega) hfr hpl hai rfl
  subst k1
  obtain rfl : i = E' := by omega
  subst h1 h2 h3 h4 hb
  have hpo := pot_new (sg := sg) (n := 0) hz
  have hpn := pot_nn sg 1
  refine ⟨h, g, B, a, S, i, 1, W, e1, by omega, e3, e4, PI_assignV hp k4 k2 hs hfr hpl hk hts e4 hz, ?_, by omega, fun q a1 a2 => Int.le_trans (hh q a1 (by omega)) (by omega), fun _ _ _ _ ho => by omega⟩
  have : pot (upd sg 0 z) 1 = pot sg 0 := hpo
  rw [this]
  have : pot sg 0 = 0 := rfl
  omega
theorem PQ_assignP (hq : PQ1 1 0 nx sr wr fm wa st wt lv op jm bs sg fr pt cn cc pl tg ts ai) (hsr : sr.toInt ≤ 3510) (hnx0 : nx.toInt ≤ 40) (hnx : nx.toInt ≤ nx'.toInt) (hf : fm.toInt = 1) (hfr : (fr 0).toInt = 0) (hpl : ¬ (pl 0).toInt = 0) (hai : ¬ (ai 0).toInt = 0) (hw : wr'.toInt = wr.toInt) (hi : (i : Int) = sr.toInt + wr.toInt - 1) (hs9 : (st i).toInt = 11 ∨ (st i).toInt = 12) (hs : s.toInt = 39) (hv : v.toInt = tg'.toInt) (hk : k.toInt = 1) (hts : ts'.toInt = 40) (hb : b = wa) (hz : z.toInt = 0) (h1 : j1 = 0) (h2 : j2 = 0) (h3 : j3 = 0) (h4 : j4 = 0) :
    PQ1 0 0 nx' sr wr' fm wa (upd st i s) (vp_updL wt i v) lv op jm (upd bs j1 b) (upd sg j2 z) (upd fr j3 k) pt cn cc (upd pl j4 p1) tg' ts' ai' := by
  have hbb := hq.z.b
  obtain ⟨h, g, B, a, S, E, F, W, e1, e2, e3, e4, hp, hpot, hwn, hh, hla⟩ := hq
  have hE9 := hh E hp.2.2.2.2.1.1 (Nat.le_refl E)
  obtain rfl : F = 1 := by omega
  obtain ⟨E', k1, k2, k3, k4⟩ := hla (by omega) hfr hpl hai rfl
  subst k1
  obtain rfl : i = E' := by omega
  subst h1 h2 h3 h4 hb
  have hpo := pot_new (sg := sg) (n := 0) hz
  have hpn := pot_nn sg 1
  refine ⟨h, g, _, i, S, i + 1, 1, W, e1, by omega, e3, e4, PI_assignP hp k4 k2 (by omega) hs9 hs hv hfr hpl hk hts e4 hz, ?_, by omega, hb_same hh (by omega), fun _ _ _ _ ho => by omega⟩
  have : pot (upd sg 0 z) 1 = pot sg 0 := hpo
  rw [this]
  have : pot sg 0 = 0 := rfl
  omega
theorem PQ_doneL (hq : PQ1 1 0 nx sr wr fm wa st wt lv op jm bs sg fr pt cn cc pl tg ts ai) (hnx0 : nx.toInt ≤ 40) (hf : fm.toInt = 1) (hwa : wa.toInt = 0) (hfr : (fr 0).toInt = 0) : Prog st wt sr.toInt.toNat (sr.toInt + wr.toInt).toNat := by
  have hb := hq.z.b
  obtain ⟨h, g, B, a, S, E, F, W, e1, e2, e3, e4, hp, hpot, hwn, hh, hla⟩ := hq
  have hE9 := hh E hp.2.2.2.2.1.1 (Nat.le_refl E)
  obtain rfl : F = 1 := by omega
  obtain rfl : W = 0 := by omega
  rw [show sr.toInt.toNat = S by omega, show (sr.toInt + wr.toInt).toNat = E by omega]
  exact Prog_left (hb_same hh (by omega)) hp hfr (by omega)
theorem PQ_doneR (hq : PQ1 1 0 nx sr wr fm wa st wt lv op jm bs sg fr pt cn cc pl tg ts ai) (hnx0 : nx.toInt ≤ 40) (hf : fm.toInt = 1) (hwa : wa.toInt = 0) (hfr : (fr 0).toInt = 1) (hi : (i : Int) = sr.toInt + wr.toInt) (hw : wr'.toInt = wr.toInt + 1) (hv : v.toInt = tg.toInt) : Prog (upd st i ts) (vp_updL wt i v) sr.toInt.toNat (sr.toInt + wr'.toInt).toNat := by
  have hb := hq.z.b
  obtain ⟨h, g, B, a, S, E, F, W, e1, e2, e3, e4, hp, hpot, hwn, hh, hla⟩ := hq
  have hE9 := hh E hp.2.2.2.2.1.1 (Nat.le_refl E)
  obtain rfl : F = 1 := by omega
  obtain rfl : W = 0 := by omega
  obtain rfl : i = E := by omega
  rw [show sr.toInt.toNat = S by omega, show (sr.toInt + wr'.toInt).toNat = i + 1 by omega]
  exact Prog_right (hb_same hh (by omega)) hp hfr (by omega) hv
theorem PQ_left (hsr : sr.toInt = i) (hsr2 : sr.toInt ≤ 3510) (hwr : wr.toInt = 0) (hnx : nx.toInt = 0) (hwa : wa.toInt = 0) (hf' : fm'.toInt = 1) (h1 : j1 = 0) (h2 : j2 = 0) (h3 : j3 = 0) (h4 : j4 = 0) (hb : b.toInt = 0) (hz : z.toInt = 0) (hk : k.toInt = 0) :
    PQ1 0 0 nx sr wr fm' wa st wt lv op jm (upd bs j1 b) (upd sg j2 z) (upd fr j3 k) pt cn cc (upd pl j4 p1) tg ts ai := by
  subst h1 h2 h3 h4
  have hp := PI_left (S := i) (st := st) (wt := wt) (lv := lv) (op := op) (jm := jm) (bs := bs) (sg := sg) (fr := fr) (pt := pt) (cn := cn) (cc := cc) (pl := pl) (tg := tg) (ts := ts) hb hk hz (by omega)
  have hp := PI_strike (i := 0) (z := 0) hp (by decide +kernel)
  obtain ⟨⟨k1, k2, k3, k4, k5, k6, k7, k8, k9⟩, hr⟩ := hp
  refine ⟨_, _, _, _, i, i, 1, 0, hsr, by omega, hf', hwa, ⟨⟨k1, k2, k3, k4, k5, k6, k7, fun f hf => ?_, fun _ => ?_⟩, hr⟩, ?_, by omega, fun q _ _ => by show (0 : Int) ≤ _; omega, fun _ _ _ _ ho => by omega⟩
  · obtain rfl : f = 0 := by omega
    rw [upd_eq]; exact ⟨Or.inl hz, fun hc => absurd hz hc⟩
  · unfold lim; rw [if_neg (by omega)]; rfl
  · have : pot (upd sg 0 z) 1 = pot sg 0 := pot_new hz
    rw [this]
    have : pot sg 0 = 0 := rfl
    omega
end PR
