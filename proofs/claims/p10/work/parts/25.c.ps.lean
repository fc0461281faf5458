section PS
variable {o c : Int} {nx nx' sr wr wr' fm fm' wa wa' tg ts tg' ts' od : Int32} {st : Nat → Int32} {wt : Nat → Int64} {lv op jm bs sg fr pt cn cc pl ai ai' : Nat → Int32} {i j : Nat} {v : Int64}
theorem PQ_b0 (hq : PQ1 1 0 nx sr wr fm wa st wt lv op jm bs sg fr pt cn cc pl tg ts ai) (hf : fm.toInt = 1) (hj : (j : Int) = fm.toInt - 1) : (bs j).toInt = 0 := by
  obtain ⟨h, g, B, a, S, E, F, W, e1, e2, e3, e4, hp, hpot, hwn, hh, hla⟩ := hq
  obtain rfl : j = 0 := by omega
  exact hp.1.2.2.1
theorem PQ_doneL' (hq : PQ1 1 0 nx sr wr fm wa st wt lv op jm bs sg fr pt cn cc pl tg ts ai) (hnx0 : nx.toInt ≤ 40) (hf : fm.toInt = 1) (hwa : wa.toInt = 0) (hj : (j : Int) = fm.toInt - 1) (hfr : (fr j).toInt = 0) : Prog st wt sr.toInt.toNat (sr.toInt + wr.toInt).toNat := by
  obtain rfl : j = 0 := by omega
  exact PQ_doneL hq hnx0 hf hwa hfr
theorem PQ_doneR' (hq : PQ1 1 0 nx sr wr fm wa st wt lv op jm bs sg fr pt cn cc pl tg ts ai) (hnx0 : nx.toInt ≤ 40) (hf : fm.toInt = 1) (hwa : wa.toInt = 0) (hj : (j : Int) = fm.toInt - 1) (hfr : (fr j).toInt = 1) (hi : (i : Int) = sr.toInt + wr.toInt) (hw : wr'.toInt = wr.toInt + 1) (hv : v.toInt = tg.toInt) : Prog (upd st i ts) (vp_updL wt i v) sr.toInt.toNat (sr.toInt + wr'.toInt).toNat := by
  obtain rfl : j = 0 := by omega
  exact PQ_doneR hq hnx0 hf hwa hfr hi hw hv
theorem PQ_frI (hq : PQ1 1 0 nx sr wr fm wa st wt lv op jm bs sg fr pt cn cc pl tg ts ai) (h1 : (j : Int) = fm.toInt - 1) : (2 ≤ fm.toInt ∧ 2 ≤ (fr j).toInt ∧ (fr j).toInt ≤ 5 ∧ (3 ≤ (fr j).toInt → sr.toInt ≤ (pt j).toInt ∧ (pt j).toInt < sr.toInt + wr.toInt)) ∨ (fm.toInt = 1 ∧ 0 ≤ (fr j).toInt ∧ (fr j).toInt ≤ 1 ∧ (bs j).toInt = 0) := by
  have k := PQ_fr hq h1
  have b := hq.z.b
  by_cases e : fm.toInt = 1
  · exact Or.inr ⟨e, by have := k.2 e; omega, by have := k.2 e; omega, PQ_b0 hq e h1⟩
  · refine Or.inl ⟨by omega, (k.1 (by omega)).1, (k.1 (by omega)).2, fun h3 => ?_⟩
    have := PQ_pt hq (by omega) h1 h3
    omega
theorem PQ_jopen2 {j0 j1 j2 j3 j4 j7 : Nat} {s z z0 b k p1 pp : Int32} (hq : PQ1 1 0 nx sr wr fm wa st wt lv op jm bs sg fr pt cn cc pl tg ts ai) (hsr : sr.toInt ≤ 3510) (hnx0 : nx.toInt ≤ 40) (hi : (i : Int) = sr.toInt + wr.toInt) (hw : wr'.toInt = wr.toInt + 1) (hnx : nx'.toInt = nx.toInt + 1) (hf : fm.toInt < 5) (hf' : fm'.toInt = fm.toInt + 1) (h0 : (j0 : Int) = fm.toInt - 1) (hz0 : z0.toInt = 0)
    (h1 : (j1 : Int) = fm.toInt) (h2 : j2 = j1) (h3 : j3 = j1) (h4 : j4 = j1) (h7 : j7 = j1) (hb : b = wa) (hz : z.toInt = 0) (hpp : pp.toInt = i) (hk : (k.toInt = 4 ∧ s.toInt = 35) ∨ (k.toInt = 5 ∧ s.toInt = 37)) :
    PQ1 0 0 nx' sr wr' fm' wa (upd st i s) (vp_updL wt i v) lv op jm (upd bs j1 b) (upd sg j2 z) (upd fr j3 k) (upd pt j4 pp) cn cc (upd (upd pl j0 z0) j7 p1) tg ts ai' := by
  have kj := PQ_jopen (v := v) (p1 := p1) (ai' := ai') (nn := cn j1) (c2 := cc j1) (j5 := j1) (j6 := j1) (PQ_strike hq hz0 h0).z (Int.le_refl 0) hsr hnx0 hi hw hnx hf hf' h1 h2 h3 h4 rfl rfl h7 hb hz hpp (Or.inr hk)
  rw [upd_self, upd_self] at kj
  exact kj
end PS
