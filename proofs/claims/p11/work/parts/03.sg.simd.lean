/-! ===== the reader: signs and levels ===== -/
section SIM3
variable {tk tv ta sc : Nat → Int} {S n : Nat} {T N Pl : Int → Int} {Lt : Int → Int × Int} {Q : PSt → Prop} {c c0 c1 c2 c3 : PSt} {f w p0 g : Nat} {a a1 a2 b e x p l l1 d d1 cc how : Int} {m m1 m2 s : Bool} {k k1 k2 : IS} {r : GR}
/-- behind a chain: on to what its sign asks -/
theorem chb (hT : TOK tk tv ta sc n T N Pl Lt) (hf : xfr c1 = f + 1) (k1 : xer c1 = 0) (k2 : xdn c1 = 0) (k3 : xop c1 = 0) (k4 : (xnx c1 : Int) = a) (k5 : xnx c1 < n) (k12 : xcl c1 f = 0) (h1 : ¬ T a = 16174) (h2 : ¬ T a = 46) (hq : EE tk tv ta sc S Q (beh2 tk tv ta S (fluC S c1))) : EE tk tv ta sc S Q c1 := by
  subst k4
  have z1 := (hT.sg k5 (ch := 16174) (by decide))
  have z2 := (hT.sg k5 (ch := 46) (by decide))
  refine EE_b k1 k2 (by omega) k3 ?_
  unfold behC
  rw [show xfr c1 - 1 = f by omega, if_neg (by omega), if_neg (by omega)]
  exact hq
theorem red_top (hf : xfr c = f + 1) (h : xbs c f < (xwa c : Int) → xlv c (xwa c - 1) < x) : redC S x c = c := red_stop (by
  show ¬ (xbs c (xfr c - 1) < (xwa c : Int) ∧ x ≤ xlv c (xwa c - 1))
  rw [show xfr c - 1 = f by omega]
  rintro ⟨u, v⟩
  have := h u
  omega)
theorem S_sign_n (hT : TOK tk tv ta sc n T N Pl Lt) (h1 : ¬ T a = 45) (h2 : ¬ T a = 33) (h : Q5 tk tv ta sc S n T d a r) : Q4 tk tv ta sc S n T d a r := by
  intro Q c f hd hp ho hs hP hk
  refine h Q c f hd hp ho (fun _ => ⟨h1, h2⟩) (hk.mono (fun a1 m k hk c1 hc e1 e2 => ?_))
  obtain ⟨k1, k2, k3, k4, k5, k6, k7, k8, k9, k10, k11, k12, k13⟩ := hc
  have hf1 : xfr c1 = f + 1 := k6.1.trans hp.2.2.1
  refine chb hT hf1 k1 k2 k3 k4 k5 k12 e1 e2 ?_
  have eF : fluC S c1 = c1 := if_pos (by rw [show xfr c1 - 1 = f by omega]; exact k10.trans hs)
  rw [eF]
  have eR : redC S (5 + 1) c1 = c1 := red_top hf1 (fun u => by
    have b0 := k6.2.2.2.1
    have u2 : xbs c f ≤ ((xwa c1 - 1 : Nat) : Int) := by omega
    have z := hP.2.2.2.2 (xwa c1 - 1) u2 (by have := hP.2.2.1; omega)
    have z2 := (k6.2.1.2.2.2.1 (xwa c1 - 1) (by have := hP.2.2.1; omega)).1
    omega)
  refine hk c1 ⟨k1, k2, k3, k4, k5, k12, k10.trans hs, by rw [eR]; exact k6, by rw [eR]; exact k7, by rw [eR]; exact k8, by rw [eR]; exact k9, ⟨fun z => k11.trans z, fun z => ?_⟩⟩ ⟨fun j j1 j2 => by omega, fun j1 => by omega, e1, e2⟩
  rw [k13, k11]
  exact ⟨fun y => ⟨z, y⟩, fun y => y.2⟩
theorem sgn_in (hT : TOK tk tv ta sc n T N Pl Lt) (hp : PreC n f c a) (hs : xsg c f = 0) (h1 : T a = 45 ∨ T a = 33) (hb : b = a + 1) : ∃ C2, fstC tk tv ta sc S c = C2 ∧ PreC n f C2 b ∧ xop C2 = xop c ∧ xsg C2 f = (if T a = 45 then 30 else 31) ∧ xpl C2 f = 0 ∧ xwa C2 = xwa c ∧ xwr C2 = xwr c ∧ KP f (xwa c) (S + xwr c) c C2 := by
  obtain ⟨q1, q2, q3, q4, q5, q6, q7⟩ := id hp
  subst q5
  have n1 := hT.nx q6 (by omega)
  have ef : xfr c - 1 = f := by omega
  have z0 := (hT.li q6)
  have z3 := (hT.nm q6)
  have z4 := (hT.sg q6 (ch := 45) (by decide))
  have z5 := (hT.sg q6 (ch := 33) (by decide))
  obtain ⟨v, hv, eC⟩ : ∃ v : Int, v = (if T (xnx c : Int) = 45 then 30 else 31) ∧ fstC tk tv ta sc S c = (mkC (xfr c) (xwa c) (xnx c + 1) (xop c) (xer c) (xwh c) (xdn c) (xwr c) (xtg c) (xts c) (xfm c) (xbs c) (uz (xsg c) (xfr c - 1) v) (xpa c) (xcn c) (xck c) (xcl c) (uz (xpl c) (xfr c - 1) 0) (xam c) (xoo c) (xlv c) (xjm c) (xst c) (xwi c)) := by
    refine ⟨_, rfl, ?_⟩
    unfold fstC
    rw [if_neg (by omega), if_neg (by omega), if_pos ⟨by rw [ef]; exact hs, by omega⟩]
    have e9 : (if isS tk tv c 45 then (30 : Int) else 31) = if T (xnx c : Int) = 45 then 30 else 31 := by
      by_cases y : T (xnx c : Int) = 45
      · rw [if_pos (z4.mp y), if_pos y]
      · rw [if_neg (fun q => y (z4.mpr q)), if_neg y]
    rw [e9]
  rw [← hv]
  generalize fstC tk tv ta sc S c = G at *
  have g1 : xer G = xer c ∧ xdn G = xdn c ∧ xop G = xop c ∧ xnx G = xnx c + 1 ∧ xfr G = xfr c ∧ xwa G = xwa c ∧ xwr G = xwr c ∧ xcl G = xcl c := by
    subst eC; exact ⟨rfl, rfl, rfl, rfl, rfl, rfl, rfl, rfl⟩
  obtain ⟨g1, g2, g3, g4, g5, g6, g7, g8⟩ := g1
  have w1 : xsg G f = v := by subst eC; show uz (xsg c) (xfr c - 1) v f = v; rw [ef, uz_eq]
  have w2 : xpl G f = 0 := by subst eC; show uz (xpl c) (xfr c - 1) 0 f = 0; rw [ef, uz_eq]
  have w3 : KQ f (xwa c) (S + xwr c) c G := by
    subst eC
    refine ⟨rfl, rfl, fun i hi => ⟨?_, ?_, ?_, ?_, ?_, ?_, ?_, ?_, ?_⟩, fun i hi => ⟨rfl, rfl, rfl⟩, fun i hi => ⟨rfl, rfl⟩⟩
    all_goals first | exact uz_ne (show ¬ i = xfr c - 1 by omega) | rfl
  have w4 : FRB f c G := by subst eC; exact ⟨rfl, rfl, rfl, rfl, rfl⟩
  exact ⟨G, rfl, ⟨g1.trans q1, g2.trans q2, g5.trans q3, q4, by omega, by omega, by rw [g8]; exact q7⟩, g3, w1, w2, g6, g7, ⟨g5, w3, w4⟩⟩
theorem S_sign_e (hT : TOK tk tv ta sc n T N Pl Lt) (h1 : T a = 45 ∨ T a = 33) (hb : b = a + 1) (h : Q5 tk tv ta sc S n T d b (.inr (x, p))) : Q4 tk tv ta sc S n T d a (.inr (x, p)) := by
  intro Q c f hd hp ho hs hP hk
  obtain ⟨C2, z1, z2, z3, z4, z5, z6, z7, z8⟩ := sgn_in (S := S) hT hp hs h1 hb
  refine EE_f hp.1 hp.2.1 (by have := hp.2.2.1; omega) ho ?_
  rw [z1]
  exact h Q C2 f hd z2 (by rw [z3]; exact ho) (fun y => by rw [z4] at y; split at y <;> omega) hk
theorem S_sign_o (hT : TOK tk tv ta sc n T N Pl Lt) (h1 : T a = 45 ∨ T a = 33) (hb : b = a + 1) (h : Q5 tk tv ta sc S n T d b (.inl (a1, m, k))) : Q4 tk tv ta sc S n T d a (.inl (a1, false, k ++ [(if T a = 45 then 30 else 31, 0)])) := by
  intro Q c f hd hp ho hs hP hk
  obtain ⟨C2, z1, z2, z3, z4, z5, z6, z7, z8⟩ := sgn_in (S := S) hT hp hs h1 hb
  refine EE_f hp.1 hp.2.1 (by have := hp.2.2.1; omega) ho ?_
  rw [z1]
  refine h Q C2 f hd z2 (by rw [z3]; exact ho) (fun y => by rw [z4] at y; split at y <;> omega) (fun c1 hc e1 e2 => ?_)
  obtain ⟨k1, k2, k3, k4, k5, k6, k7, k8, k9, k10, k11, k12, k13⟩ := hc
  rw [z6, z7] at k6
  rw [z6] at k7
  rw [z7] at k8 k9
  have hf1 : xfr c1 = f + 1 := k6.1.trans z2.2.2.1
  have ef : xfr c1 - 1 = f := by omega
  refine chb hT hf1 k1 k2 k3 k4 k5 k12 e1 e2 ?_
  have sne : ¬ xsg c1 f = 0 := by rw [k10, z4]; split <;> decide
  have kk := z8.tr k6 (Nat.le_refl _) (Nat.le_refl _)
  have eF : fluC S c1 = (fun c => (mkC (xfr c) (xwa c) (xnx c) (xop c) (xer c) (xwh c) (xdn c) (xwr c + 1) (xtg c) (xts c) (xfm c) (xbs c) (uz (xsg c) (xfr c - 1) 0) (xpa c) (xcn c) (xck c) (xcl c) (xpl c) (xam c) (xoo c) (xlv c) (xjm c) (uz (xst c) (S + xwr c) (xsg c (xfr c - 1))) (uz (xwi c) (S + xwr c) 0))) c1 := if_neg (by rw [ef]; exact sne)
  generalize hF : fluC S c1 = F at *
  have kF : KP f (xwa c) (S + xwr c) c1 F := by
    subst eF
    refine ⟨rfl, ⟨rfl, rfl, fun i hi => ⟨?_, ?_, ?_, ?_, ?_, ?_, ?_, ?_, ?_⟩, fun i hi => ⟨rfl, rfl, rfl⟩, fun i hi => ⟨?_, ?_⟩⟩, ⟨rfl, rfl, rfl, rfl, rfl⟩⟩
    all_goals first | rfl | exact uz_ne (by omega)
  have g1 : xer F = xer c1 ∧ xdn F = xdn c1 ∧ xop F = xop c1 ∧ xnx F = xnx c1 ∧ xcl F = xcl c1 ∧ xwa F = xwa c1 ∧ xwr F = xwr c1 + 1 ∧ xpl F = xpl c1 ∧ xlv F = xlv c1 ∧ xbs F = xbs c1 := by subst eF; exact ⟨rfl, rfl, rfl, rfl, rfl, rfl, rfl, rfl, rfl, rfl⟩
  obtain ⟨g1, g2, g3, g4, g5, g6, g7, g8, g9, g10⟩ := g1
  have g11 : xsg F f = 0 := by subst eF; show uz (xsg c1) (xfr c1 - 1) 0 f = 0; rw [ef, uz_eq]
  have g12 : xst F (S + xwr c1) = xsg c1 f ∧ xwi F (S + xwr c1) = 0 := by subst eF; exact ⟨by show uz (xst c1) (S + xwr c1) (xsg c1 (xfr c1 - 1)) (S + xwr c1) = _; rw [uz_eq, ef], uz_eq⟩
  have g13 : ∀ j, ¬ j = S + xwr c1 → xst F j = xst c1 j ∧ xwi F j = xwi c1 j := by subst eF; exact fun j hj => ⟨uz_ne hj, uz_ne hj⟩
  have kP := kk.tr kF (Nat.le_refl _) (Nat.le_refl _)
  have hfF : xfr F = f + 1 := kF.1.trans hf1
  have eR : redC S (5 + 1) F = F := red_top hfF (fun u => by
    have b0 := kP.2.2.2.1
    have u2 : xbs c f ≤ ((xwa F - 1 : Nat) : Int) := by omega
    have z := hP.2.2.2.2 (xwa F - 1) u2 (by have := hP.2.2.1; omega)
    have z2 := (kP.2.1.2.2.2.1 (xwa F - 1) (by have := hP.2.2.1; omega)).1
    omega)
  refine hk F ⟨g1.trans k1, g2.trans k2, g3.trans k3, by rw [g4]; exact k4, by omega, by rw [g5]; exact k12, g11, by rw [eR]; exact kP, by rw [eR]; omega, ?_, ?_, ⟨fun _ => ?_, fun _ => ?_⟩⟩ ⟨fun j j1 j2 => by omega, fun j1 => by omega, e1, e2⟩
  · rw [eR, List.length_append]
    show xwr F = xwr c + (k.length + 1)
    omega
  · rw [eR]
    refine SEG.app.mpr ⟨k9.keep (fun j j1 j2 => g13 j (by omega)), ?_⟩
    rw [show S + xwr c + k.length = S + xwr c1 by omega]
    refine SEG.one (g12.1.trans (k10.trans z4)) (g12.2.trans (tgt_n (y := (if T a = 45 then 30 else 31, 0)) ?_).symm)
    show ¬ isJ (if T a = 45 then 30 else 31)
    split <;> decide
  · rw [g8, k11, z5]
  · rw [g8, k11, z5]; simp
/-- a level's reading taken as one of the level below -/
theorem LMid.dn (hP : PreP f l c0) (h : LMid S n (l + 1) f c0 c1 a m k) : LMid S n l f c0 c1 a m k := by
  obtain ⟨k1, k2, k3, k4, k5, k6, k7, k8, k9, k10, k11, k12⟩ := h
  have e : redC S (l + 1) c1 = redC S (l + 1 + 1) c1 := by
    rw [← red_red (t2 := l + 1 + 1) (by omega)]
    refine red_top (f := f) (k8.1.trans hP.1) (fun u => ?_)
    have b0 := k8.2.2.2.1
    have z := hP.2.2.2.2 (xwa (redC S (l + 1 + 1) c1) - 1) (by omega) (by have := hP.2.2.1; omega)
    have z2 := (k8.2.1.2.2.2.1 (xwa (redC S (l + 1 + 1) c1) - 1) (by have := hP.2.2.1; omega)).1
    omega
  unfold LMid
  rw [e]
  exact ⟨k1, k2, k3, k4, k5, k6, k7, k8, k9, k10, k11, k12⟩
theorem PreP.up (h : PreP f l c) (hl : l1 = l + 1) : PreP f l1 c := ⟨h.1, h.2.1, h.2.2.1, h.2.2.2.1, fun i h1 h2 => by have := h.2.2.2.2 i h1 h2; omega⟩
theorem S_level_s (hl : 4 < l) (h : Q4 tk tv ta sc S n T d a r) : Q2 tk tv ta sc S n T l d a r := by
  intro h0 h5 Q c f hd hp ho hs hP hk
  obtain rfl : l = 5 := by omega
  exact h Q c f hd hp ho hs hP hk
theorem S_level_e (hl0 : 0 ≤ l) (hl : l ≤ 4) (hl1 : l1 = l + 1) (h : Q2 tk tv ta sc S n T l1 d a (.inr (x, p))) : Q2 tk tv ta sc S n T l d a (.inr (x, p)) := by
  intro h0 h5 Q c f hd hp ho hs hP hk
  exact h (by omega) (by omega) Q c f hd hp ho hs (hP.up hl1) hk
theorem S_level_l (hl0 : 0 ≤ l) (hl : l ≤ 4) (hl1 : l1 = l + 1) (h : Q2 tk tv ta sc S n T l1 d a (.inl (a1, m, k))) (h2 : Q3 tk tv ta sc S n T l m k d a1 r) : Q2 tk tv ta sc S n T l d a r := by
  intro h0 h5 Q c f hd hp ho hs hP hk
  subst hl1
  refine h (by omega) (by omega) Q c f hd hp ho hs (hP.up rfl) (fun c1 hc hx => ?_)
  refine h2 hl0 hl Q c c1 f hd hP ?_ hx hk
  split
  · rename_i e
    subst e
    exact hc
  · exact hc.dn hP
theorem S_lvl_0 (h : ¬ LVO (T a) = l) : Q3 tk tv ta sc S n T l m k d a (.inl (a, m, k)) := by
  intro hl0 hl Q c0 c1 f hd hP hc hx hk
  refine hk c1 ?_ ⟨fun j j1 j2 j3 => ?_, fun j1 j2 => ?_, hx.2.2⟩
  · by_cases e : l = 2
    · subst e
      exact LMid.dn hP hc
    · rw [if_neg e] at hc; exact hc
  · by_cases e : j = l
    · subst e; exact h
    · exact hx.1 j (by omega) j2 j3
  · exact hx.2.1 (by omega) j2
/-- a sign between two operands is laid by -/
theorem bin_go (hT : TOK tk tv ta sc n T N Pl Lt) (hl0 : 0 ≤ l) (hl : l ≤ 4) (hP : PreP f l c0) (hc : LMid S n (if l = 2 then 3 else l) f c0 c1 a m k) (hv : LVO (T a) = l) (hb : b = a + 1) :
    ∃ C2, beh2 tk tv ta S c1 = C2 ∧ PreC n f C2 b ∧ ¬ xop C2 = 0 ∧ xsg C2 f = 0 ∧ PreP f (l + 1) C2 ∧ xwa C2 = xwa c0 + 1 ∧ xlv C2 (xwa c0) = l + 1 ∧ xpl C2 f = 0 ∧ KP f (xwa c0) (S + xwr c0) c0 C2 ∧ SEG C2 (S + xwr c0) k ∧
      ((2 ≤ l ∧ xwr C2 = xwr c0 + k.length ∧ xoo C2 (xwa c0) = stp9 (T a)) ∨ (l ≤ 1 ∧ xwr C2 = xwr c0 + k.length + 1 ∧ xjm C2 (xwa c0) = ((S + (xwr c0 + k.length) : Nat) : Int) ∧ xst C2 (S + (xwr c0 + k.length)) = if l = 1 then 32 else 33)) := by
  obtain ⟨k1, k2, k3, k4, k5, k6, k7, k8, k9, k10, k11, k12⟩ := hc
  have hlev := hT.lev k5 k4
  have hL : thr (l + 1) = (if l = 2 then 3 else l) + 1 := by
    unfold thr
    (repeat' split) <;> omega
  have eR : rd0 tk tv S c1 = redC S ((if l = 2 then 3 else l) + 1) c1 := by
    unfold rd0
    rw [hlev, hv, if_pos (by omega), hL]
  generalize hR : redC S ((if l = 2 then 3 else l) + 1) c1 = R at *
  have g1 : xer R = 0 := by subst hR; rw [red_er]; exact k1
  have g2 : xdn R = 0 := by subst hR; rw [red_dn]; exact k2
  have g4 : (xnx R : Int) = a := by subst hR; rw [red_nx]; exact k4
  have g5 : xnx R < n := by subst hR; rw [red_nx]; exact k5
  have g6 : xcl R f = 0 := by subst hR; rw [red_cl]; exact k6
  have g7 : xsg R f = 0 := by subst hR; rw [red_sg]; exact k7
  have hfR : xfr R = f + 1 := k8.1.trans hP.1
  have b0 := k8.2.2.2.1
  have hbs := hP.2.2.1
  have hbw := hP.2.2.2.1
  have hlvR : ∀ i : Nat, xbs R f ≤ (i : Int) → i < xwa R → xlv R i ≤ l := fun i h1 h2 => by
    have z := hP.2.2.2.2 i (by omega) (by omega)
    have z2 := (k8.2.1.2.2.2.1 i (by omega)).1
    omega
  have hTa : tk (xnx R) = 5 ∧ tv (xnx R) = T a := by
    have z := hT.2.2 _ g5
    rw [g4] at z
    by_cases e5 : tk (xnx R) = 5
    · exact ⟨e5, by rw [z.1, if_pos e5]⟩
    · exfalso
      rw [z.1, if_neg e5] at hv
      have : LVO (if tk (xnx R) = 3 then 2 else if tk (xnx R) = 0 then 0 else 1) = -1 := LVO_s (by (repeat' split) <;> omega)
      omega
  have n1 : xnx R + 1 < n := hT.nx g5 (by
    rw [g4]; intro e
    rw [e, LVO_s (by decide)] at hv
    omega)
  have ef : xfr R - 1 = f := by omega
  have eB : beh2 tk tv ta S c1 = binC tv S R (l + 1) := by
    unfold beh2
    rw [hlev, hv, eR]
    unfold beh3
    refine if_pos ⟨by omega, ?_⟩
    rintro ⟨u1, u2⟩
    rw [cmpd, ef] at u2
    have := hlvR (xwa R - 1) (by omega) (by omega)
    omega
  refine ⟨_, rfl, ?_⟩
  rw [eB]
  by_cases h2 : 2 < l + 1
  · have eC : binC tv S R (l + 1) = (fun (c : PSt) (l : Int) => (mkC (xfr c) (xwa c + 1) (xnx c + 1) (1) (xer c) (xwh c) (xdn c) (xwr c) (xtg c) (xts c) (xfm c) (xbs c) (xsg c) (xpa c) (xcn c) (xck c) (xcl c) (uz (xpl c) (xfr c - 1) 0) (xam c) (uz (xoo c) (xwa c) (stp9 (tv (xnx c)))) (uz (xlv c) (xwa c) l) (uz (xjm c) (xwa c) 0) (xst c) (xwi c))) R (l + 1) := if_pos h2
    generalize binC tv S R (l + 1) = C2 at *
    have kC : KP f (xwa R) (S + xwr R) R C2 := by
      subst eC
      refine ⟨rfl, ⟨rfl, rfl, fun i hi => ⟨?_, ?_, ?_, ?_, ?_, ?_, ?_, ?_, ?_⟩, fun i hi => ⟨?_, ?_, ?_⟩, fun i hi => ⟨rfl, rfl⟩⟩, ⟨rfl, rfl, rfl, rfl, rfl⟩⟩
      all_goals first | rfl | exact uz_ne (by omega)
    have j0 : xlv C2 (xwa R) = l + 1 := by subst eC; exact uz_eq
    have j1 : xoo C2 (xwa R) = stp9 (T a) := by subst eC; rw [← hTa.2]; exact uz_eq
    have j2 : xpl C2 f = 0 := by subst eC; show uz (xpl R) (xfr R - 1) 0 f = 0; rw [ef, uz_eq]
    have j3 : xer C2 = xer R ∧ xdn C2 = xdn R ∧ xnx C2 = xnx R + 1 ∧ xop C2 = 1 ∧ xcl C2 = xcl R ∧ xsg C2 = xsg R ∧ xwa C2 = xwa R + 1 ∧ xwr C2 = xwr R ∧ xst C2 = xst R ∧ xwi C2 = xwi R := by subst eC; exact ⟨rfl, rfl, rfl, rfl, rfl, rfl, rfl, rfl, rfl, rfl⟩
    obtain ⟨i1, i2, i3, i4, i5, i6, i7, i8, i9, i10⟩ := j3
    have kk := k8.tr kC (by omega) (by omega)
    refine ⟨⟨i1.trans g1, i2.trans g2, kC.1.trans hfR, hP.2.1, by omega, by omega, by rw [i5]; exact g6⟩, by rw [i4]; decide, by rw [i6]; exact g7, ⟨kC.1.trans hfR, hP.2.1, by have := kk.2.2.2.1; omega, by have := kk.2.2.2.1; omega, fun i u1 u2 => ?_⟩, by omega, by rw [← k9]; exact j0, j2, kk, k11.keep (fun j _ _ => by rw [i9, i10]; exact ⟨rfl, rfl⟩), Or.inl ⟨by omega, by omega, by rw [← k9]; exact j1⟩⟩
    by_cases u : i = xwa R
    · subst u; omega
    · have z := hlvR i (by have := kk.2.2.2.1; omega) (by omega)
      have z2 := (kC.2.1.2.2.2.1 i (by omega)).1
      omega
  · have eC : binC tv S R (l + 1) = (fun (c : PSt) (l : Int) => emitC S (mkC (xfr c) (xwa c + 1) (xnx c + 1) (1) (xer c) (xwh c) (xdn c) (xwr c) (xtg c) (xts c) (xfm c) (xbs c) (xsg c) (xpa c) (xcn c) (xck c) (xcl c) (uz (xpl c) (xfr c - 1) 0) (xam c) (uz (xoo c) (xwa c) 0) (uz (xlv c) (xwa c) l) (uz (xjm c) (xwa c) (S + xwr c : Nat)) (xst c) (xwi c)) (if l = 2 then 32 else 33) 0) R (l + 1) := if_neg h2
    generalize binC tv S R (l + 1) = C2 at *
    have kC : KP f (xwa R) (S + xwr R) R C2 := by
      subst eC
      refine ⟨rfl, ⟨rfl, rfl, fun i hi => ⟨?_, ?_, ?_, ?_, ?_, ?_, ?_, ?_, ?_⟩, fun i hi => ⟨?_, ?_, ?_⟩, fun i hi => ⟨?_, ?_⟩⟩, ⟨rfl, rfl, rfl, rfl, rfl⟩⟩
      all_goals first | rfl | exact uz_ne (by omega) | exact uz_ne (show ¬ _ = S + xwr R by omega)
    have j0 : xlv C2 (xwa R) = l + 1 := by subst eC; exact uz_eq
    have j1 : xjm C2 (xwa R) = ((S + xwr R : Nat) : Int) := by subst eC; exact uz_eq
    have j2 : xpl C2 f = 0 := by subst eC; show uz (xpl R) (xfr R - 1) 0 f = 0; rw [ef, uz_eq]
    have j4 : xst C2 (S + xwr R) = if l + 1 = 2 then 32 else 33 := by subst eC; exact uz_eq
    have j3 : xer C2 = xer R ∧ xdn C2 = xdn R ∧ xnx C2 = xnx R + 1 ∧ xop C2 = 1 ∧ xcl C2 = xcl R ∧ xsg C2 = xsg R ∧ xwa C2 = xwa R + 1 ∧ xwr C2 = xwr R + 1 := by subst eC; exact ⟨rfl, rfl, rfl, rfl, rfl, rfl, rfl, rfl⟩
    obtain ⟨i1, i2, i3, i4, i5, i6, i7, i8⟩ := j3
    have kk := k8.tr kC (by omega) (by omega)
    refine ⟨⟨i1.trans g1, i2.trans g2, kC.1.trans hfR, hP.2.1, by omega, by omega, by rw [i5]; exact g6⟩, by rw [i4]; decide, by rw [i6]; exact g7, ⟨kC.1.trans hfR, hP.2.1, by have := kk.2.2.2.1; omega, by have := kk.2.2.2.1; omega, fun i u1 u2 => ?_⟩, by omega, by rw [← k9]; exact j0, j2, kk, k11.keep (fun j q1 q2 => kC.2.1.2.2.2.2 j (by omega)), Or.inr ⟨by omega, by omega, ?_, ?_⟩⟩
    · by_cases u : i = xwa R
      · subst u; omega
      · have z := hlvR i (by have := kk.2.2.2.1; omega) (by omega)
        have z2 := (kC.2.1.2.2.2.1 i (by omega)).1
        omega
    · rw [← k9, j1, k10]
    · rw [← k10, j4]
      (repeat' split) <;> omega
/-- the right operand read, the sign is taken -/
theorem bin_end {C2 : PSt} (hl0 : 0 ≤ l) (hP : PreP f l c0) (z3 : xwa C2 = xwa c0 + 1) (z4 : xlv C2 (xwa c0) = l + 1) (z5 : xpl C2 f = 0) (z6 : KP f (xwa c0) (S + xwr c0) c0 C2) (z7 : SEG C2 (S + xwr c0) k)
    (z8 : (2 ≤ l ∧ xwr C2 = xwr c0 + k.length ∧ xoo C2 (xwa c0) = stp9 (T a)) ∨ (l ≤ 1 ∧ xwr C2 = xwr c0 + k.length + 1 ∧ xjm C2 (xwa c0) = ((S + (xwr c0 + k.length) : Nat) : Int) ∧ xst C2 (S + (xwr c0 + k.length)) = if l = 1 then 32 else 33))
    (hc : LMid S n (l + 1) f C2 c3 a1 m1 k1) : LMid S n l f c0 c3 a1 false (cmb l (T a) k k1) ∧ (l = 2 → cmpd (redC S 4 c3)) := by
  obtain ⟨k1_, k2_, k3, k4, k5, k6, k7, k8, k9, k10, k11, k12⟩ := hc
  have b0 := z6.2.2.2.1
  have hbs := hP.2.2.1
  have hbw := hP.2.2.2.1
  have e1 : redC S (l + 1) c3 = redC S (l + 1) (redC S (l + 1 + 1) c3) := (red_red (by omega)).symm
  generalize hR : redC S (l + 1 + 1) c3 = R at *
  have hfR : xfr R = f + 1 := (k8.1.trans z6.1).trans hP.1
  have b1 := k8.2.2.2.1
  have lvR := (k8.2.1.2.2.2.1 (xwa c0) (by omega))
  have ef : xfr R - 1 = f := by omega
  have wR : xwa R - 1 = xwa c0 := by omega
  have cR : canP (l + 1) R := ⟨by rw [ef]; omega, by rw [wR]; omega⟩
  have e2 : redC S (l + 1) R = popC S R := by
    rw [red_go (by omega) cR]
    have hfp : xfr (popC S R) = f + 1 := pop_fr.trans hfR
    refine red_top hfp (fun u => ?_)
    have u1 : xbs (popC S R) = xbs R := pop_bs
    have u2 : xlv (popC S R) = xlv R := pop_lv
    rw [pop_wa] at u ⊢
    rw [u1] at u
    rw [u2, wR]
    have y := hP.2.2.2.2 (xwa c0 - 1) (by omega) (by omega)
    have y2 := (k8.2.1.2.2.2.1 (xwa c0 - 1) (by omega)).1
    have y3 := (z6.2.1.2.2.2.1 (xwa c0 - 1) (by omega)).1
    omega
  rw [e2] at e1
  have kk := z6.tr k8 (by omega) (by omega)
  have r1 : xpl c3 f = 0 := k12.1 z5
  have hcm : l = 2 → cmpd (redC S 4 c3) := by
    intro h2
    subst h2
    have e9 : redC S 4 c3 = R := hR
    rw [e9, cmpd, ef, wR]
    exact ⟨by omega, by omega⟩
  refine ⟨?_, hcm⟩
  unfold LMid
  rw [e1]
  have hFL : FL f c0 c3 false := ⟨fun _ => r1, fun _ => by rw [r1]; simp⟩
  rcases z8 with ⟨y1, y2, y3⟩ | ⟨y1, y2, y3, y4⟩
  · have eP : popC S R = (fun c => emitC S (mkC (xfr c) (xwa c - 1) (xnx c) (xop c) (xer c) (xwh c) (xdn c) (xwr c) (xtg c) (xts c) (xfm c) (xbs c) (xsg c) (xpa c) (xcn c) (xck c) (xcl c) (xpl c) (xam c) (xoo c) (xlv c) (xjm c) (xst c) (xwi c)) (xoo c (xwa c - 1)) 0) R := if_neg (by rw [wR]; omega)
    have kP : KQ (f + 1) (xwa c0) (S + xwr R) R (popC S R) := by
      rw [eP]
      refine ⟨rfl, rfl, fun i hi => ⟨?_, ?_, ?_, ?_, ?_, ?_, ?_, ?_, ?_⟩, fun i hi => ⟨rfl, rfl, rfl⟩, fun i hi => ⟨?_, ?_⟩⟩
      all_goals first | rfl | exact uz_ne (show ¬ i = S + xwr R by omega)
    have s1 : xst (popC S R) (S + xwr R) = stp9 (T a) := by
      rw [eP]
      show uz (xst R) (S + xwr R) (xoo R (xwa R - 1)) (S + xwr R) = _
      rw [uz_eq, wR, lvR.2.1, y3]
    have s2 : xwi (popC S R) (S + xwr R) = 0 := by
      rw [eP]; exact uz_eq
    have kp : KP f (xwa c0) (S + xwr R) R (popC S R) := kP.kp pop_fr
    refine ⟨k1_, k2_, k3, k4, k5, k6, k7, kk.tr kp (Nat.le_refl _) (by omega), by rw [pop_wa]; omega, ?_, ?_, hFL⟩
    · rw [pop_wr]
      unfold cmb
      rw [if_neg (by omega), List.length_append, List.length_append]
      show _ = xwr c0 + (k.length + (k1.length + 1))
      omega
    · unfold cmb
      rw [if_neg (by omega)]
      refine SEG.app.mpr ⟨z7.keep (fun j j1 j2 => ?_), SEG.app.mpr ⟨?_, ?_⟩⟩
      · have w1 := k8.2.1.2.2.2.2 j (by omega)
        have w2 := kP.2.2.2.2 j (by omega)
        exact ⟨w2.1.trans w1.1, w2.2.trans w1.2⟩
      · rw [show S + xwr c0 + k.length = S + xwr C2 by omega]
        exact k11.keep (fun j j1 j2 => kP.2.2.2.2 j (by omega))
      · rw [show S + xwr c0 + k.length + k1.length = S + xwr R by omega]
        refine SEG.one s1 (s2.trans (tgt_n (y := (stp9 (T a), 0)) ?_).symm)
        show ¬ isJ (stp9 (T a))
        unfold stp9
        (repeat' split) <;> decide
  · have eP : popC S R = (fun c => patC (emitC S (mkC (xfr c) (xwa c - 1) (xnx c) (xop c) (xer c) (xwh c) (xdn c) (xwr c) (xtg c) (xts c) (xfm c) (xbs c) (xsg c) (xpa c) (xcn c) (xck c) (xcl c) (xpl c) (xam c) (xoo c) (xlv c) (xjm c) (xst c) (xwi c)) 34 0) (xjm c (xwa c - 1)) (S + (xwr c + 1) : Nat)) R := if_pos (by rw [wR]; omega)
    have jR : xjm R (xwa R - 1) = ((S + (xwr c0 + k.length) : Nat) : Int) := by rw [wR, lvR.2.2, y3]
    have kP : KQ (f + 1) (xwa c0) (S + (xwr c0 + k.length)) R (popC S R) := by
      rw [eP]
      refine ⟨rfl, rfl, fun i hi => ⟨?_, ?_, ?_, ?_, ?_, ?_, ?_, ?_, ?_⟩, fun i hi => ⟨rfl, rfl, rfl⟩, fun i hi => ⟨?_, ?_⟩⟩
      all_goals first | rfl | skip
      · exact uz_ne (show ¬ i = S + xwr R by omega)
      · show uz (uz (xwi R) (S + xwr R) 0) (xjm R (xwa R - 1)).toNat _ i = _
        rw [jR, show ((S + (xwr c0 + k.length) : Nat) : Int).toNat = S + (xwr c0 + k.length) from rfl, uz_ne (by omega), uz_ne (by omega)]
    have s0 : ∀ j, ¬ j = S + xwr R → ¬ j = S + (xwr c0 + k.length) → xst (popC S R) j = xst R j ∧ xwi (popC S R) j = xwi R j := by
      intro j h1 h2
      rw [eP]
      refine ⟨uz_ne h1, ?_⟩
      show uz (uz (xwi R) (S + xwr R) 0) (xjm R (xwa R - 1)).toNat _ j = _
      rw [jR, show ((S + (xwr c0 + k.length) : Nat) : Int).toNat = S + (xwr c0 + k.length) from rfl, uz_ne h2, uz_ne h1]
    have s1 : xst (popC S R) (S + xwr R) = 34 ∧ xwi (popC S R) (S + xwr R) = 0 := by
      rw [eP]
      refine ⟨uz_eq, ?_⟩
      show uz (uz (xwi R) (S + xwr R) 0) (xjm R (xwa R - 1)).toNat _ (S + xwr R) = _
      rw [jR, show ((S + (xwr c0 + k.length) : Nat) : Int).toNat = S + (xwr c0 + k.length) from rfl, uz_ne (by omega), uz_eq]
    have s2 : xst (popC S R) (S + (xwr c0 + k.length)) = (if l = 1 then 32 else 33) ∧ xwi (popC S R) (S + (xwr c0 + k.length)) = ((S + (xwr R + 1) : Nat) : Int) := by
      rw [eP]
      refine ⟨?_, ?_⟩
      · show uz (xst R) (S + xwr R) 34 (S + (xwr c0 + k.length)) = _
        rw [uz_ne (by omega), (k8.2.1.2.2.2.2 (S + (xwr c0 + k.length)) (by omega)).1, y4]
      · show uz (uz (xwi R) (S + xwr R) 0) (xjm R (xwa R - 1)).toNat _ (S + (xwr c0 + k.length)) = _
        rw [jR, show ((S + (xwr c0 + k.length) : Nat) : Int).toNat = S + (xwr c0 + k.length) from rfl, uz_eq]
    have kp : KP f (xwa c0) (S + (xwr c0 + k.length)) R (popC S R) := kP.kp pop_fr
    refine ⟨k1_, k2_, k3, k4, k5, k6, k7, kk.tr kp (Nat.le_refl _) (by omega), by rw [pop_wa]; omega, ?_, ?_, hFL⟩
    · rw [pop_wr]
      unfold cmb
      rw [if_pos (by omega), List.length_append, List.length_cons, List.length_append]
      show _ = xwr c0 + (k.length + (k1.length + 1 + 1))
      omega
    · unfold cmb
      rw [if_pos (by omega)]
      refine SEG.app.mpr ⟨z7.keep (fun j j1 j2 => ?_), ?_, ?_, SEG.app.mpr ⟨?_, ?_⟩⟩
      · have w1 := k8.2.1.2.2.2.2 j (by omega)
        have w2 := kP.2.2.2.2 j (by omega)
        exact ⟨w2.1.trans w1.1, w2.2.trans w1.2⟩
      · rw [show S + xwr c0 + k.length = S + (xwr c0 + k.length) by omega]; exact s2.1
      · rw [show S + xwr c0 + k.length = S + (xwr c0 + k.length) by omega, s2.2, tgt_j (by show isJ (if l = 1 then 32 else 33); split <;> decide)]
        show _ = ((S + (xwr c0 + k.length) : Nat) : Int) + ((k1.length : Int) + 2)
        omega
      · rw [show S + xwr c0 + k.length + 1 = S + xwr C2 by omega]
        exact k11.keep (fun j j1 j2 => s0 j (by omega) (by omega))
      · rw [show S + xwr c0 + k.length + 1 + k1.length = S + xwr R by omega]
        exact SEG.one s1.1 (s1.2.trans (tgt_n (y := (34, 0)) (show ¬ isJ 34 by decide)).symm)
theorem S_lvl_e (hT : TOK tk tv ta sc n T N Pl Lt) (hl0 : 0 ≤ l) (hl : l ≤ 4) (hv : LVO (T a) = l) (hl1 : l1 = l + 1) (hb : b = a + 1) (h : Q2 tk tv ta sc S n T l1 d b (.inr (x, p))) : Q3 tk tv ta sc S n T l m k d a (.inr (x, p)) := by
  intro _ _ Q c0 c1 f hd hP hc hx hk
  obtain ⟨C2, y1, y2, y3, y4, y5, y6, y7, y8, y9, y10, y11⟩ := bin_go hT hl0 hl hP hc hv hb
  rw [y1]
  exact h (by omega) (by omega) Q C2 f hd y2 y3 y4 (by rw [hl1]; exact y5) hk
theorem S_lvl_t (hT : TOK tk tv ta sc n T N Pl Lt) (hl2 : l = 2) (hv : LVO (T a) = l) (hl1 : l1 = l + 1) (hb : b = a + 1) (h : Q2 tk tv ta sc S n T l1 d b (.inl (a1, m1, k1))) : Q3 tk tv ta sc S n T l m k d a (.inl (a1, false, cmb l (T a) k k1)) := by
  intro hl0 hl Q c0 c1 f hd hP hc hx hk
  obtain ⟨C2, y1, y2, y3, y4, y5, y6, y7, y8, y9, y10, y11⟩ := bin_go hT hl0 hl hP hc hv hb
  rw [y1]
  subst hl1
  refine h (by omega) (by omega) Q C2 f hd y2 y3 y4 y5 (fun c3 hc3 hx3 => ?_)
  have z := bin_end hl0 hP y6 y7 y8 y9 y10 y11 hc3
  exact hk c3 z.1 ⟨fun j j1 j2 j3 => hx3.1 j (by omega) j2 j3, fun _ _ => z.2 hl2, hx3.2.2⟩
theorem S_lvl_m (hT : TOK tk tv ta sc n T N Pl Lt) (hl0 : 0 ≤ l) (hl : l ≤ 4) (hn2 : ¬ l = 2) (hv : LVO (T a) = l) (hl1 : l1 = l + 1) (hb : b = a + 1) (h : Q2 tk tv ta sc S n T l1 d b (.inl (a1, m1, k1))) (h2 : Q3 tk tv ta sc S n T l false (cmb l (T a) k k1) d a1 r) : Q3 tk tv ta sc S n T l m k d a r := by
  intro _ _ Q c0 c1 f hd hP hc hx hk
  obtain ⟨C2, y1, y2, y3, y4, y5, y6, y7, y8, y9, y10, y11⟩ := bin_go hT hl0 hl hP hc hv hb
  rw [y1]
  subst hl1
  refine h (by omega) (by omega) Q C2 f hd y2 y3 y4 y5 (fun c3 hc3 hx3 => ?_)
  have z := bin_end hl0 hP y6 y7 y8 y9 y10 y11 hc3
  exact h2 hl0 hl Q c0 c3 f hd hP (by rw [if_neg hn2]; exact z.1) hx3 hk
end SIM3
