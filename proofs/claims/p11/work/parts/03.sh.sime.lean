/-! ===== the reader: choices ===== -/
section SIM4
variable {tk tv ta sc : Nat → Int} {S n : Nat} {T N Pl : Int → Int} {Lt : Int → Int × Int} {Q : PSt → Prop} {c c0 c1 c2 c3 : PSt} {f w p0 g : Nat} {a a1 a2 b e x p l l1 d d1 cc how sq : Int} {m m1 m2 s : Bool} {k k1 k2 : IS} {r : GR}
/-- a choice's first part, taken off the stack of signs -/
theorem LMid.po (h : LMid S n 0 f c0 c1 a m k) : PoC S n f c0 (redC S 1 c1) a m k := by
  obtain ⟨k1, k2, k3, k4, k5, k6, k7, k8, k9, k10, k11, k12⟩ := h
  refine ⟨by rw [red_er]; exact k1, by rw [red_dn]; exact k2, by rw [red_op]; exact k3, by rw [red_nx]; exact k4, by rw [red_nx]; exact k5, k8, k9, k10, k11, ?_⟩
  unfold FL
  rw [red_pl, red_am]; exact k12
theorem ch_ask (hT : TOK tk tv ta sc n T N Pl Lt) (hn : xnx c1 < n) (ha : (xnx c1 : Int) = a) : (T a = 63 → beh2 tk tv ta S c1 = askC ta S (redC S 1 c1) 35 4) ∧ (T a = 16186 → beh2 tk tv ta S c1 = askC ta S (redC S 1 c1) 37 5) := by
  have hlev := hT.lev hn ha
  have z1 := (hT.sg hn (ch := 63) (by decide))
  have z2 := (hT.sg hn (ch := 16186) (by decide))
  rw [ha] at z1 z2
  refine ⟨fun h => ?_, fun h => ?_⟩
  · have e : levC tk tv c1 = 0 := by rw [hlev, LVO_g (by omega)]; rfl
    unfold beh2 rd0
    rw [e, if_neg (by decide)]
    unfold beh3
    rw [if_neg (by omega), if_pos ⟨rfl, z1.mp h⟩]
  · have e : levC tk tv c1 = 0 := by rw [hlev, LVO_g (by omega)]; rfl
    unfold beh2 rd0
    rw [e, if_neg (by decide)]
    unfold beh3
    rw [if_neg (by omega), if_neg (fun y => by have := z1.mpr y.2; omega), if_pos ⟨rfl, z2.mp h⟩]
theorem ch_fin (hT : TOK tk tv ta sc n T N Pl Lt) (hn : xnx c1 < n) (ha : (xnx c1 : Int) = a) (hx : XT S T 0 c1 a) (h1 : ¬ T a = 16186) (h2 : ¬ T a = 63) : beh2 tk tv ta S c1 = fi2C tk tv ta S (redC S 1 c1) := by
  have hlev := hT.lev hn ha
  have z1 := (hT.sg hn (ch := 63) (by decide))
  have z2 := (hT.sg hn (ch := 16186) (by decide))
  rw [ha] at z1 z2
  have hb := LVO_b (T a)
  have x0 := hx.1 0 (by decide) (by decide) (by decide)
  have x1 := hx.1 1 (by decide) (by decide) (by decide)
  have x3 := hx.1 3 (by decide) (by decide) (by decide)
  have x4 := hx.1 4 (by decide) (by decide) (by decide)
  by_cases h : LVO (T a) = 2
  · have hc := hx.2.1 (by decide) h
    unfold beh2 rd0
    rw [hlev, h, if_pos (by decide)]
    unfold beh3
    rw [if_neg (fun y => y.2 ⟨rfl, hc⟩), if_neg (fun y => absurd y.1 (by decide)), if_neg (fun y => absurd y.1 (by decide))]
    unfold finC
    rw [show thr (2 + 1) = 4 from rfl, red_red (by decide)]
  · have e : levC tk tv c1 = 0 := by omega
    unfold beh2 rd0
    rw [e, if_neg (by decide)]
    unfold beh3
    rw [if_neg (by omega), if_neg (fun y => h2 (z1.mpr y.2)), if_neg (fun y => h1 (z2.mpr y.2))]
    rfl
theorem pre_0 (hp : PreC n f c a) (hb : xbs c f = (xwa c : Int)) : PreP f 0 c := ⟨hp.2.2.1, hp.2.2.2.1, by omega, by omega, fun i h1 h2 => by omega⟩
theorem S_choice_deep (h : 4 < d) (hp : p = Pl a) : Q0 tk tv ta sc S n Pl d a (.inr (3, p)) := by
  refine ⟨fun _ => by rw [hp], fun Q c f hd hp => ?_⟩
  have := hp.2.2.2.1
  omega
theorem S_choice_err (hd4 : d ≤ 4) (h : Q2 tk tv ta sc S n T 0 d a (.inr (x, p))) : Q0 tk tv ta sc S n Pl d a (.inr (x, p)) :=
  ⟨fun h => by omega, fun Q c f hd hp ho hs hb hk => h (by decide) (by decide) Q c f hd hp ho hs (pre_0 hp hb) hk⟩
theorem S_choice_ok (hT : TOK tk tv ta sc n T N Pl Lt) (hd4 : d ≤ 4) (h : Q2 tk tv ta sc S n T 0 d a (.inl (a1, m, k))) (h1 : ¬ T a1 = 16186) (h2 : ¬ T a1 = 63) : Q0 tk tv ta sc S n Pl d a (.inl (a1, m, k)) :=
  ⟨fun h => by omega, fun Q c f hd hp ho hs hb hk => h (by decide) (by decide) Q c f hd hp ho hs (pre_0 hp hb) (fun c1 hc hx => by
    rw [ch_fin hT hc.2.2.2.2.1 hc.2.2.2.1 hx h1 h2]
    exact hk _ hc.po)⟩
theorem ask_in (hT : TOK tk tv ta sc n T N Pl Lt) (h : xer c = 0) (h0 : xdn c = 0) (hf : xfr c = f + 1) (hf4 : f ≤ 4) (hd : d = (f : Int)) (hd1 : d1 = d + 1) (ha : (xnx c : Int) + 1 = a) (hn : xnx c + 1 < n) (hr : Q0 tk tv ta sc S n Pl d1 a r)
    (hbad : ∀ x p, r = .inr (x, p) → ∀ c1, xer c1 = x → xwh c1 = p → Q c1)
    (hok : ∀ a1 m k, r = .inl (a1, m, k) → ∀ c1, xer c1 = 0 → xdn c1 = 0 → xop c1 = 0 → (xnx c1 : Int) = a1 → xnx c1 < n → xfr c1 = f + 1 + 1 → xfm c1 (f + 1) = how → xpa c1 (f + 1) = ((S + xwr c : Nat) : Int) → xwa c1 = xwa c → xbs c1 (f + 1) = (xwa c : Int) → xwr c1 = xwr c + 1 + k.length → xst c1 (S + xwr c) = sq → SEG c1 (S + xwr c + 1) k → xpl c1 f = 0 → KQ f (xwa c) (S + xwr c) c c1 → FRB f c c1 → EE tk tv ta sc S Q (fi2C tk tv ta S c1)) : EE tk tv ta sc S Q (askC ta S c sq how) := by
  unfold askC
  have hE : KQ f (xwa c) (S + xwr c) c (skC (emitC S (plC c) sq 0)) := ((KQ.pl (show f ≤ xfr c - 1 by omega)).tr (KQ.emit (c := plC c) (Nat.le_refl _)) (Nat.le_refl _) (Nat.le_refl _) (Nat.le_refl _)).tr KQ.sk (Nat.le_refl _) (Nat.le_refl _) (Nat.le_refl _)
  have hB : FRB f c (skC (emitC S (plC c) sq 0)) := ⟨rfl, rfl, rfl, rfl, rfl⟩
  have g9 : xpl (skC (emitC S (plC c) sq 0)) f = 0 := by show uz (xpl c) (xfr c - 1) 0 f = 0; rw [show xfr c - 1 = f by omega, uz_eq]
  generalize hE0 : skC (emitC S (plC c) sq 0) = cE at *
  have g1 : xer cE = 0 := by subst hE0; exact h
  have g2 : xdn cE = 0 := by subst hE0; exact h0
  have g3 : xfr cE = f + 1 := by subst hE0; exact hf
  have g4 : (xnx cE : Int) = a := by subst hE0; show ((xnx c + 1 : Nat) : Int) = a; omega
  have g5 : xnx cE < n := by subst hE0; exact hn
  have g6 : xwa cE = xwa c := by subst hE0; rfl
  have g7 : xwr cE = xwr c + 1 := by subst hE0; rfl
  have g8 : xst cE (S + xwr c) = sq := by subst hE0; exact uz_eq
  by_cases h5 : xfr cE = 5
  · have e := hr.1 (by omega)
    have z := opn_deep (S := S) (how := how) hT g1 g5 g4 h5 (hbad _ _ e)
    exact z.2 _ rfl rfl
  · obtain ⟨z1, z2, z3, z4, z5, z6, z7, z8, z9⟩ := opn_in (ta := ta) (how := how) g1 g2 g5 g4 g3 h5 hf4
    have ho : xfr (opnC ta cE how) = f + 1 + 1 := z1.2.2.1
    have kA : KQ (f + 1) (xwa c) (S + xwr c + 1) cE (setP (opnC ta cE how) (S + xwr c : Nat)) := (z9 _ _).tr (KQ.seP (show f + 1 ≤ xfr (opnC ta cE how) - 1 by omega)) (Nat.le_refl _) (Nat.le_refl _) (Nat.le_refl _)
    have w1 : xpa (setP (opnC ta cE how) (S + xwr c : Nat)) (f + 1) = ((S + xwr c : Nat) : Int) := by
      show uz (xpa (opnC ta cE how)) (xfr (opnC ta cE how) - 1) _ (f + 1) = _
      rw [ho, show f + 1 + 1 - 1 = f + 1 from rfl, uz_eq]
    have w4 : xwr (setP (opnC ta cE how) (S + xwr c : Nat)) = xwr c + 1 := z8.trans g7
    have w5 : xwa (setP (opnC ta cE how) (S + xwr c : Nat)) = xwa c := z7.trans g6
    have w6 : xbs (setP (opnC ta cE how) (S + xwr c : Nat)) (f + 1) = (xwa c : Int) := z4.trans (congrArg _ w5)
    refine hr.2 Q (setP (opnC ta cE how) (S + xwr c : Nat)) (f + 1) (by omega) z1 z2 z3 z4 (KT.of hbad (fun a1 m k hr c1 hc => ?_))
    obtain ⟨k1, k2, k3, k4, k5, k6, k7, k8, k9, k10⟩ := hc
    rw [w4] at k6 k8 k9
    rw [w5] at k6 k7
    have kE : KQ (f + 1) (xwa c) (S + xwr c + 1) cE c1 := kA.tr k6.2.1 (Nat.le_refl _) (Nat.le_refl _) (by omega)
    have kf := kE.2.2.1 f (by omega)
    refine hok a1 m k hr c1 k1 k2 k3 k4 k5 (k6.1.trans ho) (k6.2.2.1.trans z6) (k6.2.2.2.2.1.trans w1) k7 (k6.2.2.2.1.trans w6) k8 ((kE.2.2.2.2 (S + xwr c) (by omega)).1.trans g8) k9 (kf.2.2.2.2.2.2.2.1.trans g9) (hE.tr kE (by omega) (Nat.le_refl _) (by omega)) (hB.tr kf.b)
/-- the end of what stands behind : or ?: -/
theorem els_end (hf : xfr c = f + 1) (hbw : xbs c f = (xwa c : Int)) (k1 : xer c1 = 0) (k2 : xdn c1 = 0) (k3 : xop c1 = 0) (k4 : (xnx c1 : Int) = a1) (k5 : xnx c1 < n) (k6 : xfr c1 = f + 1 + 1) (k7 : xfm c1 (f + 1) = 5) (k8 : xpa c1 (f + 1) = (p0 : Int)) (k9 : xwa c1 = xwa c) (k10 : KQ f (xwa c) (S + xwr c) c c1) (k11 : FRB f c c1) (hp : S + xwr c ≤ p0)
    (hk : ∀ c2, xer c2 = 0 → xdn c2 = 0 → xop c2 = 0 → (xnx c2 : Int) = a1 → xnx c2 < n → KP f (xwa c) (S + xwr c) c c2 → xwa c2 = xwa c → xwr c2 = xwr c1 → xpl c2 f = 0 → (∀ j, xst c2 j = xst c1 j) → (∀ j, ¬ j = p0 → xwi c2 j = xwi c1 j) → xwi c2 p0 = ((S + xwr c1 : Nat) : Int) → EE tk tv ta sc S Q (fi2C tk tv ta S c2)) : EE tk tv ta sc S Q (fi2C tk tv ta S c1) := by
  have e : xfr c1 - 1 = f + 1 := by omega
  unfold fi2C
  rw [e, k7, if_pos rfl]
  generalize hG : mkC _ _ _ _ _ _ _ _ _ _ _ _ _ _ _ _ _ _ _ _ _ _ _ _ = G
  have g1 : xer G = xer c1 ∧ xdn G = xdn c1 ∧ xop G = xop c1 ∧ xnx G = xnx c1 ∧ xfr G = f + 1 ∧ xwa G = xwa c1 ∧ xwr G = xwr c1 ∧ xst G = xst c1 ∧ xbs G = xbs c1 := by
    subst hG; exact ⟨rfl, rfl, rfl, rfl, rfl, rfl, rfl, rfl, rfl⟩
  obtain ⟨g1, g2, g3, g4, g5, g6, g7, g8, g9⟩ := g1
  have g10 : xcl G f = 1 ∧ xpl G f = 0 := by subst hG; exact ⟨uz_eq, uz_eq⟩
  have g11 : ∀ j, xwi G j = if j = p0 then ((S + xwr c1 : Nat) : Int) else xwi c1 j := by
    subst hG
    intro j
    show uz (xwi c1) (xpa c1 (f + 1)).toNat _ j = _
    rw [k8]; rfl
  have g12 : KQ f (xwa c) (S + xwr c) c1 G := by
    subst hG
    refine ⟨rfl, rfl, fun i hi => ⟨?_, ?_, ?_, ?_, ?_, ?_, ?_, ?_, ?_⟩, fun i hi => ⟨rfl, rfl, rfl⟩, fun i hi => ⟨rfl, ?_⟩⟩
    all_goals first | rfl | exact uz_ne (show ¬ i = f + 1 - 1 by omega) | skip
    show uz (xwi c1) (xpa c1 (f + 1)).toNat _ i = _
    rw [k8, show ((p0 : Nat) : Int).toNat = p0 from rfl, uz_ne (by omega)]
  have g13 : FRB f c1 G := by subst hG; exact ⟨rfl, rfl, rfl, rfl, rfl⟩
  refine EE_b (g1.trans k1) (g2.trans k2) (by omega) (g3.trans k3) ?_
  unfold behC
  rw [show xfr G - 1 = f by omega, if_pos (by rw [g10.1]; decide)]
  unfold finC
  have eR : redC S 1 G = G := red_top (f := f) g5 (fun u => by
    exfalso
    have := k11.2.1
    rw [g9] at u
    omega)
  rw [eR]
  exact hk G (g1.trans k1) (g2.trans k2) (g3.trans k3) (by rw [g4]; exact k4) (by omega) ⟨by omega, k10.tr g12 (Nat.le_refl _) (Nat.le_refl _) (Nat.le_refl _), k11.tr g13⟩ (g6.trans k9) g7 g10.2 (fun j => by rw [g8]) (fun j hj => by rw [g11, if_neg hj]) (by rw [g11, if_pos rfl])
theorem S_choice_ore (hT : TOK tk tv ta sc n T N Pl Lt) (hd4 : d ≤ 4) (h : Q2 tk tv ta sc S n T 0 d a (.inl (a1, m, k))) (h1 : T a1 = 16186) (hb : b = a1 + 1) (hd1 : d1 = d + 1) (h2 : Q0 tk tv ta sc S n Pl d1 b (.inr (x, p))) : Q0 tk tv ta sc S n Pl d a (.inr (x, p)) :=
  ⟨fun h => by omega, fun Q c f hd hp ho hs hbw hk => h (by decide) (by decide) Q c f hd hp ho hs (pre_0 hp hbw) (fun c1 hc hx => by
    rw [(ch_ask hT hc.2.2.2.2.1 hc.2.2.2.1).2 h1]
    obtain ⟨k1, k2, k3, k4, k5, k6, k7, k8, k9, k10⟩ := hc.po
    exact ask_in hT k1 k2 (k6.1.trans hp.2.2.1) hp.2.2.2.1 hd hd1 (by omega) (hT.nx k5 (by rw [k4]; omega)) h2 (fun x p e => by cases e; exact hk) (fun a m k e => by cases e))⟩
theorem S_choice_or (hT : TOK tk tv ta sc n T N Pl Lt) (hd4 : d ≤ 4) (h : Q2 tk tv ta sc S n T 0 d a (.inl (a1, m, k))) (h1 : T a1 = 16186) (hb : b = a1 + 1) (hd1 : d1 = d + 1) (h2 : Q0 tk tv ta sc S n Pl d1 b (.inl (a2, m2, k2))) : Q0 tk tv ta sc S n Pl d a (.inl (a2, false, k ++ (37, (k2.length : Int) + 1) :: k2)) :=
  ⟨fun h => by omega, fun Q c f hd hp ho hs hbw hk => h (by decide) (by decide) Q c f hd hp ho hs (pre_0 hp hbw) (fun c1 hc hx => by
    rw [(ch_ask hT hc.2.2.2.2.1 hc.2.2.2.1).2 h1]
    obtain ⟨k1, k2_, k3, k4, k5, k6, k7, k8, k9, k10⟩ := hc.po
    generalize redC S 1 c1 = R at *
    have hfR : xfr R = f + 1 := k6.1.trans hp.2.2.1
    refine ask_in hT k1 k2_ hfR hp.2.2.2.1 hd hd1 (by omega) (hT.nx k5 (by rw [k4]; omega)) h2 (fun x p e => by cases e) (fun a9 m9 k9_ e c3 j1 j2 j3 j4 j5 j6 j7 j8 j9 j10 j11 j12 j13 j14 j15 j16 => ?_)
    cases e
    refine els_end (c := R) hfR (by rw [k6.2.2.2.1, hbw, k7]) j1 j2 j3 j4 j5 j6 j7 j8 j9 j15 j16 (Nat.le_refl _) (fun c4 e1 e2 e3 e4 e5 e6 e7 e8 e9 e10 e11 e12 => ?_)
    refine hk c4 ⟨e1, e2, e3, e4, e5, k6.tr e6 (by omega) (by omega), e7.trans k7, ?_, SEG.app.mpr ⟨k9.keep (fun j q1 q2 => e6.2.1.2.2.2.2 j (by omega)), ?_, ?_, ?_⟩, ⟨fun _ => e9, fun _ => by rw [e9]; simp⟩⟩
    · rw [List.length_append, List.length_cons]; omega
    · rw [show S + xwr c + k.length = S + xwr R by omega, e10]; exact j12
    · rw [show S + xwr c + k.length = S + xwr R by omega, e12, tgt_j (by show isJ 37; decide)]
      show _ = ((S + xwr R : Nat) : Int) + ((k2.length : Int) + 1)
      omega
    · rw [show S + xwr c + k.length + 1 = S + xwr R + 1 by omega]
      exact j13.keep (fun j q1 q2 => ⟨e10 j, e11 j (by omega)⟩))⟩
theorem S_choice_qe (hT : TOK tk tv ta sc n T N Pl Lt) (hd4 : d ≤ 4) (h : Q2 tk tv ta sc S n T 0 d a (.inl (a1, m, k))) (h1 : T a1 = 63) (hb : b = a1 + 1) (h2 : Q1 tk tv ta sc S n d b (.inr (x, p))) : Q0 tk tv ta sc S n Pl d a (.inr (x, p)) :=
  ⟨fun h => by omega, fun Q c f hd hp ho hs hbw hk => h (by decide) (by decide) Q c f hd hp ho hs (pre_0 hp hbw) (fun c1 hc hx => by
    rw [(ch_ask hT hc.2.2.2.2.1 hc.2.2.2.1).1 h1]
    obtain ⟨k1, k2, k3, k4, k5, k6, k7, k8, k9, k10⟩ := hc.po
    exact h2 Q _ f hd k1 k2 (k6.1.trans hp.2.2.1) hp.2.2.2.1 (by omega) (hT.nx k5 (by rw [k4]; omega)) (by rw [k6.2.2.2.1, hbw, k7]) hk)⟩
theorem S_choice_q (hT : TOK tk tv ta sc n T N Pl Lt) (hd4 : d ≤ 4) (h : Q2 tk tv ta sc S n T 0 d a (.inl (a1, m, k))) (h1 : T a1 = 63) (hb : b = a1 + 1) (h2 : Q1 tk tv ta sc S n d b (.inl (a2, m2, k2))) : Q0 tk tv ta sc S n Pl d a (.inl (a2, false, k ++ k2)) :=
  ⟨fun h => by omega, fun Q c f hd hp ho hs hbw hk => h (by decide) (by decide) Q c f hd hp ho hs (pre_0 hp hbw) (fun c1 hc hx => by
    rw [(ch_ask hT hc.2.2.2.2.1 hc.2.2.2.1).1 h1]
    obtain ⟨k1, k2_, k3, k4, k5, k6, k7, k8, k9, k10⟩ := hc.po
    generalize redC S 1 c1 = R at *
    refine h2 Q R f hd k1 k2_ (k6.1.trans hp.2.2.1) hp.2.2.2.1 (by omega) (hT.nx k5 (by rw [k4]; omega)) (by rw [k6.2.2.2.1, hbw, k7]) (fun c4 hc4 hpl => ?_)
    obtain ⟨e1, e2, e3, e4, e5, e6, e7, e8, e9, e10⟩ := hc4
    refine hk c4 ⟨e1, e2, e3, e4, e5, k6.tr e6 (by omega) (by omega), e7.trans k7, by rw [List.length_append]; omega, SEG.app.mpr ⟨k9.keep (fun j q1 q2 => e6.2.1.2.2.2.2 j (by omega)), ?_⟩, ⟨fun _ => hpl, fun _ => by rw [hpl]; simp⟩⟩
    rw [show S + xwr c + k.length = S + xwr R by omega]; exact e9)⟩
theorem fi2_4 (hf : xfr c1 = f + 1 + 1) (hm : xfm c1 (f + 1) = 4) : (¬ isS tk tv c1 58 → fi2C tk tv ta S c1 = misC ta c1) := by
  intro h
  have e : xfr c1 - 1 = f + 1 := by omega
  unfold fi2C
  rw [e, hm, if_neg (by decide), if_pos rfl, if_neg h]
/-- behind the first part: on to the one behind the : -/
theorem thn_end (hT : TOK tk tv ta sc n T N Pl Lt) (k1 : xer c1 = 0) (k2 : xdn c1 = 0) (k4 : (xnx c1 : Int) = a1) (k5 : xnx c1 < n) (k6 : xfr c1 = f + 1 + 1) (hf4 : f + 1 ≤ 4) (k7 : xfm c1 (f + 1) = 4) (k8 : xpa c1 (f + 1) = (p0 : Int)) (hp : p0 < S + xwr c1) (h : T a1 = 58) (hb : b = a1 + 1) :
    ∃ C2, fi2C tk tv ta S c1 = C2 ∧ PreC n (f + 1) C2 b ∧ ¬ xop C2 = 0 ∧ xsg C2 (f + 1) = 0 ∧ xbs C2 (f + 1) = (xwa C2 : Int) ∧ xfm C2 (f + 1) = 5 ∧ xpa C2 (f + 1) = ((S + xwr c1 : Nat) : Int) ∧ xwa C2 = xwa c1 ∧ xwr C2 = xwr c1 + 1 ∧ KQ (f + 1) (xwa c1) p0 c1 C2 ∧ (∀ j, ¬ j = S + xwr c1 → xst C2 j = xst c1 j) ∧ (∀ j, ¬ j = S + xwr c1 → ¬ j = p0 → xwi C2 j = xwi c1 j) ∧ xst C2 (S + xwr c1) = 36 ∧ xwi C2 p0 = ((S + (xwr c1 + 1) : Nat) : Int) := by
  have e : xfr c1 - 1 = f + 1 := by omega
  have n1 := hT.nx k5 (by rw [k4]; omega)
  refine ⟨_, rfl, ?_⟩
  unfold fi2C
  rw [e, k7, if_neg (by decide), if_pos rfl, if_pos ((hT.sg k5 (by decide)).mp (by rw [k4]; exact h))]
  generalize hG : freC _ = G
  have g1 : xer G = xer c1 ∧ xdn G = xdn c1 ∧ xop G = 1 ∧ xnx G = xnx c1 + 1 ∧ xfr G = xfr c1 ∧ xwa G = xwa c1 ∧ xwr G = xwr c1 + 1 := by
    subst hG; exact ⟨rfl, rfl, rfl, rfl, rfl, rfl, rfl⟩
  obtain ⟨g1, g2, g3, g4, g5, g6, g7⟩ := g1
  have w1 : xcl G (f + 1) = 0 := by subst hG; show uz (xcl c1) (xfr c1 - 1) 0 (f + 1) = 0; rw [e, uz_eq]
  have w2 : xsg G (f + 1) = 0 := by subst hG; show uz (xsg c1) (xfr c1 - 1) 0 (f + 1) = 0; rw [e, uz_eq]
  have w3 : xbs G (f + 1) = (xwa c1 : Int) := by subst hG; show uz (xbs c1) (xfr c1 - 1) _ (f + 1) = _; rw [e, uz_eq]; rfl
  have w4 : xfm G (f + 1) = 5 := by subst hG; exact uz_eq
  have w5 : xpa G (f + 1) = ((S + xwr c1 : Nat) : Int) := by subst hG; exact uz_eq
  have w6 : ∀ j, xwi G j = if j = p0 then ((S + (xwr c1 + 1) : Nat) : Int) else uz (xwi c1) (S + xwr c1) 0 j := by
    subst hG
    intro j
    show uz (uz (xwi c1) (S + xwr c1) 0) (xpa c1 (f + 1)).toNat _ j = _
    rw [k8]; rfl
  have w7 : ∀ j, ¬ j = S + xwr c1 → xst G j = xst c1 j := by subst hG; exact fun j hj => uz_ne hj
  have w8 : xst G (S + xwr c1) = 36 := by subst hG; exact uz_eq
  refine ⟨⟨g1.trans k1, g2.trans k2, g5.trans k6, hf4, by omega, by omega, w1⟩, by rw [g3]; decide, w2, by rw [w3, g6], w4, w5, g6, g7, ?_, w7, fun j h1 h2 => by rw [w6, if_neg h2, uz_ne h1], w8, by rw [w6, if_pos rfl]⟩
  refine ⟨by subst hG; rfl, by subst hG; rfl, fun i hi => ?_, fun i hi => by subst hG; exact ⟨rfl, rfl, rfl⟩, fun i hi => ⟨w7 i (by omega), by rw [w6, if_neg (by omega), uz_ne (by omega)]⟩⟩
  subst hG
  refine ⟨?_, ?_, ?_, ?_, ?_, ?_, ?_, ?_, ?_⟩
  all_goals first | rfl | exact uz_ne (by omega) | exact uz_ne (show ¬ i = xfr c1 - 1 by omega)
theorem S_chosen_1 (hT : TOK tk tv ta sc n T N Pl Lt) (hd1 : d1 = d + 1) (h : Q0 tk tv ta sc S n Pl d1 a (.inr (x, p))) : Q1 tk tv ta sc S n d a (.inr (x, p)) := by
  intro Q c f hd q1 q2 q3 q4 q5 q6 q7 hk
  exact ask_in hT q1 q2 q3 q4 hd hd1 q5 q6 h (fun x p e => by cases e; exact hk) (fun a m k e => by cases e)
theorem S_chosen_2 (hT : TOK tk tv ta sc n T N Pl Lt) (hd1 : d1 = d + 1) (h : Q0 tk tv ta sc S n Pl d1 a (.inl (a1, m, k))) (h2 : ¬ T a1 = 58) (hp : p = Pl a1) : Q1 tk tv ta sc S n d a (.inr (2, p)) := by
  intro Q c f hd q1 q2 q3 q4 q5 q6 q7 hk
  refine ask_in hT q1 q2 q3 q4 hd hd1 q5 q6 h (fun x p e => by cases e) (fun a9 m9 k9_ e c3 j1 j2 j3 j4 j5 j6 j7 j8 j9 j10 j11 j12 j13 j14 j15 j16 => ?_)
  cases e
  rw [fi2_4 (f := f) j6 j7 (fun y => h2 (by rw [← j4]; exact (hT.sg j5 (by decide)).mpr y))]
  exact mis_go hT j1 j5 j4 (fun c1 k1 k2 => hk c1 k1 (k2.trans hp.symm))
theorem S_chosen_3 (hT : TOK tk tv ta sc n T N Pl Lt) (hd1 : d1 = d + 1) (h : Q0 tk tv ta sc S n Pl d1 a (.inl (a1, m, k))) (h2 : T a1 = 58) (hb : b = a1 + 1) (h3 : Q0 tk tv ta sc S n Pl d1 b (.inr (x, p))) : Q1 tk tv ta sc S n d a (.inr (x, p)) := by
  intro Q c f hd q1 q2 q3 q4 q5 q6 q7 hk
  have hd4 : d1 ≤ 4 := by
    by_cases z : 4 < d1
    · exact absurd (h.1 z) (by simp)
    · omega
  refine ask_in hT q1 q2 q3 q4 hd hd1 q5 q6 h (fun x p e => by cases e) (fun a9 m9 k9_ e c3 j1 j2 j3 j4 j5 j6 j7 j8 j9 j10 j11 j12 j13 j14 j15 j16 => ?_)
  cases e
  obtain ⟨C2, y1, y2, y3, y4, y5, y6, y7, y8, y9, y10, y11, y12, y13, y14⟩ := thn_end (S := S) hT j1 j2 j4 j5 j6 (by omega) j7 j8 (by omega) h2 hb
  rw [y1]
  exact h3.2 Q C2 (f + 1) (by omega) y2 y3 y4 y5 hk
theorem S_chosen_4 (hT : TOK tk tv ta sc n T N Pl Lt) (hd1 : d1 = d + 1) (h : Q0 tk tv ta sc S n Pl d1 a (.inl (a1, m, k))) (h2 : T a1 = 58) (hb : b = a1 + 1) (h3 : Q0 tk tv ta sc S n Pl d1 b (.inl (a2, m2, k2))) : Q1 tk tv ta sc S n d a (.inl (a2, false, (35, (k.length : Int) + 2) :: (k ++ (36, (k2.length : Int) + 1) :: k2))) := by
  intro Q c f hd q1 q2 q3 q4 q5 q6 q7 hk
  have hd4 : d1 ≤ 4 := by
    by_cases z : 4 < d1
    · exact absurd (h.1 z) (by simp)
    · omega
  refine ask_in hT q1 q2 q3 q4 hd hd1 q5 q6 h (fun x p e => by cases e) (fun a9 m9 k9_ e c3 j1 j2 j3 j4 j5 j6 j7 j8 j9 j10 j11 j12 j13 j14 j15 j16 => ?_)
  cases e
  obtain ⟨C2, y1, y2, y3, y4, y5, y6, y7, y8, y9, y10, y11, y12, y13, y14⟩ := thn_end (S := S) hT j1 j2 j4 j5 j6 (by omega) j7 j8 (by omega) h2 hb
  rw [y1]
  refine h3.2 Q C2 (f + 1) (by omega) y2 y3 y4 y5 (fun c4 hc4 => ?_)
  obtain ⟨e1, e2, e3, e4, e5, e6, e7, e8, e9, e10⟩ := hc4
  have kf := y10.2.2.1 f (by omega)
  have kf4 := e6.2.1.2.2.1 f (by omega)
  have kC : KQ f (xwa c) (S + xwr c) c C2 := j15.tr y10 (by omega) (by omega) (Nat.le_refl _)
  have k4 : KQ f (xwa c) (S + xwr c) c c4 := kC.tr e6.2.1 (by omega) (by omega) (by omega)
  refine els_end (c := c) (p0 := S + xwr c3) q3 q7 e1 e2 e3 e4 e5 (e6.1.trans y2.2.2.1) (e6.2.2.1.trans y6) (e6.2.2.2.2.1.trans y7) (by omega) k4 (j16.tr (kf.b.tr kf4.b)) (by omega) (fun c5 f1 f2 f3 f4 f5 f6 f7 f8 f9 f10 f11 f12 => ?_)
  have s4 : ∀ j, j < S + xwr C2 → xst c4 j = xst C2 j ∧ xwi c4 j = xwi C2 j := fun j hj => e6.2.1.2.2.2.2 j hj
  refine hk c5 ⟨f1, f2, f3, f4, f5, f6, f7, ?_, ⟨?_, ?_, SEG.app.mpr ⟨?_, ?_, ?_, ?_⟩⟩, ⟨fun _ => f9, fun _ => by rw [f9]; simp⟩⟩ f9
  · rw [List.length_cons, List.length_append, List.length_cons]; omega
  · rw [f10, (s4 _ (by omega)).1, y11 _ (by omega)]; exact j12
  · rw [f11 _ (by omega), (s4 _ (by omega)).2, y14, tgt_j (by show isJ 35; decide)]
    show _ = ((S + xwr c : Nat) : Int) + ((k.length : Int) + 2)
    omega
  · exact j13.keep (fun j q1 q2 => ⟨by rw [f10, (s4 _ (by omega)).1, y11 _ (by omega)], by rw [f11 _ (by omega), (s4 _ (by omega)).2, y12 _ (by omega) (by omega)]⟩)
  · rw [show S + xwr c + 1 + k.length = S + xwr c3 by omega, f10, (s4 _ (by omega)).1]; exact y13
  · rw [show S + xwr c + 1 + k.length = S + xwr c3 by omega, f12, tgt_j (by show isJ 36; decide)]
    show _ = ((S + xwr c3 : Nat) : Int) + ((k2.length : Int) + 1)
    omega
  · rw [show S + xwr c + 1 + k.length + 1 = S + xwr C2 by omega]
    exact e9.keep (fun j q1 q2 => ⟨f10 j, f11 j (by omega)⟩)
end SIM4
