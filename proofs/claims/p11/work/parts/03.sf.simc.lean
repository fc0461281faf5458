/-! ===== the reader: what stands in brackets, arguments ===== -/
section SIM2
variable {tk tv ta sc : Nat → Int} {S n : Nat} {T N Pl : Int → Int} {Lt : Int → Int × Int} {Q : PSt → Prop} {c c0 c1 c2 c3 : PSt} {f w p0 g : Nat} {a a1 a2 b e x p l l1 d d1 cc how : Int} {m m1 m2 s : Bool} {k k1 k2 : IS} {r : GR}
/-- too deep -/
theorem opn_deep (hT : TOK tk tv ta sc n T N Pl Lt) (h : xer c = 0) (hn : xnx c < n) (ha : (xnx c : Int) = a) (h5 : xfr c = 5) (hq : ∀ c1, xer c1 = 3 → xwh c1 = Pl a → Q c1) : (¬ xer (opnC ta c how) = 0) ∧ ∀ c1, xer c1 = xer (opnC ta c how) → xwh c1 = xwh (opnC ta c how) → EE tk tv ta sc S Q c1 := by
  have e : opnC ta c how = wrongC c 3 (ta (xnx c)) := if_pos h5
  have k := wrong_is (e := 3) (w := ta (xnx c)) h
  rw [e, k.1, k.2]
  refine ⟨by decide, fun c1 h1 h2 => EE_e (by rw [h1]; decide) (hq c1 h1 ?_)⟩
  rw [h2, ← ha, hT.pl hn]
/-- a frame opened -/
def OPN (n f : Nat) (c c2 : PSt) (a how : Int) : Prop := PreC n (f + 1) c2 a ∧ ¬ xop c2 = 0 ∧ xsg c2 (f + 1) = 0 ∧ xbs c2 (f + 1) = (xwa c2 : Int) ∧ xpl c2 (f + 1) = 1 ∧ xfm c2 (f + 1) = how ∧ xwa c2 = xwa c ∧ xwr c2 = xwr c ∧ (∀ w p, KQ (f + 1) w p c c2)
theorem opn_in (h : xer c = 0) (h0 : xdn c = 0) (hn : xnx c < n) (ha : (xnx c : Int) = a) (hf : xfr c = f + 1) (h5 : ¬ xfr c = 5) (hf4 : f ≤ 4) : OPN n f c (opnC ta c how) a how := by
  have kq : ∀ w p, KQ (f + 1) w p c (opnC ta c how) := fun w p => KQ.opn h5 (by omega)
  rw [opn_is h5] at *
  refine ⟨⟨h, h0, ?_, by omega, ha, hn, ?_⟩, by show ¬ (1 : Int) = 0; decide, ?_, ?_, ?_, ?_, rfl, rfl, kq⟩
  · show xfr c + 1 = f + 1 + 1; omega
  · show uz (xcl c) (xfr c + 1 - 1) 0 (f + 1) = 0
    rw [show xfr c + 1 - 1 = f + 1 by omega, uz_eq]
  · show uz (xsg c) (xfr c + 1 - 1) 0 (f + 1) = 0
    rw [show xfr c + 1 - 1 = f + 1 by omega, uz_eq]
  · show uz (xbs c) (xfr c + 1 - 1) (xwa c) (f + 1) = _
    rw [show xfr c + 1 - 1 = f + 1 by omega, uz_eq]; rfl
  · show uz (xpl c) (xfr c + 1 - 1) 1 (f + 1) = 1
    rw [show xfr c + 1 - 1 = f + 1 by omega, uz_eq]
  · show uz (xfm c) (xfr c) how (f + 1) = how
    rw [hf, uz_eq]
/-- the frame behind a choice is the one ahead of it -/
theorem fi2_2 (hf : xfr c1 = f + 1 + 1) (hm : xfm c1 (f + 1) = 2) : fi2C tk tv ta S c1 = if isS tk tv c1 41 then rdyC (dnC (skC c1)) 0 else misC ta c1 := by
  have e : xfr c1 - 1 = f + 1 := by omega
  unfold fi2C
  rw [e, hm, if_neg (by decide), if_neg (by decide), if_pos rfl]
theorem fi2_3 (hf : xfr c1 = f + 1 + 1) (hm : xfm c1 (f + 1) = 3) : fi2C tk tv ta S c1 = argC tk tv ta S c1 := by
  have e : xfr c1 - 1 = f + 1 := by omega
  unfold fi2C
  rw [e, hm, if_neg (by decide), if_neg (by decide), if_neg (by decide), if_pos rfl]
theorem S_bracketed_e (hT : TOK tk tv ta sc n T N Pl Lt) (hd1 : d1 = d + 1) (h : Q0 tk tv ta sc S n Pl d1 a (.inr (x, p))) : Q8 tk tv ta sc S n d a (.inr (x, p)) := by
  intro Q c f hd hp hk
  obtain ⟨q1, q2, q3, q4, q5, q6, q7⟩ := hp
  by_cases h5 : xfr c = 5
  · have e := h.1 (by omega)
    cases e
    exact (opn_deep hT q1 q6 q5 h5 hk).2 _ rfl rfl
  · obtain ⟨z1, z2, z3, z4, z5, z6, z7, z8, z9⟩ := opn_in (ta := ta) (how := 2) q1 q2 q6 q5 q3 h5 q4
    exact h.2 Q _ (f + 1) (by omega) z1 z2 z3 z4 hk
theorem S_bracketed_x (hT : TOK tk tv ta sc n T N Pl Lt) (hd1 : d1 = d + 1) (h : Q0 tk tv ta sc S n Pl d1 a (.inl (a1, m, k))) (h2 : ¬ T a1 = 41) (hp0 : p = Pl a1) : Q8 tk tv ta sc S n d a (.inr (2, p)) := by
  intro Q c f hd hp hk
  obtain ⟨q1, q2, q3, q4, q5, q6, q7⟩ := hp
  by_cases h5 : xfr c = 5
  · exact absurd (h.1 (by omega)) (by simp)
  · obtain ⟨z1, z2, z3, z4, z5, z6, z7, z8, z9⟩ := opn_in (ta := ta) (how := 2) q1 q2 q6 q5 q3 h5 q4
    refine h.2 Q _ (f + 1) (by omega) z1 z2 z3 z4 (fun c1 hc => ?_)
    obtain ⟨k1, k2, k3, k4, k5, k6, k7, k8, k9, k10⟩ := hc
    rw [fi2_2 (f := f) (k6.1.trans z1.2.2.1) (k6.2.2.1.trans z6), if_neg (fun e => h2 (by rw [← k4]; exact (hT.sg k5 (by decide)).mpr e))]
    exact mis_go hT k1 k5 k4 (fun c1 k1 k2 => hk c1 k1 (k2.trans hp0.symm))
/-- a frame closed again, what stands in it being a value -/
theorem cls_in {X : PSt} (hf : xfr c = f + 1) (hX : KQ (f + 1) (xwa c) (S + xwr c) c X) (hfX : xfr X = f + 1 + 1) (h1 : xer X = 0) (h2 : xdn X = 0) (h3 : (xnx X : Int) = b) (h4 : xnx X < n) (h5 : xwa X = xwa c) (h6 : xwr X = xwr c + k.length) (h7 : SEG X (S + xwr c) k) (h8 : xcl c f = 0) : ChP S n f c (rdyC (dnC X) 0) b false k := by
  obtain ⟨f1, f2, f3, f4, f5, f6, f7, f8, f9⟩ := hX.2.2.1 f (by omega)
  have kr : KQ f (xwa c) (S + xwr c) X (rdyC (dnC X) 0) := KQ.dn.tr (KQ.rdy (c := dnC X) (show f ≤ xfr X - 1 - 1 by omega)) (Nat.le_refl _) (Nat.le_refl _) (Nat.le_refl _)
  refine ⟨h1, h2, rfl, h3, h4, ⟨?_, (hX.le (by omega) (Nat.le_refl _) (Nat.le_refl _)).tr kr (Nat.le_refl _) (Nat.le_refl _) (Nat.le_refl _), ⟨f1, f2, f4, f5, f6⟩⟩, h5, h6, h7.keep (fun j _ _ => ⟨rfl, rfl⟩), f3, f8, f7.trans h8, ?_⟩
  · show xfr X - 1 = xfr c; omega
  · show false = true ↔ ¬ uz (xam X) (xfr X - 1 - 1) 0 f = 0
    rw [show xfr X - 1 - 1 = f by omega, uz_eq]; simp
theorem S_bracketed_o (hT : TOK tk tv ta sc n T N Pl Lt) (hd1 : d1 = d + 1) (h : Q0 tk tv ta sc S n Pl d1 a (.inl (a1, m, k))) (h2 : T a1 = 41) (hb : b = a1 + 1) : Q8 tk tv ta sc S n d a (.inl (b, false, k)) := by
  intro Q c f hd hp hk
  obtain ⟨q1, q2, q3, q4, q5, q6, q7⟩ := hp
  by_cases h5 : xfr c = 5
  · exact absurd (h.1 (by omega)) (by simp)
  · obtain ⟨z1, z2, z3, z4, z5, z6, z7, z8, z9⟩ := opn_in (ta := ta) (how := 2) q1 q2 q6 q5 q3 h5 q4
    refine h.2 Q _ (f + 1) (by omega) z1 z2 z3 z4 (fun c1 hc => ?_)
    obtain ⟨k1, k2, k3, k4, k5, k6, k7, k8, k9, k10⟩ := hc
    have hf1 : xfr c1 = f + 1 + 1 := k6.1.trans z1.2.2.1
    rw [fi2_2 (f := f) hf1 (k6.2.2.1.trans z6), if_pos ((hT.sg k5 (by decide)).mp (by rw [k4]; exact h2))]
    have n1 := hT.nx k5 (by rw [k4]; omega)
    have kc : KQ (f + 1) (xwa c) (S + xwr c) c c1 := (z9 _ _).tr k6.2.1 (Nat.le_refl _) (by omega) (by omega)
    exact hk _ (cls_in (X := skC c1) q3 kc hf1 k1 k2 (by show ((xnx c1 + 1 : Nat) : Int) = b; omega) n1 (k7.trans z7) (by show xwr c1 = _; omega) ((show S + xwr (opnC ta c 2) = S + xwr c by omega) ▸ k9.keep (c2 := skC c1) (fun j _ _ => ⟨rfl, rfl⟩)) q7)
theorem KT.of {o : Int → Bool → IS → Prop} (h1 : ∀ x p, r = .inr (x, p) → ∀ c1, xer c1 = x → xwh c1 = p → Q c1) (h2 : ∀ a m k, r = .inl (a, m, k) → o a m k) : KT Q r o := by
  cases r with
  | inl y => exact h2 _ _ _ rfl
  | inr y => exact h1 _ _ rfl
/-- within a call's brackets, behind an argument -/
def ARG (S n f : Nat) (c c1 : PSt) (a : Int) (k : IS) (name sq q : Int) : Prop :=
  xer c1 = 0 ∧ xdn c1 = 0 ∧ xop c1 = 0 ∧ (xnx c1 : Int) = a ∧ xnx c1 < n ∧ xfr c1 = f + 1 + 1 ∧ KQ (f + 1) (xwa c) (S + xwr c) c c1 ∧ xwa c1 = xwa c ∧ xwr c1 = xwr c + 1 + k.length ∧ xst c1 (S + xwr c) = sq ∧ SEG c1 (S + xwr c + 1) k ∧ xpa c1 (f + 1) = ((S + xwr c : Nat) : Int) ∧ xcn c1 (f + 1) = name ∧ xck c1 (f + 1) = q ∧ xbs c1 (f + 1) = (xwa c : Int) ∧ xfm c1 (f + 1) = 3
theorem nam_call (hT : TOK tk tv ta sc n T N Pl Lt) (hn : xnx c < n) (ha : (xnx c : Int) = b) (hb : T b = 40) {name soft : Int} : namC tk tv ta S c name soft = calC tk tv ta S c name soft ∧ xnx c + 1 < n := by
  subst ha
  exact ⟨if_pos ((hT.sg hn (by decide)).mp hb), hT.nx hn (by omega)⟩
theorem arg_go (hT : TOK tk tv ta sc n T N Pl Lt) (hp : PreC n f c (a + 1)) (hdf : d = (f : Int)) (hb : b = a + 1) (hTb : T b = 40) (hcc : cc = b + 1) (hTc : ¬ T cc = 41) (hd1 : d1 = d + 1) (h : Q0 tk tv ta sc S n Pl d1 cc r)
    (hbad : ∀ x p, r = .inr (x, p) → ∀ c1, xer c1 = x → xwh c1 = p → Q c1) (hok : ∀ a1 m k, r = .inl (a1, m, k) → ∀ c1, ARG S n f c c1 a1 k (N a) (if s then 14 else 13) 1 → EE tk tv ta sc S Q (argC tk tv ta S c1)) : EE tk tv ta sc S Q (namC tk tv ta S c (N a) (if s then 1 else 0)) := by
  obtain ⟨q1, q2, q3, q4, q5, q6, q7⟩ := hp
  obtain ⟨e1, n1⟩ := nam_call (S := S) hT q6 (q5.trans hb.symm) hTb (name := N a) (soft := if s then 1 else 0)
  have es : (if (if s then (1 : Int) else 0) = 0 then (13 : Int) else 14) = if s then 14 else 13 := by cases s <;> rfl
  have ec : ((xnx c + 1 : Nat) : Int) = cc := by omega
  rw [e1]
  unfold calC
  rw [es, if_neg (fun z => hTc (by rw [← ec]; exact (hT.sg (i := xnx c + 1) n1 (by decide)).mpr z))]
  have hE : KQ (f + 1) (xwa c) (S + xwr c) c (emitC S (skC c) (if s then 14 else 13) 0) := KQ.sk.tr (KQ.emit (c := skC c) (Nat.le_refl _)) (Nat.le_refl _) (Nat.le_refl _) (Nat.le_refl _)
  generalize hE0 : emitC S (skC c) (if s then 14 else 13) 0 = cE at *
  have g1 : xer cE = 0 := by subst hE0; exact q1
  have g2 : xdn cE = 0 := by subst hE0; exact q2
  have g3 : xfr cE = f + 1 := by subst hE0; exact q3
  have g4 : (xnx cE : Int) = cc := by subst hE0; exact ec
  have g5 : xnx cE < n := by subst hE0; exact n1
  have g6 : xwa cE = xwa c := by subst hE0; rfl
  have g7 : xwr cE = xwr c + 1 := by subst hE0; rfl
  have g8 : xst cE (S + xwr c) = if s then 14 else 13 := by subst hE0; exact uz_eq
  by_cases h5 : xfr cE = 5
  · have e := h.1 (by omega)
    have z := opn_deep (S := S) (how := 3) hT g1 g5 g4 h5 (hbad _ _ e)
    rw [if_neg z.1]
    exact z.2 _ rfl rfl
  · obtain ⟨z1, z2, z3, z4, z5, z6, z7, z8, z9⟩ := opn_in (ta := ta) (how := 3) g1 g2 g5 g4 g3 h5 q4
    rw [if_pos z1.1]
    have ho : xfr (opnC ta cE 3) = f + 1 + 1 := z1.2.2.1
    have kA : KQ (f + 1) (xwa c) (S + xwr c + 1) cE (setA (opnC ta cE 3) (S + xwr c : Nat) (N a) 1) := (z9 _ _).tr (KQ.seA (show f + 1 ≤ xfr (opnC ta cE 3) - 1 by omega)) (Nat.le_refl _) (Nat.le_refl _) (Nat.le_refl _)
    have w1 : xpa (setA (opnC ta cE 3) (S + xwr c : Nat) (N a) 1) (f + 1) = ((S + xwr c : Nat) : Int) := by
      show uz (xpa (opnC ta cE 3)) (xfr (opnC ta cE 3) - 1) _ (f + 1) = _
      rw [ho, show f + 1 + 1 - 1 = f + 1 from rfl, uz_eq]
    have w2 : xcn (setA (opnC ta cE 3) (S + xwr c : Nat) (N a) 1) (f + 1) = N a := by
      show uz (xcn (opnC ta cE 3)) (xfr (opnC ta cE 3) - 1) _ (f + 1) = _
      rw [ho, show f + 1 + 1 - 1 = f + 1 from rfl, uz_eq]
    have w3 : xck (setA (opnC ta cE 3) (S + xwr c : Nat) (N a) 1) (f + 1) = 1 := by
      show uz (xck (opnC ta cE 3)) (xfr (opnC ta cE 3) - 1) _ (f + 1) = _
      rw [ho, show f + 1 + 1 - 1 = f + 1 from rfl, uz_eq]
    have w4 : xwr (setA (opnC ta cE 3) (S + xwr c : Nat) (N a) 1) = xwr c + 1 := z8.trans g7
    have w5 : xwa (setA (opnC ta cE 3) (S + xwr c : Nat) (N a) 1) = xwa c := z7.trans g6
    have w6 : xbs (setA (opnC ta cE 3) (S + xwr c : Nat) (N a) 1) (f + 1) = (xwa c : Int) := z4.trans (congrArg _ w5)
    refine h.2 Q (setA (opnC ta cE 3) (S + xwr c : Nat) (N a) 1) (f + 1) (by omega) z1 z2 z3 z4 (KT.of hbad (fun a1 m k hr c1 hc => ?_))
    obtain ⟨k1, k2, k3, k4, k5, k6, k7, k8, k9, k10⟩ := hc
    rw [w4] at k6 k8 k9
    rw [w5] at k6 k7
    rw [fi2_3 (f := f) (k6.1.trans ho) (k6.2.2.1.trans z6)]
    have kE : KQ (f + 1) (xwa c) (S + xwr c + 1) cE c1 := kA.tr k6.2.1 (Nat.le_refl _) (Nat.le_refl _) (by omega)
    refine hok a1 m k hr c1 ⟨k1, k2, k3, k4, k5, k6.1.trans ho, hE.tr kE (Nat.le_refl _) (Nat.le_refl _) (by omega), k7, k8, (kE.2.2.2.2 (S + xwr c) (by omega)).1.trans g8, k9, k6.2.2.2.2.1.trans w1, k6.2.2.2.2.2.1.trans w2, k6.2.2.2.2.2.2.trans w3, k6.2.2.2.1.trans w6, k6.2.2.1.trans z6⟩
theorem arg_end {q : Int} (hT : TOK tk tv ta sc n T N Pl Lt) (hp : PreC n f c (a + 1)) {sq name : Int} (hsq : sq = 13 ∨ sq = 14) (h : ARG S n f c c1 a1 k name sq q) (h1 : T a1 = 41) (he : e = a1 + 1) (hk : ∀ c2, ChP S n f c c2 e false ((sq, (k.length : Int) + 2) :: (k ++ [(15, 4 * name + q)])) → EE tk tv ta sc S Q c2) : EE tk tv ta sc S Q (argC tk tv ta S c1) := by
  obtain ⟨q1, q2, q3, q4, q5, q6, q7⟩ := hp
  obtain ⟨k1, k2, k3, k4, k5, k6, k7, k8, k9, k10, k11, k12, k13, k14, k15, k16⟩ := h
  have z1 : tk (xnx c1) = 5 ∧ tv (xnx c1) = 41 := (hT.sg k5 (by decide)).mp (by rw [k4]; exact h1)
  have n1 := hT.nx k5 (by rw [k4]; omega)
  unfold argC
  rw [show xfr c1 - 1 = f + 1 by omega, if_neg (by omega), if_pos z1, k12, k13, k14]
  refine hk _ ?_
  have hX : KQ (f + 1) (xwa c) (S + xwr c) c1 (patC (emitC S (skC c1) 15 (4 * name + q)) ((S + xwr c : Nat) : Int) (S + (xwr c1 + 1) : Nat)) := (KQ.sk.tr (KQ.emit (c := skC c1) (show S + xwr c ≤ S + xwr c1 by omega)) (Nat.le_refl _) (Nat.le_refl _) (Nat.le_refl _)).tr (KQ.pat (by omega)) (Nat.le_refl _) (Nat.le_refl _) (Nat.le_refl _)
  refine cls_in q3 (k7.tr hX (Nat.le_refl _) (Nat.le_refl _) (Nat.le_refl _)) k6 k1 k2 (by show ((xnx c1 + 1 : Nat) : Int) = e; omega) n1 k8 ?_ ⟨?_, ?_, ?_⟩ q7
  · show xwr c1 + 1 = xwr c + _
    simp only [List.length_cons, List.length_append, List.length_nil]; omega
  · show uz (xst c1) (S + xwr c1) 15 (S + xwr c) = sq
    rw [uz_ne (by omega)]; exact k10
  · show uz (uz (xwi c1) (S + xwr c1) (4 * name + q)) ((S + xwr c : Nat) : Int).toNat (S + (xwr c1 + 1) : Nat) (S + xwr c) = _
    rw [show ((S + xwr c : Nat) : Int).toNat = S + xwr c from rfl, uz_eq, tgt_j (by show isJ sq; omega)]
    show _ = ((S + xwr c : Nat) : Int) + ((k.length : Int) + 2)
    omega
  · refine SEG.app.mpr ⟨k11.keep (fun j j1 j2 => ⟨?_, ?_⟩), ⟨?_, ?_, trivial⟩⟩
    · show uz (xst c1) (S + xwr c1) 15 j = _
      rw [uz_ne (by omega)]
    · show uz (uz (xwi c1) (S + xwr c1) (4 * name + q)) ((S + xwr c : Nat) : Int).toNat (S + (xwr c1 + 1) : Nat) j = _
      rw [show ((S + xwr c : Nat) : Int).toNat = S + xwr c from rfl, uz_ne (by omega), uz_ne (by omega)]
    · show uz (xst c1) (S + xwr c1) 15 (S + xwr c + 1 + k.length) = 15
      rw [show S + xwr c + 1 + k.length = S + xwr c1 by omega, uz_eq]
    · show uz (uz (xwi c1) (S + xwr c1) (4 * name + q)) ((S + xwr c : Nat) : Int).toNat (S + (xwr c1 + 1) : Nat) (S + xwr c + 1 + k.length) = _
      rw [show S + xwr c + 1 + k.length = S + xwr c1 by omega, show ((S + xwr c : Nat) : Int).toNat = S + xwr c from rfl, uz_ne (by omega), uz_eq]
      exact (tgt_n (y := (15, 4 * name + q)) (show ¬ isJ 15 by decide)).symm
theorem arg_bad {q : Int} (hT : TOK tk tv ta sc n T N Pl Lt) {sq name : Int} (h : ARG S n f c c1 a1 k name sq q) (h1 : ¬ T a1 = 41) (h2 : ¬ (T a1 = 44 ∧ q = 1)) (hk : ∀ c1, xer c1 = 2 → xwh c1 = Pl a1 → Q c1) : EE tk tv ta sc S Q (argC tk tv ta S c1) := by
  obtain ⟨k1, k2, k3, k4, k5, k6, k7, k8, k9, k10, k11, k12, k13, k14, k15, k16⟩ := h
  have z1 := hT.sg (i := xnx c1) k5 (ch := 41) (by decide)
  have z2 := hT.sg (i := xnx c1) k5 (ch := 44) (by decide)
  rw [k4] at z1 z2
  unfold argC
  rw [show xfr c1 - 1 = f + 1 by omega, k14, if_neg (by omega), if_neg (by omega)]
  exact mis_go hT k1 k5 k4 hk
theorem arg_two (hT : TOK tk tv ta sc n T N Pl Lt) (hp : PreC n f c (a + 1)) (hdf : d = (f : Int)) {sq name : Int} (h : ARG S n f c c1 a1 k name sq 1) (h1 : T a1 = 44) (he : e = a1 + 1) (hd1 : d1 = d + 1) (h2 : Q0 tk tv ta sc S n Pl d1 e r) (hd4 : d1 ≤ 4)
    (hbad : ∀ x p, r = .inr (x, p) → ∀ c1, xer c1 = x → xwh c1 = p → Q c1) (hok : ∀ a2 m k2, r = .inl (a2, m, k2) → ∀ c3, ARG S n f c c3 a2 (k ++ k2) name sq 2 → EE tk tv ta sc S Q (argC tk tv ta S c3)) : EE tk tv ta sc S Q (argC tk tv ta S c1) := by
  obtain ⟨q1, q2, q3, q4, q5, q6, q7⟩ := hp
  obtain ⟨k1, k2, k3, k4, k5, k6, k7, k8, k9, k10, k11, k12, k13, k14, k15, k16⟩ := h
  have z1 : tk (xnx c1) = 5 ∧ tv (xnx c1) = 44 := (hT.sg k5 (by decide)).mp (by rw [k4]; exact h1)
  have n1 := hT.nx k5 (by rw [k4]; omega)
  unfold argC
  rw [show xfr c1 - 1 = f + 1 by omega, k14, if_pos ⟨z1, rfl⟩]
  have hfr : ∀ y, uz y (f + 1 + 1 - 1) = uz y (f + 1) := fun _ => rfl
  generalize hC2 : freC _ = C2
  have kF : KQ (f + 1) (xwa c1) (S + xwr c1) c1 C2 := by
    subst hC2
    refine ⟨rfl, rfl, fun i hi => ⟨?_, ?_, ?_, ?_, ?_, ?_, ?_, ?_, ?_⟩, fun i hi => ⟨?_, ?_, ?_⟩, fun i hi => ⟨?_, ?_⟩⟩ <;> first | rfl | exact uz_ne (by omega) | exact uz_ne (show ¬ i = xfr c1 - 1 by omega)
  have g0 : xfr C2 = f + 1 + 1 := by subst hC2; exact k6
  have g1 : xer C2 = 0 := by subst hC2; exact k1
  have g2 : xdn C2 = 0 := by subst hC2; exact k2
  have g3 : xnx C2 = xnx c1 + 1 := by subst hC2; rfl
  have g4 : ¬ xop C2 = 0 := by subst hC2; show ¬ (1 : Int) = 0; decide
  have g5 : xsg C2 (f + 1) = 0 := by subst hC2; show uz (xsg c1) (xfr c1 - 1) 0 (f + 1) = 0; rw [show xfr c1 - 1 = f + 1 by omega, uz_eq]
  have g6 : xcl C2 (f + 1) = 0 := by subst hC2; show uz (xcl c1) (xfr c1 - 1) 0 (f + 1) = 0; rw [show xfr c1 - 1 = f + 1 by omega, uz_eq]
  have g7 : xbs C2 (f + 1) = (xwa c1 : Int) := by subst hC2; show uz (xbs c1) (xfr c1 - 1) (xwa c1) (f + 1) = _; rw [show xfr c1 - 1 = f + 1 by omega, uz_eq]
  have g8 : xck C2 (f + 1) = 2 := by subst hC2; show uz (xck c1) (f + 1) 2 (f + 1) = 2; rw [uz_eq]
  have g9 : xwa C2 = xwa c1 ∧ xwr C2 = xwr c1 ∧ xpa C2 = xpa c1 ∧ xcn C2 = xcn c1 ∧ xfm C2 = xfm c1 := by subst hC2; exact ⟨rfl, rfl, rfl, rfl, rfl⟩
  obtain ⟨g9, g10, g11, g12, g13⟩ := g9
  refine h2.2 Q C2 (f + 1) (by omega) ⟨g1, g2, g0, by omega, by omega, by omega, g6⟩ g4 g5 (by rw [g7, g9]) (KT.of hbad (fun a2 m k2 hr c3 hc => ?_))
  obtain ⟨j1, j2, j3, j4, j5, j6, j7, j8, j9, j10⟩ := hc
  rw [g10] at j6 j8 j9
  rw [g9] at j6 j7
  rw [fi2_3 (f := f) (j6.1.trans g0) (j6.2.2.1.trans (by rw [g13]; exact k16))]
  have kE : KQ (f + 1) (xwa c1) (S + xwr c1) c1 c3 := kF.tr j6.2.1 (Nat.le_refl _) (Nat.le_refl _) (Nat.le_refl _)
  refine hok a2 m k2 hr c3 ⟨j1, j2, j3, j4, j5, j6.1.trans g0, k7.tr kE (Nat.le_refl _) (by omega) (by omega), j7.trans k8, ?_, (kE.2.2.2.2 (S + xwr c) (by omega)).1.trans k10, SEG.app.mpr ⟨k11.keep (fun j q1 q2 => kE.2.2.2.2 j (by omega)), ?_⟩, ?_, ?_, j6.2.2.2.2.2.2.trans g8, ?_, j6.2.2.1.trans (by rw [g13]; exact k16)⟩
  · rw [List.length_append]; omega
  · rw [show S + xwr c + 1 + k.length = S + xwr c1 by omega]; exact j9
  · exact j6.2.2.2.2.1.trans (by rw [g11]; exact k12)
  · exact j6.2.2.2.2.2.1.trans (by rw [g12]; exact k13)
  · exact j6.2.2.2.1.trans (by rw [g7, k8])
theorem nj_p {s : Bool} : ¬ isJ (if s then 12 else 11) := by cases s <;> decide
theorem ij_p {s : Bool} : isJ (if s then 14 else 13) := by cases s <;> decide
theorem S_member_p (hT : TOK tk tv ta sc n T N Pl Lt) (hb : b = a + 1) (h : ¬ T b = 40) : QA tk tv ta sc S n T N s d a (.inl (b, true, [(if s then 12 else 11, N a)])) := by
  intro Q c f hd hp h2 hk
  obtain ⟨q1, q2, q3, q4, q5, q6, q7⟩ := id hp
  have es : (if (if s then (1 : Int) else 0) = 0 then (11 : Int) else 12) = if s then 12 else 11 := by cases s <;> rfl
  unfold namC
  rw [if_neg (fun z => h (by rw [hb, ← q5]; exact (hT.sg q6 (by decide)).mpr z)), es]
  refine hk _ ⟨q1, q2, rfl, by show (xnx c : Int) = b; omega, q6, ⟨rfl, (KQ.emit (Nat.le_refl _)).tr (KQ.rdy (show f ≤ xfr c - 1 by omega)) (Nat.le_refl _) (Nat.le_refl _) (Nat.le_refl _), ⟨rfl, rfl, rfl, rfl, rfl⟩⟩, rfl, rfl, SEG.one uz_eq (uz_eq.trans (tgt_n (y := (if s then 12 else 11, N a)) nj_p).symm), rfl, rfl, q7, ?_⟩
  show true = true ↔ ¬ uz (xam c) (xfr c - 1) 1 f = 0
  rw [show xfr c - 1 = f by omega, uz_eq]; simp
theorem S_member_0 (hT : TOK tk tv ta sc n T N Pl Lt) (hb : b = a + 1) (h : T b = 40) (hcc : cc = b + 1) (h2 : T cc = 41) (he : e = cc + 1) : QA tk tv ta sc S n T N s d a (.inl (e, false, [(if s then 14 else 13, 2), (15, 4 * N a)])) := by
  intro Q c f hd hp hn2 hk
  obtain ⟨q1, q2, q3, q4, q5, q6, q7⟩ := id hp
  obtain ⟨e1, n1⟩ := nam_call (S := S) hT q6 (q5.trans hb.symm) h (name := N a) (soft := if s then 1 else 0)
  have es : (if (if s then (1 : Int) else 0) = 0 then (13 : Int) else 14) = if s then 14 else 13 := by cases s <;> rfl
  have ec : ((xnx c + 1 : Nat) : Int) = cc := by omega
  have n2 := hT.nx n1 (by rw [ec]; omega)
  rw [e1]
  unfold calC
  rw [es, if_pos (show isS tk tv (emitC S (skC c) (if s then 14 else 13) 0) 41 from (hT.sg (i := xnx c + 1) n1 (ch := 41) (by decide)).mp (by rw [ec]; exact h2))]
  have k0 : KQ f (xwa c) (S + xwr c) c (patC (emitC S (skC (emitC S (skC c) (if s then 14 else 13) 0)) 15 (4 * N a)) (S + xwr c : Nat) (S + (xwr c + 2) : Nat)) := (((KQ.sk.tr (KQ.emit (c := skC c) (Nat.le_refl _)) (Nat.le_refl _) (Nat.le_refl _) (Nat.le_refl _)).tr KQ.sk (Nat.le_refl _) (Nat.le_refl _) (Nat.le_refl _)).tr (KQ.emit (c := skC (emitC S (skC c) (if s then 14 else 13) 0)) (show S + xwr c ≤ S + (xwr c + 1) by omega)) (Nat.le_refl _) (Nat.le_refl _) (Nat.le_refl _)).tr (KQ.pat (show S + xwr c ≤ ((S + xwr c : Nat) : Int).toNat from Nat.le_refl _)) (Nat.le_refl _) (Nat.le_refl _) (Nat.le_refl _)
  refine hk _ ⟨q1, q2, rfl, by show ((xnx c + 1 + 1 : Nat) : Int) = e; omega, n2, ⟨rfl, k0.tr (KQ.rdy (show f ≤ xfr c - 1 by omega)) (Nat.le_refl _) (Nat.le_refl _) (Nat.le_refl _), ⟨rfl, rfl, rfl, rfl, rfl⟩⟩, rfl, rfl, ⟨?_, ?_, ?_, ?_, trivial⟩, rfl, rfl, q7, ?_⟩
  · show uz (uz (xst c) (S + xwr c) (if s then 14 else 13)) (S + (xwr c + 1)) 15 (S + xwr c) = _
    rw [uz_ne (by omega), uz_eq]
  · show uz (uz (uz (xwi c) (S + xwr c) 0) (S + (xwr c + 1)) (4 * N a)) ((S + xwr c : Nat) : Int).toNat ((S + (xwr c + 2) : Nat) : Int) (S + xwr c) = _
    rw [show ((S + xwr c : Nat) : Int).toNat = S + xwr c from rfl, uz_eq, tgt_j (y := (if s then 14 else 13, 2)) ij_p]
    show _ = ((S + xwr c : Nat) : Int) + 2
    omega
  · show uz (uz (xst c) (S + xwr c) (if s then 14 else 13)) (S + (xwr c + 1)) 15 (S + xwr c + 1) = _
    rw [show S + xwr c + 1 = S + (xwr c + 1) by omega, uz_eq]
  · show uz (uz (uz (xwi c) (S + xwr c) 0) (S + (xwr c + 1)) (4 * N a)) ((S + xwr c : Nat) : Int).toNat ((S + (xwr c + 2) : Nat) : Int) (S + xwr c + 1) = _
    rw [show ((S + xwr c : Nat) : Int).toNat = S + xwr c from rfl, uz_ne (by omega), show S + xwr c + 1 = S + (xwr c + 1) by omega, uz_eq]
    exact (tgt_n (y := (15, 4 * N a)) (show ¬ isJ 15 by decide)).symm
  · show false = true ↔ ¬ uz (xam c) (xfr c - 1) 0 f = 0
    rw [show xfr c - 1 = f by omega, uz_eq]; simp
theorem S_member_1e (hT : TOK tk tv ta sc n T N Pl Lt) (hb : b = a + 1) (h1 : T b = 40) (hcc : cc = b + 1) (h2 : ¬ T cc = 41) (hd1 : d1 = d + 1) (h : Q0 tk tv ta sc S n Pl d1 cc (.inr (x, p))) : QA tk tv ta sc S n T N s d a (.inr (x, p)) := by
  intro Q c f hd hp hn2 hk
  exact arg_go hT hp hd hb h1 hcc h2 hd1 h (fun x p e => by cases e; exact hk) (fun a m k e => by cases e)
theorem S_member_1 (hT : TOK tk tv ta sc n T N Pl Lt) (hb : b = a + 1) (h1 : T b = 40) (hcc : cc = b + 1) (h2 : ¬ T cc = 41) (hd1 : d1 = d + 1) (h : Q0 tk tv ta sc S n Pl d1 cc (.inl (a1, m, k))) (h3 : T a1 = 41) (he : e = a1 + 1) : QA tk tv ta sc S n T N s d a (.inl (e, false, (if s then 14 else 13, (k.length : Int) + 2) :: (k ++ [(15, 4 * N a + 1)]))) := by
  intro Q c f hd hp hn2 hk
  exact arg_go hT hp hd hb h1 hcc h2 hd1 h (fun x p e => by cases e) (fun a m k e c1 hc => by cases e; exact arg_end hT hp (by cases s <;> simp) hc h3 he hk)
theorem S_member_1x (hT : TOK tk tv ta sc n T N Pl Lt) (hb : b = a + 1) (h1 : T b = 40) (hcc : cc = b + 1) (h2 : ¬ T cc = 41) (hd1 : d1 = d + 1) (h : Q0 tk tv ta sc S n Pl d1 cc (.inl (a1, m, k))) (h3 : ¬ T a1 = 44) (h4 : ¬ T a1 = 41) (hp0 : p = Pl a1) : QA tk tv ta sc S n T N s d a (.inr (2, p)) := by
  intro Q c f hd hp hn2 hk
  exact arg_go hT hp hd hb h1 hcc h2 hd1 h (fun x p e => by cases e) (fun a m k e c1 hc => by cases e; exact arg_bad hT hc h4 (by omega) (fun c1 k1 k2 => hk c1 k1 (k2.trans hp0.symm)))
theorem S_member_2e (hT : TOK tk tv ta sc n T N Pl Lt) (hb : b = a + 1) (h1 : T b = 40) (hcc : cc = b + 1) (h2 : ¬ T cc = 41) (hd1 : d1 = d + 1) (h : Q0 tk tv ta sc S n Pl d1 cc (.inl (a1, m, k))) (h3 : T a1 = 44) (he : e = a1 + 1) (h4 : Q0 tk tv ta sc S n Pl d1 e (.inr (x, p))) : QA tk tv ta sc S n T N s d a (.inr (x, p)) := by
  intro Q c f hd hp hn2 hk
  have hd4 : d1 ≤ 4 := by
    by_cases z : 4 < d1
    · exact absurd (h.1 z) (by simp)
    · omega
  exact arg_go hT hp hd hb h1 hcc h2 hd1 h (fun x p e => by cases e) (fun a m k e c1 hc => by cases e; exact arg_two hT hp hd hc h3 he hd1 h4 hd4 (fun x p e => by cases e; exact hk) (fun a m k e => by cases e))
theorem S_member_2 (hT : TOK tk tv ta sc n T N Pl Lt) (hb : b = a + 1) (h1 : T b = 40) (hcc : cc = b + 1) (h2 : ¬ T cc = 41) (hd1 : d1 = d + 1) (h : Q0 tk tv ta sc S n Pl d1 cc (.inl (a1, m, k))) (h3 : T a1 = 44) (he : e = a1 + 1) (h4 : Q0 tk tv ta sc S n Pl d1 e (.inl (a2, m2, k2))) (h5 : T a2 = 41) (hl : l = a2 + 1) : QA tk tv ta sc S n T N s d a (.inl (l, false, (if s then 14 else 13, (k.length : Int) + (k2.length : Int) + 2) :: (k ++ (k2 ++ [(15, 4 * N a + 2)])))) := by
  intro Q c f hd hp hn2 hk
  have hd4 : d1 ≤ 4 := by
    by_cases z : 4 < d1
    · exact absurd (h.1 z) (by simp)
    · omega
  exact arg_go hT hp hd hb h1 hcc h2 hd1 h (fun x p e => by cases e) (fun a m k e c1 hc => by
    cases e
    exact arg_two hT hp hd hc h3 he hd1 h4 hd4 (fun x p e => by cases e) (fun a m k e c3 hc3 => by
      cases e
      exact arg_end hT hp (by cases s <;> simp) hc3 h5 hl (fun c2 hc2 => hk c2 (by
        rw [List.append_assoc, List.length_append, Int.natCast_add] at hc2; exact hc2))))
theorem S_member_2x (hT : TOK tk tv ta sc n T N Pl Lt) (hb : b = a + 1) (h1 : T b = 40) (hcc : cc = b + 1) (h2 : ¬ T cc = 41) (hd1 : d1 = d + 1) (h : Q0 tk tv ta sc S n Pl d1 cc (.inl (a1, m, k))) (h3 : T a1 = 44) (he : e = a1 + 1) (h4 : Q0 tk tv ta sc S n Pl d1 e (.inl (a2, m2, k2))) (h5 : ¬ T a2 = 41) (hp0 : p = Pl a2) : QA tk tv ta sc S n T N s d a (.inr (2, p)) := by
  intro Q c f hd hp hn2 hk
  have hd4 : d1 ≤ 4 := by
    by_cases z : 4 < d1
    · exact absurd (h.1 z) (by simp)
    · omega
  exact arg_go hT hp hd hb h1 hcc h2 hd1 h (fun x p e => by cases e) (fun a m k e c1 hc => by
    cases e
    exact arg_two hT hp hd hc h3 he hd1 h4 hd4 (fun x p e => by cases e) (fun a m k e c3 hc3 => by
      cases e
      exact arg_bad hT hc3 h5 (by omega) (fun c1 k1 k2 => hk c1 k1 (k2.trans hp0.symm))))
end SIM2
