/-! ===== the reader's functions: what they keep, how they end ===== -/
def rst (c : PSt) : PSt := mkC (xfr c) 0 (xnx c) (xop c) (xer c) (xwh c) (xdn c) 0 (xtg c) (xts c) (xfm c) (xbs c) (xsg c) (xpa c) (xcn c) (xck c) (xcl c) (xpl c) (xam c) (xoo c) (xlv c) (xjm c) (fun _ => 0) (fun _ => 0)
section RD
variable {S : Nat} {t t2 : Int} {c c2 c3 : PSt} {n : Nat}
theorem pop_rst : rst (popC S c) = rst c := by
  unfold popC
  split <;> rfl
theorem pop_fr : xfr (popC S c) = xfr c := show xfr (rst (popC S c)) = xfr (rst c) from congrArg xfr pop_rst
theorem pop_bs : xbs (popC S c) = xbs c := show xbs (rst (popC S c)) = xbs (rst c) from congrArg xbs pop_rst
theorem pop_lv : xlv (popC S c) = xlv c := show xlv (rst (popC S c)) = xlv (rst c) from congrArg xlv pop_rst
theorem pop_wa : xwa (popC S c) = xwa c - 1 := by
  unfold popC
  split <;> rfl
theorem pop_wr : xwr (popC S c) = xwr c + 1 := by
  unfold popC
  split <;> rfl
theorem redF_rst : rst (redF S t n c) = rst c := by
  induction n generalizing c with
  | zero => rfl
  | succ n ih =>
    unfold redF
    split
    · rw [ih, pop_rst]
    · rfl
theorem red_rst : rst (redC S t c) = rst c := redF_rst
theorem red_fr : xfr (redC S t c) = xfr c := show xfr (rst (redC S t c)) = xfr (rst c) from congrArg xfr red_rst
theorem red_nx : xnx (redC S t c) = xnx c := show xnx (rst (redC S t c)) = xnx (rst c) from congrArg xnx red_rst
theorem red_op : xop (redC S t c) = xop c := show xop (rst (redC S t c)) = xop (rst c) from congrArg xop red_rst
theorem red_er : xer (redC S t c) = xer c := show xer (rst (redC S t c)) = xer (rst c) from congrArg xer red_rst
theorem red_dn : xdn (redC S t c) = xdn c := show xdn (rst (redC S t c)) = xdn (rst c) from congrArg xdn red_rst
theorem red_bs : xbs (redC S t c) = xbs c := show xbs (rst (redC S t c)) = xbs (rst c) from congrArg xbs red_rst
theorem red_sg : xsg (redC S t c) = xsg c := show xsg (rst (redC S t c)) = xsg (rst c) from congrArg xsg red_rst
theorem red_cl : xcl (redC S t c) = xcl c := show xcl (rst (redC S t c)) = xcl (rst c) from congrArg xcl red_rst
theorem red_pl : xpl (redC S t c) = xpl c := show xpl (rst (redC S t c)) = xpl (rst c) from congrArg xpl red_rst
theorem red_am : xam (redC S t c) = xam c := show xam (rst (redC S t c)) = xam (rst c) from congrArg xam red_rst
theorem red_lv : xlv (redC S t c) = xlv c := show xlv (rst (redC S t c)) = xlv (rst c) from congrArg xlv red_rst
theorem red_stop (h : ¬ canP t c) : redC S t c = c := by
  unfold redC
  cases hw : xwa c with
  | zero => rfl
  | succ n => unfold redF; rw [if_neg h]
theorem red_go (hw : 0 < xwa c) (h : canP t c) : redC S t c = redC S t (popC S c) := by
  unfold redC
  rw [pop_wa]
  cases hw2 : xwa c with
  | zero => omega
  | succ n => rw [show n + 1 - 1 = n from rfl, redF, if_pos h]
theorem red_red (h : t ≤ t2) : redC S t (redC S t2 c) = redC S t c := by
  induction hn : xwa c generalizing c with
  | zero =>
    have e : redC S t2 c = c := by unfold redC; rw [hn]; rfl
    rw [e]
  | succ n ih =>
    by_cases h2 : canP t2 c
    · have h1 : canP t c := ⟨h2.1, by have := h2.2; omega⟩
      rw [red_go (t := t2) (by omega) h2, red_go (t := t) (by omega) h1]
      exact ih (by rw [pop_wa]; omega)
    · rw [red_stop h2]
end RD
/-! ===== what is kept, code, and the ends of readings ===== -/
def FRA (i : Nat) (c c' : PSt) : Prop := xfm c' i = xfm c i ∧ xbs c' i = xbs c i ∧ xsg c' i = xsg c i ∧ xpa c' i = xpa c i ∧ xcn c' i = xcn c i ∧ xck c' i = xck c i ∧ xcl c' i = xcl c i ∧ xpl c' i = xpl c i ∧ xam c' i = xam c i
def FRB (i : Nat) (c c' : PSt) : Prop := xfm c' i = xfm c i ∧ xbs c' i = xbs c i ∧ xpa c' i = xpa c i ∧ xcn c' i = xcn c i ∧ xck c' i = xck c i
/-- below frame g, op w and place p nothing has changed -/
def KQ (g w p : Nat) (c c' : PSt) : Prop := xtg c' = xtg c ∧ xts c' = xts c ∧ (∀ i, i < g → FRA i c c') ∧ (∀ i, i < w → xlv c' i = xlv c i ∧ xoo c' i = xoo c i ∧ xjm c' i = xjm c i) ∧ (∀ i, i < p → xst c' i = xst c i ∧ xwi c' i = xwi c i)
def KP (f w p : Nat) (c c' : PSt) : Prop := xfr c' = xfr c ∧ KQ f w p c c' ∧ FRB f c c'
abbrev isJ (s : Int) : Prop := s = 13 ∨ s = 14 ∨ s = 32 ∨ s = 33 ∨ s = 35 ∨ s = 36 ∨ s = 37
def tgt (x : Int × Int) (i : Nat) : Int := if isJ x.1 then (i : Int) + x.2 else x.2
def SEG (c : PSt) : Nat → IS → Prop
  | _, [] => True
  | i, x :: k => xst c i = x.1 ∧ xwi c i = tgt x i ∧ SEG c (i + 1) k
theorem FRA.rf {i : Nat} {c : PSt} : FRA i c c := ⟨rfl, rfl, rfl, rfl, rfl, rfl, rfl, rfl, rfl⟩
theorem FRB.rf {i : Nat} {c : PSt} : FRB i c c := ⟨rfl, rfl, rfl, rfl, rfl⟩
theorem FRA.tr {i : Nat} {c c2 c3 : PSt} (h : FRA i c c2) (h2 : FRA i c2 c3) : FRA i c c3 := by
  obtain ⟨a1, a2, a3, a4, a5, a6, a7, a8, a9⟩ := h
  obtain ⟨b1, b2, b3, b4, b5, b6, b7, b8, b9⟩ := h2
  exact ⟨b1.trans a1, b2.trans a2, b3.trans a3, b4.trans a4, b5.trans a5, b6.trans a6, b7.trans a7, b8.trans a8, b9.trans a9⟩
theorem FRA.b {i : Nat} {c c2 : PSt} (h : FRA i c c2) : FRB i c c2 := ⟨h.1, h.2.1, h.2.2.2.1, h.2.2.2.2.1, h.2.2.2.2.2.1⟩
theorem FRB.tr {i : Nat} {c c2 c3 : PSt} (h : FRB i c c2) (h2 : FRB i c2 c3) : FRB i c c3 := by
  obtain ⟨a1, a2, a3, a4, a5⟩ := h
  obtain ⟨b1, b2, b3, b4, b5⟩ := h2
  exact ⟨b1.trans a1, b2.trans a2, b3.trans a3, b4.trans a4, b5.trans a5⟩
theorem KQ.rf {f w p : Nat} {c : PSt} : KQ f w p c c := ⟨rfl, rfl, fun _ _ => FRA.rf, fun _ _ => ⟨rfl, rfl, rfl⟩, fun _ _ => ⟨rfl, rfl⟩⟩
theorem KQ.tr {f f2 w w2 p p2 : Nat} {c c2 c3 : PSt} (h : KQ f w p c c2) (h2 : KQ f2 w2 p2 c2 c3) (hf : f ≤ f2) (hw : w ≤ w2) (hp : p ≤ p2) : KQ f w p c c3 := by
  obtain ⟨a2, a3, a4, a6, a7⟩ := h
  obtain ⟨b2, b3, b4, b6, b7⟩ := h2
  refine ⟨b2.trans a2, b3.trans a3, fun i hi => (a4 i hi).tr (b4 i (by omega)), fun i hi => ?_, fun i hi => ?_⟩
  · obtain ⟨x1, x2, x3⟩ := a6 i hi
    obtain ⟨y1, y2, y3⟩ := b6 i (by omega)
    exact ⟨y1.trans x1, y2.trans x2, y3.trans x3⟩
  · obtain ⟨x1, x2⟩ := a7 i hi
    obtain ⟨y1, y2⟩ := b7 i (by omega)
    exact ⟨y1.trans x1, y2.trans x2⟩
theorem KQ.le {f f2 w w2 p p2 : Nat} {c c2 : PSt} (h : KQ f2 w2 p2 c c2) (hf : f ≤ f2) (hw : w ≤ w2) (hp : p ≤ p2) : KQ f w p c c2 := KQ.rf.tr h hf hw hp
theorem KP.rf {f w p : Nat} {c : PSt} : KP f w p c c := ⟨rfl, KQ.rf, FRB.rf⟩
theorem KP.tr {f w w2 p p2 : Nat} {c c2 c3 : PSt} (h : KP f w p c c2) (h2 : KP f w2 p2 c2 c3) (hw : w ≤ w2) (hp : p ≤ p2) : KP f w p c c3 :=
  ⟨h2.1.trans h.1, h.2.1.tr h2.2.1 (Nat.le_refl _) hw hp, h.2.2.tr h2.2.2⟩
/-- all of the frame is kept too -/
theorem KQ.kp {f w p : Nat} {c c2 : PSt} (h : KQ (f + 1) w p c c2) (hr : xfr c2 = xfr c) : KP f w p c c2 := ⟨hr, h.le (by omega) (Nat.le_refl _) (Nat.le_refl _), (h.2.2.1 f (by omega)).b⟩
theorem SEG.app {c : PSt} {i : Nat} {k k2 : IS} : SEG c i (k ++ k2) ↔ SEG c i k ∧ SEG c (i + k.length) k2 := by
  induction k generalizing i with
  | nil => simp [SEG]
  | cons x k ih =>
    simp only [List.cons_append, SEG, List.length_cons, ih, and_assoc]
    rw [show i + 1 + k.length = i + (k.length + 1) by omega]
theorem SEG.keep {c c2 : PSt} {i : Nat} {k : IS} (h : SEG c i k) (hk : ∀ j, i ≤ j → j < i + k.length → xst c2 j = xst c j ∧ xwi c2 j = xwi c j) : SEG c2 i k := by
  induction k generalizing i with
  | nil => trivial
  | cons x k ih =>
    obtain ⟨h1, h2, h3⟩ := h
    have hl : (x :: k).length = k.length + 1 := rfl
    obtain ⟨e1, e2⟩ := hk i (by omega) (by omega)
    exact ⟨e1.trans h1, e2.trans h2, ih h3 (fun j a b => hk j (by omega) (by omega))⟩
theorem SEG.one {c : PSt} {i : Nat} {x : Int × Int} (h1 : xst c i = x.1) (h2 : xwi c i = tgt x i) : SEG c i [x] := ⟨h1, h2, trivial⟩
def KT (Q : PSt → Prop) (r : GR) (o : Int → Bool → IS → Prop) : Prop := match r with
  | .inr (e, p) => ∀ c1, xer c1 = e → xwh c1 = p → Q c1
  | .inl (a, m, k) => o a m k
section EES
variable (tk tv ta sc : Nat → Int) (S : Nat) (Q : PSt → Prop)
def EEn : Nat → PSt → Prop
  | 0, c => (¬ xer c = 0 ∨ ¬ xdn c = 0) ∧ Q c
  | n + 1, c => xer c = 0 ∧ xdn c = 0 ∧ EEn n (stpC tk tv ta sc S c)
/-- the turns from here end, and so -/
def EE (c : PSt) : Prop := ∃ n, EEn tk tv ta sc S Q n c
end EES
section EET
variable {tk tv ta sc : Nat → Int} {S : Nat} {Q : PSt → Prop} {c : PSt}
theorem EE_e (h : ¬ xer c = 0) (hq : Q c) : EE tk tv ta sc S Q c := ⟨0, Or.inl h, hq⟩
theorem EE_d (h : ¬ xdn c = 0) (hq : Q c) : EE tk tv ta sc S Q c := ⟨0, Or.inr h, hq⟩
theorem EE_s (h : xer c = 0) (h2 : xdn c = 0) (hq : EE tk tv ta sc S Q (stpC tk tv ta sc S c)) : EE tk tv ta sc S Q c := by
  obtain ⟨n, hn⟩ := hq
  exact ⟨n + 1, h, h2, hn⟩
theorem EE_f (h : xer c = 0) (h2 : xdn c = 0) (h3 : ¬ xfr c = 0) (h4 : ¬ xop c = 0) (hq : EE tk tv ta sc S Q (fstC tk tv ta sc S c)) : EE tk tv ta sc S Q c := by
  refine EE_s h h2 ?_
  unfold stpC
  rw [if_neg h3, if_neg h4]; exact hq
theorem EE_b (h : xer c = 0) (h2 : xdn c = 0) (h3 : ¬ xfr c = 0) (h4 : xop c = 0) (hq : EE tk tv ta sc S Q (behC tk tv ta S c)) : EE tk tv ta sc S Q c := by
  refine EE_s h h2 ?_
  unfold stpC
  rw [if_neg h3, if_pos h4]; exact hq
theorem wrong_is {e w : Int} (h : xer c = 0) : xer (wrongC c e w) = e ∧ xwh (wrongC c e w) = w := by
  unfold wrongC
  rw [if_pos h]
  exact ⟨rfl, rfl⟩
theorem EE_w {e w : Int} (he : ¬ e = 0) (h : xer c = 0) (hq : ∀ c1, xer c1 = e → xwh c1 = w → Q c1) : EE tk tv ta sc S Q (wrongC c e w) := by
  have k := wrong_is (e := e) (w := w) h
  exact EE_e (by rw [k.1]; exact he) (hq _ k.1 k.2)
/-- unfolding the end: a run that is under way goes on, one that has ended keeps what is asked -/
theorem EE_go (h : xer c = 0) (h2 : xdn c = 0) (hq : EE tk tv ta sc S Q c) : EE tk tv ta sc S Q (stpC tk tv ta sc S c) := by
  obtain ⟨n, hn⟩ := hq
  cases n with
  | zero =>
    rcases hn.1 with k | k
    · exact absurd h k
    · exact absurd h2 k
  | succ n => exact ⟨n, hn.2.2⟩
theorem EE_at (h : ¬ xer c = 0 ∨ ¬ xdn c = 0) (hq : EE tk tv ta sc S Q c) : Q c := by
  obtain ⟨n, hn⟩ := hq
  cases n with
  | zero => exact hn.2
  | succ n =>
    rcases h with k | k
    · exact absurd hn.1 k
    · exact absurd hn.2.1 k
end EET
