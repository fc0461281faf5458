/-! ===== the tokens ===== -/
def TOK (tk tv ta sc : Nat → Int) (n : Nat) (T N Pl : Int → Int) (Lt : Int → Int × Int) : Prop :=
  1 ≤ n ∧ T ((n : Int) - 1) = 0 ∧ ∀ i : Nat, i < n → T (i : Int) = (if tk i = 5 then tv i else if tk i = 3 then 2 else if tk i = 0 then 0 else 1) ∧ (tk i = 5 → 33 ≤ tv i) ∧ (tk i = 0 ∨ tk i = 1 ∨ tk i = 2 ∨ tk i = 3 ∨ tk i = 4 ∨ tk i = 5) ∧ Pl (i : Int) = ta i ∧ (tk i = 3 → N (i : Int) = tv i) ∧ (T (i : Int) = 1 → Lt (i : Int) = (litI (tk i) (sc i), tv i)) ∧ (tk i = 2 → 1 ≤ sc i ∧ sc i ≤ 3)
section TK4
variable {tk tv ta sc : Nat → Int} {S n : Nat} {T N Pl : Int → Int} {Lt : Int → Int × Int} {Q : PSt → Prop} {c c0 c1 c2 c3 : PSt} {f w p g : Nat} {a a1 l d : Int} {m m1 : Bool} {k k1 k2 : IS}
variable {i : Nat}
theorem TOK.sg (h : TOK tk tv ta sc n T N Pl Lt) (hi : i < n) {ch : Int} (hc : 33 ≤ ch) : T (i : Int) = ch ↔ tk i = 5 ∧ tv i = ch := by
  obtain ⟨k1, k2, k3, -⟩ := h.2.2 i hi
  rw [k1]
  (repeat' split) <;> omega
theorem TOK.nm (h : TOK tk tv ta sc n T N Pl Lt) (hi : i < n) : T (i : Int) = 2 ↔ tk i = 3 := by
  obtain ⟨k1, k2, k3, -⟩ := h.2.2 i hi
  rw [k1]
  (repeat' split) <;> omega
theorem TOK.li (h : TOK tk tv ta sc n T N Pl Lt) (hi : i < n) : T (i : Int) = 1 ↔ (tk i = 1 ∨ tk i = 4 ∨ tk i = 2) := by
  obtain ⟨k1, k2, k3, -⟩ := h.2.2 i hi
  rw [k1]
  (repeat' split) <;> omega
theorem TOK.en (h : TOK tk tv ta sc n T N Pl Lt) (hi : i < n) : T (i : Int) = 0 ↔ tk i = 0 := by
  obtain ⟨k1, k2, k3, -⟩ := h.2.2 i hi
  rw [k1]
  (repeat' split) <;> omega
theorem TOK.lev (h : TOK tk tv ta sc n T N Pl Lt) (hi : xnx c < n) (ha : (xnx c : Int) = a) : levC tk tv c = LVO (T a) + 1 := by
  obtain ⟨k1, k2, k3, -⟩ := h.2.2 _ hi
  subst ha
  unfold levC
  rw [k1]
  (repeat' split)
  · rfl
  · rw [LVO_s (by omega)]; rfl
  · rw [LVO_s (by omega)]; rfl
  · rw [LVO_s (by omega)]; rfl
theorem TOK.nx (h : TOK tk tv ta sc n T N Pl Lt) (hi : i < n) (h0 : ¬ T (i : Int) = 0) : i + 1 < n := by
  rcases Nat.lt_or_ge (i + 1) n with k | k
  · exact k
  · exfalso
    have e := h.2.1
    rw [show (n : Int) - 1 = (i : Int) by omega] at e
    exact h0 e
theorem TOK.pl (h : TOK tk tv ta sc n T N Pl Lt) (hi : i < n) : Pl (i : Int) = ta i := (h.2.2 i hi).2.2.2.1
theorem TOK.nv (h : TOK tk tv ta sc n T N Pl Lt) (hi : i < n) (h2 : T (i : Int) = 2) : N (i : Int) = tv i := (h.2.2 i hi).2.2.2.2.1 ((h.nm hi).mp h2)
theorem TOK.lt (h : TOK tk tv ta sc n T N Pl Lt) (hi : i < n) (h2 : T (i : Int) = 1) : Lt (i : Int) = (litI (tk i) (sc i), tv i) := (h.2.2 i hi).2.2.2.2.2.1 h2
theorem TOK.lj (h : TOK tk tv ta sc n T N Pl Lt) (hi : i < n) (h2 : T (i : Int) = 1) : ¬ isJ (litI (tk i) (sc i)) := by
  have k := (h.2.2 i hi).2.2.2.2.2.2
  have k2 := (h.li hi).mp h2
  unfold litI
  (repeat' split) <;> omega
end TK4
/-! ===== what each function keeps ===== -/
section KQ4
variable {tk tv ta sc : Nat → Int} {S n : Nat} {T N Pl : Int → Int} {Lt : Int → Int × Int} {Q : PSt → Prop} {c c0 c1 c2 c3 : PSt} {f w p g : Nat} {a a1 l d : Int} {m m1 : Bool} {k k1 k2 : IS}
variable {s v : Int} {how name : Int}
theorem KQ.emit (hp : p ≤ S + xwr c) : KQ g w p c (emitC S c s v) := by
  refine ⟨rfl, rfl, fun i hi => ⟨?_, ?_, ?_, ?_, ?_, ?_, ?_, ?_, ?_⟩, fun i hi => ⟨?_, ?_, ?_⟩, fun i hi => ⟨?_, ?_⟩⟩ <;> first | rfl | exact uz_ne (by omega)
theorem KQ.pat {i0 : Int} (hp : p ≤ i0.toNat) : KQ g w p c (patC c i0 v) := by
  refine ⟨rfl, rfl, fun i hi => ⟨?_, ?_, ?_, ?_, ?_, ?_, ?_, ?_, ?_⟩, fun i hi => ⟨?_, ?_, ?_⟩, fun i hi => ⟨?_, ?_⟩⟩ <;> first | rfl | exact uz_ne (by omega)
theorem KQ.sk : KQ g w p c (skC c) := by
  refine ⟨rfl, rfl, fun i hi => ⟨?_, ?_, ?_, ?_, ?_, ?_, ?_, ?_, ?_⟩, fun i hi => ⟨?_, ?_, ?_⟩, fun i hi => ⟨?_, ?_⟩⟩ <;> first | rfl | exact uz_ne (by omega)
theorem KQ.rdy (hg : g ≤ xfr c - 1) : KQ g w p c (rdyC c v) := by
  refine ⟨rfl, rfl, fun i hi => ⟨?_, ?_, ?_, ?_, ?_, ?_, ?_, ?_, ?_⟩, fun i hi => ⟨?_, ?_, ?_⟩, fun i hi => ⟨?_, ?_⟩⟩ <;> first | rfl | exact uz_ne (by omega)
theorem KQ.fre (hg : g ≤ xfr c - 1) : KQ g w p c (freC c) := by
  refine ⟨rfl, rfl, fun i hi => ⟨?_, ?_, ?_, ?_, ?_, ?_, ?_, ?_, ?_⟩, fun i hi => ⟨?_, ?_, ?_⟩, fun i hi => ⟨?_, ?_⟩⟩ <;> first | rfl | exact uz_ne (by omega)
theorem KQ.seA {x1 x2 x3 : Int} (hg : g ≤ xfr c - 1) : KQ g w p c (setA c x1 x2 x3) := by
  refine ⟨rfl, rfl, fun i hi => ⟨?_, ?_, ?_, ?_, ?_, ?_, ?_, ?_, ?_⟩, fun i hi => ⟨?_, ?_, ?_⟩, fun i hi => ⟨?_, ?_⟩⟩ <;> first | rfl | exact uz_ne (by omega)
theorem KQ.seP {x1 : Int} (hg : g ≤ xfr c - 1) : KQ g w p c (setP c x1) := by
  refine ⟨rfl, rfl, fun i hi => ⟨?_, ?_, ?_, ?_, ?_, ?_, ?_, ?_, ?_⟩, fun i hi => ⟨?_, ?_, ?_⟩, fun i hi => ⟨?_, ?_⟩⟩ <;> first | rfl | exact uz_ne (by omega)
theorem KQ.pl (hg : g ≤ xfr c - 1) : KQ g w p c (plC c) := by
  refine ⟨rfl, rfl, fun i hi => ⟨?_, ?_, ?_, ?_, ?_, ?_, ?_, ?_, ?_⟩, fun i hi => ⟨?_, ?_, ?_⟩, fun i hi => ⟨?_, ?_⟩⟩ <;> first | rfl | exact uz_ne (by omega)
theorem KQ.dn : KQ g w p c (dnC c) := by
  refine ⟨rfl, rfl, fun i hi => ⟨?_, ?_, ?_, ?_, ?_, ?_, ?_, ?_, ?_⟩, fun i hi => ⟨?_, ?_, ?_⟩, fun i hi => ⟨?_, ?_⟩⟩ <;> first | rfl | exact uz_ne (by omega)
theorem opn_is (h : ¬ xfr c = 5) : opnC ta c how = freC (mkC (xfr c + 1) (xwa c) (xnx c) (xop c) (xer c) (xwh c) (xdn c) (xwr c) (xtg c) (xts c) (uz (xfm c) (xfr c) how) (xbs c) (xsg c) (xpa c) (xcn c) (xck c) (xcl c) (xpl c) (xam c) (xoo c) (xlv c) (xjm c) (xst c) (xwi c)) := if_neg h
theorem KQ.opn (h : ¬ xfr c = 5) (hg : g ≤ xfr c) : KQ g w p c (opnC ta c how) := by
  rw [opn_is h]
  refine ⟨rfl, rfl, fun i hi => ⟨?_, ?_, ?_, ?_, ?_, ?_, ?_, ?_, ?_⟩, fun i hi => ⟨?_, ?_, ?_⟩, fun i hi => ⟨?_, ?_⟩⟩ <;> first | rfl | exact uz_ne (by omega) | exact uz_ne (show ¬ _ = xfr c + 1 - 1 by omega)
end KQ4
/-! ===== ahead of a reading, and behind it ===== -/
def PreP (f : Nat) (l : Int) (c : PSt) : Prop := xfr c = f + 1 ∧ f ≤ 4 ∧ 0 ≤ xbs c f ∧ xbs c f ≤ (xwa c : Int) ∧ ∀ i : Nat, xbs c f ≤ (i : Int) → i < xwa c → xlv c i ≤ l
def PreC (n f : Nat) (c : PSt) (a : Int) : Prop := xer c = 0 ∧ xdn c = 0 ∧ xfr c = f + 1 ∧ f ≤ 4 ∧ (xnx c : Int) = a ∧ xnx c < n ∧ xcl c f = 0
def ChP (S n f : Nat) (c c1 : PSt) (a : Int) (m : Bool) (k : IS) : Prop :=
  xer c1 = 0 ∧ xdn c1 = 0 ∧ xop c1 = 0 ∧ (xnx c1 : Int) = a ∧ xnx c1 < n ∧ KP f (xwa c) (S + xwr c) c c1 ∧ xwa c1 = xwa c ∧ xwr c1 = xwr c + k.length ∧ SEG c1 (S + xwr c) k ∧ xsg c1 f = xsg c f ∧ xpl c1 f = xpl c f ∧ xcl c1 f = 0 ∧ (m = true ↔ ¬ xam c1 f = 0)
def FL (f : Nat) (c0 c1 : PSt) (m : Bool) : Prop := (xpl c0 f = 0 → xpl c1 f = 0) ∧ (¬ xpl c0 f = 0 → (m = true ↔ ¬ xpl c1 f = 0 ∧ ¬ xam c1 f = 0))
def LMid (S n : Nat) (l : Int) (f : Nat) (c0 c1 : PSt) (a : Int) (m : Bool) (k : IS) : Prop :=
  xer c1 = 0 ∧ xdn c1 = 0 ∧ xop c1 = 0 ∧ (xnx c1 : Int) = a ∧ xnx c1 < n ∧ xcl c1 f = 0 ∧ xsg c1 f = 0 ∧ KP f (xwa c0) (S + xwr c0) c0 (redC S (l + 1) c1) ∧ xwa (redC S (l + 1) c1) = xwa c0 ∧ xwr (redC S (l + 1) c1) = xwr c0 + k.length ∧ SEG (redC S (l + 1) c1) (S + xwr c0) k ∧ FL f c0 c1 m
def XT (S : Nat) (T : Int → Int) (l : Int) (c1 : PSt) (a : Int) : Prop := (∀ j : Int, l ≤ j → j ≤ 4 → ¬ j = 2 → ¬ LVO (T a) = j) ∧ (l ≤ 2 → LVO (T a) = 2 → cmpd (redC S 4 c1)) ∧ ¬ T a = 16174 ∧ ¬ T a = 46
def PoC (S n f : Nat) (c c1 : PSt) (a : Int) (m : Bool) (k : IS) : Prop :=
  xer c1 = 0 ∧ xdn c1 = 0 ∧ xop c1 = 0 ∧ (xnx c1 : Int) = a ∧ xnx c1 < n ∧ KP f (xwa c) (S + xwr c) c c1 ∧ xwa c1 = xwa c ∧ xwr c1 = xwr c + k.length ∧ SEG c1 (S + xwr c) k ∧ FL f c c1 m
section MOT
variable (tk tv ta sc : Nat → Int) (S n : Nat) (T N Pl : Int → Int)
def Q0 (d a : Int) (r : GR) : Prop := (4 < d → r = .inr (3, Pl a)) ∧ ∀ (Q : PSt → Prop) (c : PSt) (f : Nat), d = (f : Int) → PreC n f c a → ¬ xop c = 0 → xsg c f = 0 → xbs c f = (xwa c : Int) → KT Q r (fun a1 m k => ∀ c1, PoC S n f c c1 a1 m k → EE tk tv ta sc S Q (fi2C tk tv ta S c1)) → EE tk tv ta sc S Q c
def Q1 (d a : Int) (r : GR) : Prop := ∀ (Q : PSt → Prop) (c : PSt) (f : Nat), d = (f : Int) → xer c = 0 → xdn c = 0 → xfr c = f + 1 → f ≤ 4 → (xnx c : Int) + 1 = a → xnx c + 1 < n → xbs c f = (xwa c : Int) → KT Q r (fun a1 m k => ∀ c1, PoC S n f c c1 a1 m k → xpl c1 f = 0 → EE tk tv ta sc S Q (fi2C tk tv ta S c1)) → EE tk tv ta sc S Q (askC ta S c 35 4)
def Q2 (l d a : Int) (r : GR) : Prop := 0 ≤ l → l ≤ 5 → ∀ (Q : PSt → Prop) (c : PSt) (f : Nat), d = (f : Int) → PreC n f c a → ¬ xop c = 0 → xsg c f = 0 → PreP f l c → KT Q r (fun a1 m k => ∀ c1, LMid S n l f c c1 a1 m k → XT S T l c1 a1 → EE tk tv ta sc S Q (beh2 tk tv ta S c1)) → EE tk tv ta sc S Q c
def Q3 (l : Int) (m : Bool) (k : IS) (d a : Int) (r : GR) : Prop := 0 ≤ l → l ≤ 4 → ∀ (Q : PSt → Prop) (c0 c1 : PSt) (f : Nat), d = (f : Int) → PreP f l c0 → LMid S n (if l = 2 then 3 else l) f c0 c1 a m k → XT S T (l + 1) c1 a → KT Q r (fun a1 m k => ∀ c2, LMid S n l f c0 c2 a1 m k → XT S T l c2 a1 → EE tk tv ta sc S Q (beh2 tk tv ta S c2)) → EE tk tv ta sc S Q (beh2 tk tv ta S c1)
def Q4 (d a : Int) (r : GR) : Prop := ∀ (Q : PSt → Prop) (c : PSt) (f : Nat), d = (f : Int) → PreC n f c a → ¬ xop c = 0 → xsg c f = 0 → PreP f 5 c → KT Q r (fun a1 m k => ∀ c1, LMid S n 5 f c c1 a1 m k → XT S T 5 c1 a1 → EE tk tv ta sc S Q (beh2 tk tv ta S c1)) → EE tk tv ta sc S Q c
def Q5 (d a : Int) (r : GR) : Prop := ∀ (Q : PSt → Prop) (c : PSt) (f : Nat), d = (f : Int) → PreC n f c a → ¬ xop c = 0 → (xsg c f = 0 → ¬ T a = 45 ∧ ¬ T a = 33) → KT Q r (fun a1 m k => ∀ c1, ChP S n f c c1 a1 m k → ¬ T a1 = 16174 → ¬ T a1 = 46 → EE tk tv ta sc S Q c1) → EE tk tv ta sc S Q c
def Q6 (m : Bool) (k : IS) (d a : Int) (r : GR) : Prop := ∀ (Q : PSt → Prop) (c0 c1 : PSt) (f : Nat), d = (f : Int) → xfr c0 = f + 1 → f ≤ 4 → ChP S n f c0 c1 a m k → KT Q r (fun a1 m k => ∀ c2, ChP S n f c0 c2 a1 m k → ¬ T a1 = 16174 → ¬ T a1 = 46 → EE tk tv ta sc S Q c2) → EE tk tv ta sc S Q c1
def Q7 (d a : Int) (r : GR) : Prop := ∀ (Q : PSt → Prop) (c : PSt) (f : Nat), d = (f : Int) → PreC n f c a → (xsg c f = 0 → ¬ T a = 45 ∧ ¬ T a = 33) → KT Q r (fun a1 m k => ∀ c1, ChP S n f c c1 a1 m k → EE tk tv ta sc S Q c1) → EE tk tv ta sc S Q (fstC tk tv ta sc S c)
def Q8 (d a : Int) (r : GR) : Prop := ∀ (Q : PSt → Prop) (c : PSt) (f : Nat), d = (f : Int) → PreC n f c a → KT Q r (fun a1 m k => ∀ c1, ChP S n f c c1 a1 m k → EE tk tv ta sc S Q c1) → EE tk tv ta sc S Q (opnC ta c 2)
def Q9 (d a : Int) (r : GR) : Prop := ∀ (Q : PSt → Prop) (c : PSt) (f : Nat), d = (f : Int) → PreC n f c a → T a = 2 → KT Q r (fun a1 m k => ∀ c1, ChP S n f c c1 a1 m k → EE tk tv ta sc S Q c1) → EE tk tv ta sc S Q (worC tk tv ta S c)
def QA (s : Bool) (d a : Int) (r : GR) : Prop := ∀ (Q : PSt → Prop) (c : PSt) (f : Nat), d = (f : Int) → PreC n f c (a + 1) → T a = 2 → KT Q r (fun a1 m k => ∀ c1, ChP S n f c c1 a1 m k → EE tk tv ta sc S Q c1) → EE tk tv ta sc S Q (namC tk tv ta S c (N a) (if s then 1 else 0))
def MOT (nt : Nat) (l : Int) (m : Bool) (k : IS) (d a : Int) (r : GR) : Prop := match nt with
  | 0 => Q0 tk tv ta sc S n Pl d a r
  | 1 => Q1 tk tv ta sc S n d a r
  | 2 => Q2 tk tv ta sc S n T l d a r
  | 3 => Q3 tk tv ta sc S n T l m k d a r
  | 4 => Q4 tk tv ta sc S n T d a r
  | 5 => Q5 tk tv ta sc S n T d a r
  | 6 => Q6 tk tv ta sc S n T m k d a r
  | 7 => Q7 tk tv ta sc S n T d a r
  | 8 => Q8 tk tv ta sc S n d a r
  | 9 => Q9 tk tv ta sc S n T d a r
  | _ => QA tk tv ta sc S n T N m d a r
end MOT
