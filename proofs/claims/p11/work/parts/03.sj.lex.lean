/-! ===== what a text is cut into ===== -/
def tx (F : Nat → Int32) (n : Int32) (i : Int) : Int := if 0 ≤ i ∧ i < n.toInt then (F i.toNat).toInt else 0
abbrev dg (c : Int) : Prop := 48 ≤ c ∧ c ≤ 57
abbrev lw (c : Int) : Prop := 97 ≤ c ∧ c ≤ 122
abbrev qt (c : Int) : Prop := ¬ c = 39
abbrev sp9 (c : Int) : Prop := c = 32
abbrev TW (c d : Int) : Prop := (d = 61 ∧ (c = 60 ∨ c = 62 ∨ c = 61 ∨ c = 33)) ∨ (c = 38 ∧ d = 38) ∨ (c = 124 ∧ d = 124) ∨ (c = 63 ∧ (d = 58 ∨ d = 46))
abbrev SI (c : Int) : Prop := c = 43 ∨ c = 45 ∨ c = 42 ∨ c = 47 ∨ c = 37 ∨ c = 60 ∨ c = 62 ∨ c = 33 ∨ c = 63 ∨ c = 58 ∨ c = 46 ∨ c = 40 ∨ c = 41 ∨ c = 44 ∨ c = 35 ∨ c = 61
/-- all from i up to k are p -/
def RT (p : Int → Prop) (t : Int → Int) (i k : Int) : Prop := i ≤ k ∧ ∀ z, i ≤ z → z < k → p (t z)
def RUN (p : Int → Prop) (t : Int → Int) (i e : Int) : Prop := RT p t i e ∧ ¬ p (t e)
def nval (t : Int → Int) (i : Int) : Nat → Int
  | 0 => 0
  | n + 1 => 27 * nval t i n + (t (i + n) - 96)
abbrev TR : Type := Option (Int × Int × Int)
def TokN (t : Int → Int) (i : Int) (r : TR) : Prop := ∃ e, RUN dg t i e ∧ ((6 < e - i ∧ r = none) ∨ (e - i ≤ 6 ∧ ¬ (t e = 46 ∧ dg (t (e + 1))) ∧ r = some (1, 0, e)) ∨ (e - i ≤ 6 ∧ (t e = 46 ∧ dg (t (e + 1))) ∧ ∃ e2, RUN dg t (e + 1) e2 ∧ ((3 < e2 - e - 1 ∧ r = none) ∨ (e2 - e - 1 ≤ 3 ∧ r = some (1, 0, e2)))))
def TokW (t : Int → Int) (i : Int) (r : TR) : Prop := ∃ e, RUN lw t i e ∧ ((5 < e - i ∧ r = none) ∨ (e - i ≤ 5 ∧ r = some (2, nval t i (e - i).toNat, e)))
def TokQ (t : Int → Int) (n i : Int) (r : TR) : Prop := ∃ e, RT qt t (i + 1) e ∧ e ≤ n ∧ (t e = 39 ∨ e = n) ∧ ((¬ (t e = 39 ∧ e - i - 1 ≤ 8) ∧ r = none) ∨ (t e = 39 ∧ e - i - 1 ≤ 8 ∧ r = some (1, 0, e + 1)))
def TokS (t : Int → Int) (i : Int) (r : TR) : Prop := (TW (t i) (t (i + 1)) ∧ r = some (256 * t i + t (i + 1), 0, i + 2)) ∨ (¬ TW (t i) (t (i + 1)) ∧ SI (t i) ∧ r = some (t i, 0, i + 1)) ∨ (¬ TW (t i) (t (i + 1)) ∧ ¬ SI (t i) ∧ r = none)
def TokR (t : Int → Int) (n i : Int) (r : TR) : Prop := (dg (t i) ∧ TokN t i r) ∨ (lw (t i) ∧ TokW t i r) ∨ (t i = 39 ∧ TokQ t n i r) ∨ (¬ dg (t i) ∧ ¬ lw (t i) ∧ ¬ t i = 39 ∧ TokS t i r)
/-- the first k tokens are those of the text up to i, and the spaces behind them -/
def Cut (t : Int → Int) (n : Int) (T N Pl : Int → Int) : Nat → Int → Prop
  | 0, i => RT sp9 t 0 i
  | k + 1, i => ∃ s e, Cut t n T N Pl k s ∧ ¬ t s = 32 ∧ TokR t n s (some (T k, N k, e)) ∧ Pl k = s ∧ RT sp9 t e i
section LX
variable {p : Int → Prop} {t T N Pl T2 N2 Pl2 : Int → Int} {i i2 e e2 k z n : Int} {r r2 : TR} {F : Nat → Int32} {m x : Int32}
theorem RT.rf : RT p t i i := ⟨Int.le_refl _, fun z h1 h2 => by omega⟩
theorem RT.at (e : i = k) : RT p t i k := by subst e; exact RT.rf
theorem RT.up (h : RT p t i k) (hp : p (t k)) (e : z = k + 1) : RT p t i z := by
  refine ⟨by have := h.1; omega, fun y h1 h2 => ?_⟩
  by_cases h3 : y = k
  · subst h3; exact hp
  · exact h.2 y h1 (by omega)
theorem RUN_u (h : RUN p t i e) (h2 : RUN p t i e2) : e = e2 := by
  obtain ⟨⟨a1, a2⟩, a3⟩ := h
  obtain ⟨⟨b1, b2⟩, b3⟩ := h2
  by_cases c : e < e2
  · exact absurd (b2 e a1 c) a3
  · by_cases c2 : e2 < e
    · exact absurd (a2 e2 b1 c2) b3
    · omega
theorem TokN_u (h : TokN t i r) (h2 : TokN t i r2) : r = r2 := by
  obtain ⟨e, a1, a2⟩ := h
  obtain ⟨e2, b1, b2⟩ := h2
  obtain rfl := RUN_u a1 b1
  rcases a2 with ⟨a2, a3⟩ | ⟨a2, a3, a4⟩ | ⟨a2, a3, f, a4, a5⟩
  · rcases b2 with ⟨b2, b3⟩ | ⟨b2, b3, b4⟩ | ⟨b2, b3, f2, b4, b5⟩
    · rw [a3, b3]
    · omega
    · omega
  · rcases b2 with ⟨b2, b3⟩ | ⟨b2, b3, b4⟩ | ⟨b2, b3, f2, b4, b5⟩
    · omega
    · rw [a4, b4]
    · exact absurd b3 a3
  · rcases b2 with ⟨b2, b3⟩ | ⟨b2, b3, b4⟩ | ⟨b2, b3, f2, b4, b5⟩
    · omega
    · exact absurd a3 b3
    · obtain rfl := RUN_u a4 b4
      rcases a5 with ⟨a5, a6⟩ | ⟨a5, a6⟩ <;> rcases b5 with ⟨b5, b6⟩ | ⟨b5, b6⟩
      · rw [a6, b6]
      · omega
      · omega
      · rw [a6, b6]
theorem TokW_u (h : TokW t i r) (h2 : TokW t i r2) : r = r2 := by
  obtain ⟨e, a1, a2⟩ := h
  obtain ⟨e2, b1, b2⟩ := h2
  obtain rfl := RUN_u a1 b1
  rcases a2 with ⟨a5, a6⟩ | ⟨a5, a6⟩ <;> rcases b2 with ⟨b5, b6⟩ | ⟨b5, b6⟩
  · rw [a6, b6]
  · omega
  · omega
  · rw [a6, b6]
theorem TokQ_u (h : TokQ t n i r) (h2 : TokQ t n i r2) : r = r2 := by
  obtain ⟨e, a1, a7, a8, a2⟩ := h
  obtain ⟨e2, b1, b7, b8, b2⟩ := h2
  obtain rfl : e = e2 := by
    by_cases c : e < e2
    · have := b1.2 e a1.1 c
      omega
    · by_cases c2 : e2 < e
      · have := a1.2 e2 b1.1 c2
        omega
      · omega
  rcases a2 with ⟨a5, a6⟩ | ⟨a5, a7, a6⟩ <;> rcases b2 with ⟨b5, b6⟩ | ⟨b5, b7, b6⟩
  · rw [a6, b6]
  · exact absurd ⟨b5, b7⟩ a5
  · exact absurd ⟨a5, a7⟩ b5
  · rw [a6, b6]
theorem TokS_u (h : TokS t i r) (h2 : TokS t i r2) : r = r2 := by
  rcases h with ⟨a1, a2⟩ | ⟨a1, a3, a2⟩ | ⟨a1, a3, a2⟩ <;> rcases h2 with ⟨b1, b2⟩ | ⟨b1, b3, b2⟩ | ⟨b1, b3, b2⟩ <;> first | (rw [a2, b2]; done) | exact absurd a1 b1 | exact absurd b1 a1 | exact absurd a3 b3 | exact absurd b3 a3
theorem TokR_u (h : TokR t n i r) (h2 : TokR t n i r2) : r = r2 := by
  rcases h with ⟨a1, a2⟩ | ⟨a1, a2⟩ | ⟨a1, a2⟩ | ⟨a1, a3, a4, a2⟩ <;> rcases h2 with ⟨b1, b2⟩ | ⟨b1, b2⟩ | ⟨b1, b2⟩ | ⟨b1, b3, b4, b2⟩ <;> first | (exfalso; omega) | exact TokN_u a2 b2 | exact TokW_u a2 b2 | exact TokQ_u a2 b2 | exact TokS_u a2 b2
theorem TokR_0 (h0 : t i = 0) (h : TokR t n i r) : r = none := by
  rcases h with ⟨a1, a2⟩ | ⟨a1, a2⟩ | ⟨a1, a2⟩ | ⟨a1, a3, a4, a2⟩
  · omega
  · omega
  · omega
  · rcases a2 with ⟨b1, b2⟩ | ⟨b1, b3, b2⟩ | ⟨b1, b3, b2⟩
    · omega
    · omega
    · exact b2
theorem Cut.sp {k : Nat} (h : Cut t n T N Pl k i) (h2 : t i = 32) (e : z = i + 1) : Cut t n T N Pl k z := by
  cases k with
  | zero => exact RT.up h h2 e
  | succ k =>
    obtain ⟨s, e0, a1, a2, a3, a4, a5⟩ := h
    exact ⟨s, e0, a1, a2, a3, a4, a5.up h2 e⟩
theorem Cut.tok {k : Nat} (h : Cut t n T N Pl k i) (h2 : ¬ t i = 32) (h3 : TokR t n i (some (T k, N k, e))) (h4 : Pl k = i) : Cut t n T N Pl (k + 1) e := ⟨i, e, h, h2, h3, h4, RT.rf⟩
theorem Cut.cong {k : Nat} (h : Cut t n T N Pl k i) (hc : ∀ j : Nat, j < k → T2 j = T j ∧ N2 j = N j ∧ Pl2 j = Pl j) : Cut t n T2 N2 Pl2 k i := by
  induction k generalizing i with
  | zero => exact h
  | succ k ih =>
    obtain ⟨s, e0, a1, a2, a3, a4, a5⟩ := h
    obtain ⟨c1, c2, c3⟩ := hc k (by omega)
    exact ⟨s, e0, ih a1 (fun j hj => hc j (by omega)), a2, by rw [c1, c2]; exact a3, c3.trans a4, a5⟩
theorem Cut_u {k : Nat} (h : Cut t n T N Pl k i) (h2 : Cut t n T2 N2 Pl2 k i2) (h3 : ¬ t i = 32) (h4 : ¬ t i2 = 32) : i = i2 ∧ ∀ j : Nat, j < k → T j = T2 j ∧ N j = N2 j ∧ Pl j = Pl2 j := by
  induction k generalizing i i2 with
  | zero => exact ⟨RUN_u ⟨h, h3⟩ ⟨h2, h4⟩, fun j hj => by omega⟩
  | succ k ih =>
    obtain ⟨s, e0, a1, a2, a3, a4, a5⟩ := h
    obtain ⟨s2, e2, b1, b2, b3, b4, b5⟩ := h2
    obtain ⟨c1, c2⟩ := ih a1 b1 a2 b2
    subst c1
    have c3 := TokR_u a3 b3
    simp only [Option.some.injEq, Prod.mk.injEq] at c3
    obtain ⟨d1, d2, d3⟩ := c3
    subst d3
    refine ⟨RUN_u ⟨a5, h3⟩ ⟨b5, h4⟩, fun j hj => ?_⟩
    by_cases hk : j = k
    · subst hk; exact ⟨d1, d2, a4.trans b4.symm⟩
    · exact c2 j (by omega)
theorem Cut_pre {k k2 : Nat} (h : Cut t n T N Pl k2 i) (hk : k < k2) : ∃ s x, Cut t n T N Pl k s ∧ ¬ t s = 32 ∧ TokR t n s (some x) := by
  induction k2 generalizing i with
  | zero => omega
  | succ k2 ih =>
    obtain ⟨s, e0, a1, a2, a3, a4, a5⟩ := h
    by_cases e : k = k2
    · subst e; exact ⟨s, _, a1, a2, a3⟩
    · exact ih a1 (by omega)
/-- cut to the end: k tokens and the end -/
def LexOK (t : Int → Int) (n : Int) (T N Pl : Int → Int) (k : Nat) : Prop := Cut t n T N Pl k n ∧ T k = 0 ∧ Pl k = n
/-- cut up to what is no token -/
def LexErr (t : Int → Int) (n p : Int) : Prop := p < n ∧ ∃ (T N Pl : Int → Int) (k : Nat), Cut t n T N Pl k p ∧ ¬ t p = 32 ∧ TokR t n p none
theorem lex_ok {k k2 : Nat} (hn : t n = 0) (h : LexOK t n T N Pl k) (h2 : LexOK t n T2 N2 Pl2 k2) : k = k2 ∧ ∀ j : Nat, j < k + 1 → T j = T2 j ∧ (j < k → N j = N2 j) ∧ Pl j = Pl2 j := by
  have hn2 : ¬ t n = 32 := by omega
  have aux : ∀ {T N Pl T2 N2 Pl2 : Int → Int} {k k2 : Nat}, LexOK t n T N Pl k → LexOK t n T2 N2 Pl2 k2 → ¬ k < k2 := by
    intro T N Pl T2 N2 Pl2 k k2 h h2 hk
    obtain ⟨s, x, a1, a2, a3⟩ := Cut_pre h2.1 hk
    have e := (Cut_u h.1 a1 hn2 a2).1
    subst e
    have := TokR_0 hn a3
    cases this
  have e : k = k2 := by
    have := aux h h2
    have := aux h2 h
    omega
  subst e
  refine ⟨rfl, fun j hj => ?_⟩
  by_cases e : j = k
  · subst e; exact ⟨h.2.1.trans h2.2.1.symm, fun h => by omega, h.2.2.trans h2.2.2.symm⟩
  · have z := (Cut_u h.1 h2.1 hn2 hn2).2 j (by omega)
    exact ⟨z.1, fun _ => z.2.1, z.2.2⟩
theorem lex_no {k : Nat} (hn : t n = 0) (h : LexOK t n T N Pl k) (h2 : LexErr t n e) : False := by
  obtain ⟨hen, T2, N2, Pl2, k2, b1, b2, b3⟩ := h2
  by_cases c : k < k2
  · obtain ⟨s, x, a1, a2, a3⟩ := Cut_pre b1 c
    have z := (Cut_u h.1 a1 (by omega) a2).1
    subst z
    have := TokR_0 hn a3
    cases this
  · by_cases c2 : k2 < k
    · obtain ⟨s, x, a1, a2, a3⟩ := Cut_pre h.1 c2
      have z := (Cut_u b1 a1 b2 a2).1
      subst z
      have := TokR_u a3 b3
      cases this
    · obtain rfl : k = k2 := by omega
      have z := (Cut_u h.1 b1 (by omega) b2).1
      omega
theorem lex_er (h : LexErr t n e) (h2 : LexErr t n e2) : e = e2 := by
  have aux : ∀ {e e2 : Int} {T N Pl T2 N2 Pl2 : Int → Int} {k k2 : Nat}, Cut t n T N Pl k e → ¬ t e = 32 → TokR t n e none → Cut t n T2 N2 Pl2 k2 e2 → ¬ k < k2 := by
    intro e e2 T N Pl T2 N2 Pl2 k k2 a1 a2 a3 b1 c
    obtain ⟨s, x, c1, c2, c3⟩ := Cut_pre b1 c
    have z := (Cut_u a1 c1 a2 c2).1
    subst z
    have := TokR_u a3 c3
    cases this
  obtain ⟨-, T, N, Pl, k, a1, a2, a3⟩ := h
  obtain ⟨-, T2, N2, Pl2, k2, b1, b2, b3⟩ := h2
  have c1 := aux a1 a2 a3 b1
  have c2 := aux b1 b2 b3 a1
  obtain rfl : k = k2 := by omega
  exact (Cut_u a1 b1 a2 b2).1
theorem numN {e1 : Int} (h : RT dg t i e) (h2 : ¬ dg (t e)) (he : e1 = e + 1) (h3 : ¬ (t e = 46 ∧ dg (t e1))) (h4 : e - i ≤ 6) (ht : dg (t i)) : TokR t n i (some (1, 0, e)) := Or.inl ⟨ht, e, ⟨h, h2⟩, Or.inr (Or.inl ⟨h4, by subst he; exact h3, rfl⟩)⟩
theorem numX (h : RT dg t i e) (h2 : ¬ dg (t e)) (h4 : 6 < e - i) (ht : dg (t i)) : TokR t n i none := Or.inl ⟨ht, e, ⟨h, h2⟩, Or.inl ⟨h4, rfl⟩⟩
theorem numF {e1 e3 : Int} (h : RT dg t i e) (h2 : ¬ dg (t e)) (he : e1 = e + 1) (h3 : t e = 46) (h5 : dg (t e1)) (h4 : e - i ≤ 6) (he3 : e3 = e + 1) (h6 : RT dg t e3 e2) (h7 : ¬ dg (t e2)) (h8 : e2 - e - 1 ≤ 3) (ht : dg (t i)) : TokR t n i (some (1, 0, e2)) := by
  subst he he3
  exact Or.inl ⟨ht, e, ⟨h, h2⟩, Or.inr (Or.inr ⟨h4, ⟨h3, h5⟩, e2, ⟨h6, h7⟩, Or.inr ⟨h8, rfl⟩⟩)⟩
theorem numY {e1 e3 : Int} (h : RT dg t i e) (h2 : ¬ dg (t e)) (he : e1 = e + 1) (h3 : t e = 46) (h5 : dg (t e1)) (h4 : e - i ≤ 6) (he3 : e3 = e + 1) (h6 : RT dg t e3 e2) (h7 : ¬ dg (t e2)) (h8 : 3 < e2 - e - 1) (ht : dg (t i)) : TokR t n i none := by
  subst he he3
  exact Or.inl ⟨ht, e, ⟨h, h2⟩, Or.inr (Or.inr ⟨h4, ⟨h3, h5⟩, e2, ⟨h6, h7⟩, Or.inl ⟨h8, rfl⟩⟩)⟩
theorem wrdN {v : Int} (h : RT lw t i e) (h2 : ¬ lw (t e)) (h3 : e - i ≤ 5) (h4 : v = nval t i (e - i).toNat) (ht : lw (t i)) : TokR t n i (some (2, v, e)) := by
  subst h4
  exact Or.inr (Or.inl ⟨ht, e, ⟨h, h2⟩, Or.inr ⟨h3, rfl⟩⟩)
theorem wrdX (h : RT lw t i e) (h2 : ¬ lw (t e)) (h3 : 5 < e - i) (ht : lw (t i)) : TokR t n i none := Or.inr (Or.inl ⟨ht, e, ⟨h, h2⟩, Or.inl ⟨h3, rfl⟩⟩)
theorem quoN {e1 i1 : Int} (h : RT qt t i1 e) (hi : i1 = i + 1) (h2 : t e = 39) (h3 : e - i - 1 ≤ 8) (he : e1 = e + 1) (hn : e ≤ n) (ht : t i = 39) : TokR t n i (some (1, 0, e1)) := by
  subst he hi
  exact Or.inr (Or.inr (Or.inl ⟨ht, e, h, hn, Or.inl h2, Or.inr ⟨h2, h3, rfl⟩⟩))
theorem quoX {i1 : Int} (h : RT qt t i1 e) (hi : i1 = i + 1) (h2 : ¬ (t e = 39 ∧ e - i - 1 ≤ 8)) (h3 : t e = 39 ∨ e = n) (hn : e ≤ n) (ht : t i = 39) : TokR t n i none := by
  subst hi
  exact Or.inr (Or.inr (Or.inl ⟨ht, e, h, hn, h3, Or.inl ⟨h2, rfl⟩⟩))
theorem quo_ex (h : RT qt t i k) (hn : k ≤ n) : ∃ e, RT qt t i e ∧ k ≤ e ∧ e ≤ n ∧ (t e = 39 ∨ e = n) := by
  generalize hm : (n - k).toNat = d
  induction d generalizing k with
  | zero => exact ⟨k, h, by omega, hn, Or.inr (by omega)⟩
  | succ d ih =>
    by_cases c : t k = 39
    · exact ⟨k, h, by omega, hn, Or.inl c⟩
    · obtain ⟨e, e1, e2, e3, e4⟩ := ih (h.up c rfl) (by omega) (by omega)
      exact ⟨e, e1, by omega, e3, e4⟩
/-- a quoted that is too long, seen at its tenth sign -/
theorem quoL {i1 : Int} (h : RT qt t i1 e) (hi : i1 = i + 1) (h2 : ¬ t e = 39) (h3 : 8 < e - i) (hn : e ≤ n) (ht : t i = 39) : TokR t n i none := by
  by_cases c : e = n
  · exact quoX h hi (by omega) (Or.inr c) hn ht
  · obtain ⟨e2, a1, a2, a3, a4⟩ := quo_ex (n := n) (h.up h2 rfl) (by omega)
    exact quoX a1 hi (by omega) a4 a3 ht
theorem sgnN {v : Int} (h : ¬ dg (t i)) (h2 : ¬ lw (t i)) (h3 : ¬ t i = 39) (h4 : TW (t i) (t (i + 1))) (hv : v = 256 * t i + t (i + 1)) (he : e = i + 2) : TokR t n i (some (v, 0, e)) := by
  subst hv he
  exact Or.inr (Or.inr (Or.inr ⟨h, h2, h3, Or.inl ⟨h4, rfl⟩⟩))
theorem sgn1 {v : Int} (h : ¬ dg (t i)) (h2 : ¬ lw (t i)) (h3 : ¬ t i = 39) (h4 : ¬ TW (t i) (t (i + 1))) (h5 : SI (t i)) (hv : v = t i) (he : e = i + 1) : TokR t n i (some (v, 0, e)) := by
  subst hv he
  exact Or.inr (Or.inr (Or.inr ⟨h, h2, h3, Or.inr (Or.inl ⟨h4, h5, rfl⟩)⟩))
theorem sgnX (h : ¬ dg (t i)) (h2 : ¬ lw (t i)) (h3 : ¬ t i = 39) (h4 : ¬ TW (t i) (t (i + 1))) (h5 : ¬ SI (t i)) : TokR t n i none := Or.inr (Or.inr (Or.inr ⟨h, h2, h3, Or.inr (Or.inr ⟨h4, h5, rfl⟩)⟩))
theorem nvl_up {v v2 : Int} (h : v = nval t i (k - i).toNat) (hk : i ≤ k) (e : z = k + 1) (h2 : v2 = 27 * v + (t k - 96)) : v2 = nval t i (z - i).toNat := by
  subst e h h2
  rw [show (k + 1 - i).toNat = (k - i).toNat + 1 by omega]
  show _ = 27 * nval t i (k - i).toNat + (t (i + ((k - i).toNat : Int)) - 96)
  rw [show i + ((k - i).toNat : Int) = k by omega]
theorem tx_in (h : 0 ≤ x.toInt) (h2 : x.toInt < m.toInt) : tx F m x.toInt = (F x.toInt.toNat).toInt := by
  unfold tx
  rw [if_pos ⟨h, h2⟩]
theorem tx_out (h : m.toInt ≤ x.toInt) : tx F m x.toInt = 0 := by
  unfold tx
  rw [if_neg (by omega)]
theorem tx_o {x : Int} (h : m.toInt ≤ x) : tx F m x = 0 := by
  unfold tx
  rw [if_neg (by omega)]
end LX
/-! ===== the reference's tokens ===== -/
def TCv (a b : Int) : Int := if a = 5 then b else if a = 3 then 2 else if a = 0 then 0 else 1
def rT9 (tk : Nat → Int32) (tv : Nat → Int64) (i : Int) : Int := TCv (tk i.toNat).toInt (tv i.toNat).toInt
def rN9 (tk : Nat → Int32) (tv : Nat → Int64) (i : Int) : Int := if (tk i.toNat).toInt = 3 then (tv i.toNat).toInt else 0
def rP9 (ta : Nat → Int32) (i : Int) : Int := (ta i.toNat).toInt
def BN5 (tk : Nat → Int32) (tv : Nat → Int64) (j : Nat) : Prop := (tk j).toInt = 5 → 33 ≤ (tv j).toInt ∧ (tv j).toInt ≤ 40000
/-- one more token (or an error) -/
def LXo (tk : Nat → Int32) (tv : Nat → Int64) (ta : Nat → Int32) (n : Int32) (tk2 : Nat → Int32) (tv2 : Nat → Int64) (ta2 : Nat → Int32) (n2 er wh : Int32) (i ret : Int) (r : TR) : Prop :=
  (∀ j : Nat, (j : Int) < n.toInt → tk2 j = tk j ∧ tv2 j = tv j ∧ ta2 j = ta j) ∧ match r with
  | none => er.toInt = 1 ∧ wh.toInt = i ∧ n2.toInt = n.toInt
  | some (k, v, e) => er.toInt = 0 ∧ ret = e ∧ n2.toInt = n.toInt + 1 ∧ rT9 tk2 tv2 n.toInt = k ∧ rN9 tk2 tv2 n.toInt = v ∧ rP9 ta2 n.toInt = i ∧ BN5 tk2 tv2 n.toInt.toNat
section LXR
variable {tk tk2 ta ta2 : Nat → Int32} {tv tv2 : Nat → Int64} {n n2 er wh q kd : Int32} {v : Int64} {i ret e kk vv : Int} {r : TR} {t : Int → Int} {m : Int} {k : Nat}
theorem LXo_add {j : Nat} (hj : (j : Int) = n.toInt) (hn : n2.toInt = n.toInt + 1) (he : er.toInt = 0) (hr : ret = e) (h1 : TCv kd.toInt v.toInt = kk) (h2 : (if kd.toInt = 3 then v.toInt else 0) = vv) (h3 : q.toInt = i) (h5 : kd.toInt = 5 → 33 ≤ v.toInt ∧ v.toInt ≤ 40000) : LXo tk tv ta n (upd tk j kd) (vp_updL tv j v) (upd ta j q) n2 er wh i ret (some (kk, vv, e)) := by
  have e1 : n.toInt.toNat = j := by omega
  refine ⟨fun a ha => ⟨if_neg (by omega), if_neg (by omega), if_neg (by omega)⟩, he, hr, hn, ?_, ?_, ?_, ?_⟩
  · unfold rT9
    rw [e1, show upd tk j kd j = kd from if_pos rfl, show vp_updL tv j v j = v from if_pos rfl]; exact h1
  · unfold rN9
    rw [e1, show upd tk j kd j = kd from if_pos rfl, show vp_updL tv j v j = v from if_pos rfl]; exact h2
  · unfold rP9
    rw [e1, show upd ta j q j = q from if_pos rfl]; exact h3
  · unfold BN5
    rw [e1, show upd tk j kd j = kd from if_pos rfl, show vp_updL tv j v j = v from if_pos rfl]; exact h5
theorem LXo_err (he : er.toInt = 1) (hw : wh.toInt = i) (hn : n2.toInt = n.toInt) : LXo tk tv ta n tk tv ta n2 er wh i ret none := ⟨fun _ _ => ⟨rfl, rfl, rfl⟩, he, hw, hn⟩
/-- the reference's loop over the text -/
def LXi (t : Int → Int) (m : Int) (tk : Nat → Int32) (tv : Nat → Int64) (ta : Nat → Int32) (n er wh : Int32) (k : Int) : Prop :=
  (er.toInt = 0 ∧ Cut t m (rT9 tk tv) (rN9 tk tv) (rP9 ta) n.toInt.toNat k ∧ ∀ j : Nat, (j : Int) < n.toInt → BN5 tk tv j) ∨ (er.toInt = 1 ∧ LexErr t m wh.toInt)
theorem LXo.step (h : LXo tk tv ta n tk2 tv2 ta2 n2 er wh i ret r) (hn : 0 ≤ n.toInt) (hc : Cut t m (rT9 tk tv) (rN9 tk tv) (rP9 ta) n.toInt.toNat i ∧ ∀ j : Nat, (j : Int) < n.toInt → BN5 tk tv j) (hi : i < m) (h2 : ¬ t i = 32) (hr : TokR t m i r) : LXi t m tk2 tv2 ta2 n2 er wh ret := by
  obtain ⟨h0, h1⟩ := h
  obtain ⟨hc, hb⟩ := hc
  cases r with
  | none => exact Or.inr ⟨h1.1, by rw [h1.2.1]; exact ⟨hi, _, _, _, _, hc, h2, hr⟩⟩
  | some x =>
    obtain ⟨k, v, e⟩ := x
    obtain ⟨a1, a2, a3, a4, a5, a6, a7⟩ := h1
    refine Or.inl ⟨a1, ?_, fun j hj => ?_⟩
    rotate_left 1
    · by_cases e : (j : Int) = n.toInt
      · rw [show j = n.toInt.toNat by omega]; exact a7
      · have b := h0 j (by omega)
        unfold BN5
        rw [b.1, b.2.1]
        exact hb j (by omega)
    rw [a3, show (n.toInt + 1).toNat = n.toInt.toNat + 1 by omega, a2]
    have e9 : ((n.toInt.toNat : Nat) : Int) = n.toInt := by omega
    refine Cut.tok (hc.cong (fun j hj => ?_)) h2 ?_ ?_
    · obtain ⟨b1, b2, b3⟩ := h0 j (by omega)
      unfold rT9 rN9 rP9
      rw [show ((j : Nat) : Int).toNat = j from rfl, b1, b2, b3]
      exact ⟨rfl, rfl, rfl⟩
    · rw [e9, a4, a5]; exact hr
    · rw [e9]; exact a6
theorem lex_fin {j : Nat} {z : Int} (hj : (j : Int) = n.toInt) (hn : n2.toInt = n.toInt + 1) (hz : z = m) (hc : Cut t m (rT9 tk tv) (rN9 tk tv) (rP9 ta) n.toInt.toNat z) (hq : q.toInt = m) (hb : ∀ a : Nat, (a : Int) < n.toInt → BN5 tk tv a) : LexOK t m (rT9 (upd tk j 0) (vp_updL tv j v)) (rN9 (upd tk j 0) (vp_updL tv j v)) (rP9 (upd ta j q)) (n2.toInt - 1).toNat ∧ ∀ a : Nat, (a : Int) < n2.toInt → BN5 (upd tk j 0) (vp_updL tv j v) a := by
  subst hz
  have e1 : (n2.toInt - 1).toNat = j := by omega
  have e2 : n.toInt.toNat = j := by omega
  rw [e1]
  rw [e2] at hc
  have k0 : (0 : Int32).toInt = 0 := by decide +kernel
  refine ⟨⟨hc.cong (fun a ha => ?_), ?_, ?_⟩, fun a ha => ?_⟩
  · unfold rT9 rN9 rP9
    rw [show ((a : Nat) : Int).toNat = a from rfl, show upd tk j 0 a = tk a from if_neg (by omega), show vp_updL tv j v a = tv a from if_neg (by omega), show upd ta j q a = ta a from if_neg (by omega)]
    exact ⟨rfl, rfl, rfl⟩
  · unfold rT9
    rw [show ((j : Nat) : Int).toNat = j from rfl, show upd tk j 0 j = 0 from if_pos rfl, k0]; rfl
  · unfold rP9
    rw [show ((j : Nat) : Int).toNat = j from rfl, show upd ta j q j = q from if_pos rfl]; exact hq
  · unfold BN5
    by_cases e : a = j
    · subst e
      rw [show upd tk a 0 a = 0 from if_pos rfl, k0]
      intro h; omega
    · rw [show upd tk j 0 a = tk a from if_neg e, show vp_updL tv j v a = tv a from if_neg e]
      exact hb a (by omega)
end LXR
