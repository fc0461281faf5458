/-! ===== the class: what values, classes and objects say ===== -/
/-- what a value may be -/
def QCN (v : QV) : Prop := v = qNull ∨ (∃ b, v = qBool b) ∨ (∃ n, v = qInt n) ∨ (∃ r, FN r ∧ v = qReal r) ∨ (∃ s : List Int, s.length ≤ 16 ∧ CHS s ∧ v = qText s) ∨ (∃ k o : Nat, k < 5 ∧ o < 30 ∧ v = (8 + (k : Int), (o : Int), [], 0))
/-- the object of a value -/
def THq (P : PL) (q7 q8 : Nat → Option Nat) (b : Nat) (v : QV) : Prop := ∃ t b0 f, oR P 1 b = some t ∧ oT P t = 6 ∧ (oI P 19 t).toInt = v.2.1 ∧ q8 v.2.1.toNat = some b0 ∧ oT P b0 = 1 ∧ oR P 1 b0 = some t ∧ oR P 9 t = some f ∧ oT P f = 3 ∧ q7 (v.1 - 8).toNat = some f ∧ (oI P 7 f).toInt = v.1
/-- a value's double -/
def qDb (v : QV) : UInt64 := if v.1 = 2 ∨ v.1 = 3 then qRe v else FP.dconst0
/-- the object b says v -/
def VALq (P : PL) (sa : Nat → Nat) (q7 q8 : Nat → Option Nat) (b : Nat) (v : QV) : Prop :=
  QCN v ∧ oT P b = 1 ∧ (oI P 0 b).toInt = v.1 ∧ (oI P 1 b).toInt = qRes v 1 ∧ oD P b = qDb v ∧ (∃ c, oR P 0 b = some c ∧ TXq P sa c v.2.2.1) ∧ (v.1 < 8 → oR P 1 b = none) ∧ (8 ≤ v.1 → THq P q7 q8 b v)
def RTq (P : PL) (H : QT) (x m : Nat) : Prop := (oI P 13 x).toInt = H 5 m ∧ (oI P 14 x).toInt = H 6 m ∧ (oI P 15 x).toInt = H 7 m ∧ (oI P 16 x).toInt = qCnt (H 6 m) (H 7 m) ∧ (oI P 17 x).toInt = H 8 m ∧ (oI P 18 x).toInt = H 9 m
def FDq (P : PL) (H : QT) (x m : Nat) : Prop := (oI P 10 x).toInt = H 2 m ∧ (oI P 11 x).toInt = H 3 m ∧ (oI P 12 x).toInt = m
/-- the object f says the class c -/
def FMq (P : PL) (q7 : Nat → Option Nat) (H : QT) (c f : Nat) : Prop :=
  oT P f = 3 ∧ (oI P 6 f).toInt = c ∧ (oI P 7 f).toInt = 8 + c ∧ (H 0 c < 0 → oR P 6 f = none) ∧ (0 ≤ H 0 c → oR P 6 f = q7 (H 0 c).toNat) ∧
  (0 ≤ H 1 c ∧ H 1 c ≤ 6) ∧ (oI P 8 f).toInt = H 1 c ∧ (∃ a, oR P 7 f = some a ∧ oT P a = 10 ∧ ∀ k : Nat, (k : Int) < H 1 c → ∃ x, oA P a k = some x ∧ oT P x = 4 ∧ FDq P H x (6 * c + k)) ∧
  (0 ≤ H 4 c ∧ H 4 c ≤ 6) ∧ (oI P 9 f).toInt = H 4 c ∧ (∃ a, oR P 8 f = some a ∧ oT P a = 11 ∧ ∀ k : Nat, (k : Int) < H 4 c → ∃ x, oA P a k = some x ∧ oT P x = 5 ∧ RTq P H x (6 * c + k))
/-- the classes say the tables -/
def FAMq (P : PL) (q7 : Nat → Option Nat) (H : QT) (n : Int) : Prop :=
  n ≤ 5 ∧ QPA H n ∧ (∀ c : Nat, n ≤ (c : Int) → q7 c = none) ∧ ∀ c : Nat, (c : Int) < n → ∃ f, q7 c = some f ∧ FMq P q7 H c f
/-- where a walk up the classes is: x, or behind the last -/
def FPq (q7 : Nat → Option Nat) (n x : Int) (y : Option Nat) : Prop := (x < 0 ∧ y = none) ∨ (0 ≤ x ∧ x < n ∧ ∃ f, y = some f ∧ q7 x.toNat = some f)
/-- an object's values -/
def AVq (P : PL) (sa : Nat → Nat) (q7 q8 : Nat → Option Nat) (a : Nat) (g : Nat → QV) : Prop := oT P a = 9 ∧ ∀ k : Nat, k < 30 → ∃ b, oA P a k = some b ∧ VALq P sa q7 q8 b (g k)
/-- the objects say fl -/
def OBJq (P : PL) (sa : Nat → Nat) (q7 q8 : Nat → Option Nat) (H : QT) (ob : Nat) (fl : Nat → Nat → QV) : Prop :=
  ob ≤ 30 ∧ ∃ th ar : Nat → Nat, (∀ o, o < ob → (∃ b, q8 o = some b ∧ oR P 1 b = some (th o) ∧ VALq P sa q7 q8 b (qObj H o)) ∧ 0 ≤ H 11 o ∧ oR P 10 (th o) = some (ar o) ∧ AVq P sa q7 q8 (ar o) (fl o)) ∧ ∀ o o', o < ob → o' < ob → ar o = ar o' → o = o'
section VALs
variable {P P' : PL} {sa : Nat → Nat} {q7 q8 : Nat → Option Nat} {a b c f x o : Nat} {v w : QV} {H : QT} {n u y0 : Int} {cp : Prop} {ob : Nat} {fl : Nat → Nat → QV}
theorem QCN.of9 {i : Int} (h : QOK H i v) : QCN v := by
  rcases h with h | h | h | h | h | ⟨o, h1, h2, h3, h4⟩
  · exact Or.inl h
  · exact Or.inr (Or.inl h)
  · exact Or.inr (Or.inr (Or.inl h))
  · exact Or.inr (Or.inr (Or.inr (Or.inl h)))
  · exact Or.inr (Or.inr (Or.inr (Or.inr (Or.inl h))))
  · refine Or.inr (Or.inr (Or.inr (Or.inr (Or.inr ⟨(H 11 o).toNat, o, by omega, h1.2, ?_⟩))))
    rw [h4]
    show ((8 + H 11 o : Int), _) = _
    rw [Int.toNat_of_nonneg h2]
theorem QCN.kind9 (h : QCN v) : 0 ≤ v.1 ∧ v.1 < 13 ∧ ¬ (5 ≤ v.1 ∧ v.1 < 8) ∧ (v.1 = 4 → v.2.1 = 0) ∧ (¬ v.1 = 4 → v.2.2.1 = []) ∧ v.2.2.1.length ≤ 16 ∧ CHS v.2.2.1 ∧ (v.1 = 3 → FN v.2.2.2) := by
  have e : CHS [] := fun c h => absurd h (List.not_mem_nil)
  rcases h with rfl | ⟨z, rfl⟩ | ⟨z, rfl⟩ | ⟨z, h, rfl⟩ | ⟨z, h1, h2, rfl⟩ | ⟨k, o, h1, h2, rfl⟩
  · exact ⟨by decide, by decide, by decide, by decide, fun _ => rfl, Nat.zero_le _, e, fun h => absurd h (by decide)⟩
  · exact ⟨(by decide : (0 : Int) ≤ 1), (by decide : (1 : Int) < 13), (by decide : ¬ ((5 : Int) ≤ 1 ∧ (1 : Int) < 8)), fun h => absurd h (by decide : ¬ (1 : Int) = 4), fun _ => rfl, Nat.zero_le _, e, fun h => absurd h (by decide : ¬ (1 : Int) = 3)⟩
  · exact ⟨(by decide : (0 : Int) ≤ 2), (by decide : (2 : Int) < 13), (by decide : ¬ ((5 : Int) ≤ 2 ∧ (2 : Int) < 8)), fun h => absurd h (by decide : ¬ (2 : Int) = 4), fun _ => rfl, Nat.zero_le _, e, fun h => absurd h (by decide : ¬ (2 : Int) = 3)⟩
  · exact ⟨(by decide : (0 : Int) ≤ 3), (by decide : (3 : Int) < 13), (by decide : ¬ ((5 : Int) ≤ 3 ∧ (3 : Int) < 8)), fun h => absurd h (by decide : ¬ (3 : Int) = 4), fun _ => rfl, Nat.zero_le _, e, fun _ => h⟩
  · exact ⟨(by decide : (0 : Int) ≤ 4), (by decide : (4 : Int) < 13), (by decide : ¬ ((5 : Int) ≤ 4 ∧ (4 : Int) < 8)), fun _ => rfl, fun h => absurd rfl h, h1, h2, fun h => absurd h (by decide : ¬ (4 : Int) = 3)⟩
  · exact ⟨show (0 : Int) ≤ 8 + (k : Int) by omega, show 8 + (k : Int) < 13 by omega, show ¬ (5 ≤ 8 + (k : Int) ∧ 8 + (k : Int) < 8) by omega, fun h => by exfalso; have h : 8 + (k : Int) = 4 := h; omega, fun _ => rfl, Nat.zero_le _, e, fun h => by exfalso; have h : 8 + (k : Int) = 3 := h; omega⟩
theorem THq.ex9 (h : THq P q7 q8 b v) (hb : oT P b = 1) (e : EX P P') : THq P' q7 q8 b v := by
  obtain ⟨t, b0, f, h1, h2, h3, h4, h5, h6, h7, h8, h9, h10⟩ := h
  exact ⟨t, b0, f, (e.R hb (by decide) (by decide)).trans h1, e.T h2 (by decide), by rw [e.I h2 (by decide) (by decide)]; exact h3, h4, e.T h5 (by decide), (e.R h5 (by decide) (by decide)).trans h6, (e.R h2 (by decide) (by decide)).trans h7, e.T h8 (by decide), h9, by rw [e.I h8 (by decide) (by decide)]; exact h10⟩
theorem VALq.ex9 (h : VALq P sa q7 q8 b v) (e : EX P P') (g : KPx cp P P') : VALq P' sa q7 q8 b v := by
  obtain ⟨h1, h2, h3, h4, h5, ⟨c, h6, h6'⟩, h7, h8⟩ := h
  exact ⟨h1, e.T h2 (by decide), by rw [e.I h2 (by decide) (by decide)]; exact h3, by rw [e.I h2 (by decide) (by decide)]; exact h4, ((e b (by rw [h2]; decide) trivial).2.2.2.2.2.1).trans h5, ⟨c, (e.R h2 (by decide) (by decide)).trans h6, h6'.ex9 e g⟩, fun q => (e.R h2 (by decide) (by decide)).trans (h7 q), fun q => (h8 q).ex9 h2 e⟩
theorem FMq.ex9 (h : FMq P q7 H c f) (e : EX P P') : FMq P' q7 H c f := by
  obtain ⟨h1, h2, h3, h4, h5, h6, h7, ⟨a, i1, i2, i3⟩, h8, h9, ⟨a', j1, j2, j3⟩⟩ := h
  have I : ∀ k : Nat, ¬ (k = 4 ∨ k = 5 ∨ k = 24 ∨ k = 25) → oI P' k f = oI P k f := fun k hk => e.I h1 (by decide) hk
  refine ⟨e.T h1 (by decide), by rw [I 6 (by decide)]; exact h2, by rw [I 7 (by decide)]; exact h3, fun q => (e.R h1 (by decide) (by decide)).trans (h4 q), fun q => (e.R h1 (by decide) (by decide)).trans (h5 q), h6, by rw [I 8 (by decide)]; exact h7, ⟨a, (e.R h1 (by decide) (by decide)).trans i1, e.T i2 (by decide), fun k hk => ?_⟩, h8, by rw [I 9 (by decide)]; exact h9, ⟨a', (e.R h1 (by decide) (by decide)).trans j1, e.T j2 (by decide), fun k hk => ?_⟩⟩
  · obtain ⟨x, x1, x2, x3, x4, x5⟩ := i3 k hk
    have J : ∀ k : Nat, ¬ (k = 4 ∨ k = 5 ∨ k = 24 ∨ k = 25) → oI P' k x = oI P k x := fun k hk => e.I x2 (by decide) hk
    exact ⟨x, (congrFun ((e a (by rw [i2]; decide) trivial).2.2.2.2.2.2 (Or.inl i2)) k).trans x1, e.T x2 (by decide), by rw [J 10 (by decide)]; exact x3, by rw [J 11 (by decide)]; exact x4, by rw [J 12 (by decide)]; exact x5⟩
  · obtain ⟨x, x1, x2, x3, x4, x5, x6, x7, x8⟩ := j3 k hk
    have J : ∀ k : Nat, ¬ (k = 4 ∨ k = 5 ∨ k = 24 ∨ k = 25) → oI P' k x = oI P k x := fun k hk => e.I x2 (by decide) hk
    exact ⟨x, (congrFun ((e a' (by rw [j2]; decide) trivial).2.2.2.2.2.2 (Or.inr j2)) k).trans x1, e.T x2 (by decide), by rw [J 13 (by decide)]; exact x3, by rw [J 14 (by decide)]; exact x4, by rw [J 15 (by decide)]; exact x5, by rw [J 16 (by decide)]; exact x6, by rw [J 17 (by decide)]; exact x7, by rw [J 18 (by decide)]; exact x8⟩
theorem FAMq.ex9 (h : FAMq P q7 H n) (e : EX P P') : FAMq P' q7 H n := by
  refine ⟨h.1, h.2.1, h.2.2.1, fun c hc => ?_⟩
  obtain ⟨f, h1, h2⟩ := h.2.2.2 c hc
  exact ⟨f, h1, h2.ex9 e⟩
theorem AVq.ex9 {g : Nat → QV} (h : AVq P sa q7 q8 a g) (e : EX P P') (k9 : KPx True P P') : AVq P' sa q7 q8 a g := by
  obtain ⟨z1, z2⟩ := k9.1 trivial a h.1
  refine ⟨z1, fun k hk => ?_⟩
  obtain ⟨b, h1, h2⟩ := h.2 k hk
  exact ⟨b, by rw [z2]; exact h1, h2.ex9 e k9⟩
theorem VALq.t9 (h : VALq P sa q7 q8 b v) : oT P b = 1 := h.2.1
theorem OBJq.ex9 (h : OBJq P sa q7 q8 H ob fl) (e : EX P P') (k9 : KPx True P P') : OBJq P' sa q7 q8 H ob fl := by
  obtain ⟨h0, th, ar, h1, h2⟩ := h
  refine ⟨h0, th, ar, fun o ho => ?_, h2⟩
  obtain ⟨⟨b, i1, i2, i3⟩, i4, i5, i6⟩ := h1 o ho
  refine ⟨⟨b, i1, (e.R i3.t9 (by decide) (by decide)).trans i2, i3.ex9 e k9⟩, i4, ?_, i6.ex9 e k9⟩
  obtain ⟨t, b0, f, j1, j2, j3⟩ := i3.2.2.2.2.2.2.2 (show 8 ≤ 8 + H 11 o by omega)
  have et : th o = t := Option.some.inj (i2.symm.trans j1)
  rw [et] at i5 ⊢
  exact (e.R j2 (by decide) (by decide)).trans i5
-- ---- walks up the classes
theorem FPq.up9 {x : Int} {y y2 : Option Nat} (h : FPq q7 n x y) (F : FAMq P q7 H n) (hy : y = some f) (h2 : oR P 6 f = y2) : FPq q7 n (H 0 x.toNat) y2 ∧ 0 ≤ x ∧ x < n ∧ (oI P 7 f).toInt = 8 + x ∧ (oI P 6 f).toInt = x ∧ q7 x.toNat = some f := by
  rcases h with ⟨h3, h4⟩ | ⟨h3, h4, g, h5, h6⟩
  · rw [hy] at h4; cases h4
  · rw [hy] at h5
    obtain rfl := Option.some.inj h5
    obtain ⟨g, g1, g2, g3, g4, g5, g6, _⟩ := F.2.2.2 x.toNat (by omega)
    rw [h6] at g1
    obtain rfl := Option.some.inj g1
    refine ⟨?_, h3, h4, by omega, by omega, h6⟩
    have pz := F.2.1 x.toNat (by omega)
    by_cases q : H 0 x.toNat < 0
    · exact Or.inl ⟨q, h2.symm.trans (g5 q)⟩
    · have z := g6 (by omega)
      obtain ⟨i, i1, _⟩ := F.2.2.2 (H 0 x.toNat).toNat (by omega)
      exact Or.inr ⟨by omega, by omega, i, by rw [← h2, z, i1], i1⟩
theorem FPq.no9 {x : Int} (h : FPq q7 n x none) : x < 0 := by
  rcases h with ⟨h, _⟩ | ⟨_, _, _, h, _⟩
  · exact h
  · cases h
theorem THq.fp9 (h : THq P q7 q8 b v) (F : FAMq P q7 H n) (hv : 8 ≤ v.1) (h1 : oR P 1 b = some x) (h2 : oR P 9 x = some f) : FPq q7 n (v.1 - 8) (some f) := by
  obtain ⟨t, b0, g, i1, _, _, _, _, _, i2, _, i3, _⟩ := h
  rw [h1] at i1
  obtain rfl := Option.some.inj i1
  rw [h2] at i2
  obtain rfl := Option.some.inj i2
  refine Or.inr ⟨by omega, ?_, f, rfl, i3⟩
  by_cases q : v.1 - 8 < n
  · exact q
  · have z := F.2.2.1 (v.1 - 8).toNat (by omega)
    rw [z] at i3; cases i3
-- ---- values are made
theorem TXq.e9 : TXq P sa (sa 0) [] := Or.inr ⟨0, Or.inl rfl, rfl, rfl⟩
theorem VALq.mk9 (hb : oT P b = 1) (hv : QCN v) (h8 : v.1 < 8) (h0 : (oI P 0 b).toInt = v.1) (h1 : (oI P 1 b).toInt = qRes v 1) (hd : oD P b = qDb v) (hc : oR P 0 b = some c) (ht : TXq P sa c v.2.2.1) (hr : oR P 1 b = none) : VALq P sa q7 q8 b v :=
  ⟨hv, hb, h0, h1, hd, ⟨c, hc, ht⟩, fun _ => hr, fun h => absurd h8 (by omega)⟩
theorem VALq.n9 (h : VALq P sa q7 q8 b v) (h3 : ¬ v.1 = 3) (h4 : ¬ v.1 = 4) : (oI P 1 b).toInt = v.2.1 := by
  have z := h.2.2.2.1
  unfold qRes at z
  rw [if_neg (by decide), if_pos rfl, if_neg h3, if_neg h4] at z
  exact z
theorem VALq.k9 (h : VALq P sa q7 q8 b v) : (oI P 0 b).toInt = v.1 := h.2.2.1
theorem VALq.q9 (h : VALq P sa q7 q8 b v) : 0 ≤ v.1 ∧ v.1 < 13 ∧ ¬ (5 ≤ v.1 ∧ v.1 < 8) ∧ (v.1 = 4 → v.2.1 = 0) ∧ (¬ v.1 = 4 → v.2.2.1 = []) ∧ v.2.2.1.length ≤ 16 ∧ CHS v.2.2.1 ∧ (v.1 = 3 → FN v.2.2.2) := QCN.kind9 h.1
theorem VALq.f9 (h : VALq P sa q7 q8 b v) (F : FAMq P q7 H n) (h1 : oR P 1 b = some x) (h2 : oR P 9 x = some f) : 8 ≤ v.1 ∧ FPq q7 n (v.1 - 8) (some f) := by
  by_cases q : v.1 < 8
  · have z := h.2.2.2.2.2.2.1 q
    rw [h1] at z; cases z
  · have q : 8 ≤ v.1 := by omega
    exact ⟨q, (h.2.2.2.2.2.2.2 q).fp9 F q h1 h2⟩
theorem VALq.l9 (h : VALq P sa q7 q8 b v) (F : FAMq P q7 H n) (h8 : 8 ≤ v.1) : v.1 - 8 < n := by
  obtain ⟨t, b0, f, i1, _, _, _, _, _, i2, _, i3, _⟩ := h.2.2.2.2.2.2.2 h8
  by_cases q : v.1 - 8 < n
  · exact q
  · have z := F.2.2.1 (v.1 - 8).toNat (by omega)
    rw [z] at i3; cases i3
theorem VALq.no9 (h : VALq P sa q7 q8 b v) (h1 : oR P 1 b = none) : v.1 < 8 := by
  by_cases q : v.1 < 8
  · exact q
  · obtain ⟨t, b0, f, i1, _⟩ := h.2.2.2.2.2.2.2 (by omega)
    rw [h1] at i1; cases i1
theorem qSteps_le9 : ∀ (l : List Nat) (u : Int), qSteps l u ≤ (l.length : Int)
  | [], u => by show (-1 : Int) ≤ ((0 : Nat) : Int); omega
  | x :: t, u => by
    have z := qSteps_le9 t u
    have e : (((x :: t).length : Nat) : Int) = (t.length : Int) + 1 := by rw [List.length_cons]; omega
    rw [e]
    unfold qSteps
    split
    · omega
    · split <;> omega
theorem qAncF_l9 : ∀ (f : Nat) (c : Int), (qAncF H f c).length ≤ f
  | 0, c => Nat.le_refl _
  | f + 1, c => by
    unfold qAncF
    split
    · exact Nat.zero_le _
    · have z := qAncF_l9 f (H 0 c.toNat)
      rw [List.length_cons]; omega
theorem qSteps_b9 (c : Int) : -1 ≤ qSteps (qAnc H c) u ∧ qSteps (qAnc H c) u ≤ 6 := by
  refine ⟨qSteps_b _ _, ?_⟩
  have z := qSteps_le9 (qAnc H c) u
  have y := qAncF_l9 (H := H) 6 c
  have e : (qAnc H c).length ≤ 6 := y
  omega
theorem qSteps_n9 (hu : u < 0) : ∀ l : List Nat, qSteps l u = -1
  | [] => rfl
  | x :: t => by
    unfold qSteps
    rw [if_neg (by omega), qSteps_n9 hu t]; rfl
theorem qSteps_z9 {x : Int} (hp : QPA H n) (h5 : n ≤ 5) (h0 : 0 ≤ x) (hn : x < n) (hu : ¬ x = u) : ¬ qSteps (qAnc H x) u = 0 := by
  rw [qAnc_cons hp h0 hn h5]
  unfold qSteps
  rw [if_neg (by omega)]
  split <;> omega
theorem q_fits9 {t : Int} (F : FAMq P q7 H n) (h : VALq P sa q7 q8 b v) (hk : ¬ v.1 = t) (h5 : ¬ t = 5) (h0 : ¬ v.1 = 0) : qFits H v t = true ↔ ¬ qSteps (qAnc H (v.1 - 8)) (t - 8) = -1 := by
  have lb := qSteps_b9 (H := H) (u := t - 8) (v.1 - 8)
  unfold qFits
  rw [decide_eq_true_iff]
  constructor
  · rintro (q | q | q | ⟨q1, q2, q3⟩)
    · exact absurd q h5
    · exact absurd q hk
    · exact absurd q.1 h0
    · omega
  · intro q
    refine Or.inr (Or.inr (Or.inr ?_))
    by_cases q8 : 8 ≤ v.1
    · have z := qSteps_z9 (u := t - 8) F.2.1 F.1 (show 0 ≤ v.1 - 8 by omega) (h.l9 F q8) (by omega)
      by_cases q9 : 8 ≤ t
      · exact ⟨q8, q9, by omega⟩
      · exact absurd (qSteps_n9 (by omega) _) q
    · rw [qAnc_neg (by omega)] at q
      exact absurd rfl q
theorem FAMq.f9 (F : FAMq P q7 H n) (h : q7 c = some f) (hn : (c : Int) < n) : FMq P q7 H c f := by
  obtain ⟨g, g1, g2⟩ := F.2.2.2 c hn
  rw [h] at g1
  obtain rfl := Option.some.inj g1
  exact g2
theorem FMq.fd9 {k : Nat} {y : Option Nat} (h : FMq P q7 H c f) (ha : oR P 7 f = some a) (hk : (k : Int) < H 1 c) (hy : oA P a k = y) : ∃ x, y = some x ∧ FDq P H x (6 * c + k) ∧ oT P x = 4 := by
  obtain ⟨b, b1, b2, b3⟩ := h.2.2.2.2.2.2.2.1
  rw [ha] at b1
  obtain rfl := Option.some.inj b1
  obtain ⟨x, x1, x2, x3⟩ := b3 k hk
  exact ⟨x, hy.symm.trans x1, x3, x2⟩
theorem qFldL_own9 {x nm : Int} (hp : QPA H n) (h5 : n ≤ 5) (h0 : 0 ≤ x) (hn : x < n) : qFldL H (qAnc H x) nm = match qOwn H x.toNat nm with
  | some k => some (6 * x.toNat + k)
  | none => qFldL H (qAnc H (H 0 x.toNat)) nm := by
  rw [qAnc_cons hp h0 hn h5]; rfl
theorem fp_cz9 {o : Option Ordering} (h : (Op.cmpValue o .l).toInt = 0) : o = some .eq := by
  rcases o with _ | z
  · exact absurd h (by decide)
  · cases z
    · exact absurd h (by decide)
    · rfl
    · exact absurd h (by decide)
theorem fp_d2i09 {r : UInt64} (h : FN r) (e : FP.dcmp r FP.dconst0 = some .eq) : FP.d2i r = 0 := by
  obtain ⟨s, c, q, hx⟩ := h
  have e0 : Jvm.FP.Core.decode Jvm.FP.Core.b64 (FP.dconst0).toNat = .fin false 0 (-1074) := by decide +kernel
  have e : Jvm.FP.Core.order (Jvm.FP.Core.decode Jvm.FP.Core.b64 r.toNat) (Jvm.FP.Core.decode Jvm.FP.Core.b64 (FP.dconst0).toNat) = some .eq := e
  rw [hx, e0] at e
  have c0 : c = 0 := by
    by_cases hc : c = 0
    · exact hc
    · exfalso
      have e1 : compareOfLessAndEq (Jvm.FP.Core.signed s (Jvm.FP.Core.inUnits c q (min q (-1074)))) (Jvm.FP.Core.signed false (Jvm.FP.Core.inUnits 0 (-1074) (min q (-1074)))) = .eq := Option.some.inj e
      have p1 : 0 < Jvm.FP.Core.inUnits c q (min q (-1074)) := Nat.mul_pos (Nat.pos_of_ne_zero hc) (Nat.two_pow_pos _)
      have p2 : Jvm.FP.Core.inUnits 0 (-1074) (min q (-1074)) = 0 := Nat.zero_mul _
      have p3 : ¬ Jvm.FP.Core.signed s (Jvm.FP.Core.inUnits c q (min q (-1074))) = Jvm.FP.Core.signed false (Jvm.FP.Core.inUnits 0 (-1074) (min q (-1074))) := by
        rw [p2]
        cases s
        · show ¬ ((Jvm.FP.Core.inUnits c q (min q (-1074)) : Nat) : Int) = ((0 : Nat) : Int)
          omega
        · show ¬ -((Jvm.FP.Core.inUnits c q (min q (-1074)) : Nat) : Int) = ((0 : Nat) : Int)
          omega
      unfold compareOfLessAndEq at e1
      split at e1
      · cases e1
      · first
        | cases e1
        | (rw [if_neg p3] at e1; cases e1)
  subst c0
  show Jvm.FP.Core.toI (Jvm.FP.Core.decode Jvm.FP.Core.b64 r.toNat) = 0
  rw [hx]
  have t0 : Jvm.FP.Core.truncate s 0 q = 0 := by
    unfold Jvm.FP.Core.truncate
    rw [Nat.zero_mul, Nat.zero_div]
    cases s <;> rfl
  show Int32.ofInt (max _ (min _ (Jvm.FP.Core.truncate s 0 q))) = 0
  rw [t0]
  decide +kernel
/-- whether a value counts as true, as the class reckons -/
theorem VALq.b9 {z : Bool} (h : VALq P sa q7 q8 b v) (h4 : ¬ v.1 = 4) (hz : z = decide (8 ≤ v.1 ∨ ¬ (oI P 1 b).toInt = 0 ∨ ¬ (Op.cmpValue (FP.dcmp (oD P b) FP.dconst0) .l).toInt = 0)) : qCvB v = .inl (qBool z) := by
  obtain ⟨g1, g2, g3, g4, g5, g6, g7, g8⟩ := h.q9
  have hd : oD P b = qDb v := h.2.2.2.2.1
  have c0 : (Op.cmpValue (FP.dcmp FP.dconst0 FP.dconst0) .l).toInt = 0 := by decide +kernel
  by_cases h3 : v.1 = 3
  · have e1 : (oI P 1 b).toInt = (FP.d2i v.2.2.2).toInt := by
      have w := h.2.2.2.1
      unfold qRes at w
      rw [if_neg (by decide), if_pos rfl, if_pos h3] at w
      exact w
    have e2 : qDb v = v.2.2.2 := by
      unfold qDb qRe
      rw [if_pos (Or.inr h3), if_pos h3]
    unfold qCvB
    rw [if_neg h4, if_pos h3, hz, e1, hd, e2]
    congr 2
    unfold qEq
    by_cases q : (Op.cmpValue (FP.dcmp v.2.2.2 FP.dconst0) .l).toInt = 0
    · have w := fp_d2i09 (g8 h3) (fp_cz9 q)
      rw [w, decide_eq_true q]
      exact (decide_eq_false (by rintro (a | a | a); · omega
                                 · exact a (by decide)
                                 · exact a q)).symm
    · rw [decide_eq_false q]
      exact (decide_eq_true (Or.inr (Or.inr q))).symm
  · rw [qCvB_x h3 h4, hz, h.n9 h3 h4, hd]
    congr 2
    have ck : qDb v = FP.dconst0 ∨ ¬ v.2.1 = 0 := by
      by_cases h2 : v.1 = 2
      · by_cases z0 : v.2.1 = 0
        · refine Or.inl ?_
          unfold qDb qRe
          rw [if_pos (Or.inl h2), if_neg h3, z0]
          decide +kernel
        · exact Or.inr z0
      · exact Or.inl (by unfold qDb; rw [if_neg (by omega)])
    rcases ck with ck | ck
    · rw [ck]
      exact decide_eq_decide.mpr ⟨fun a => by rcases a with a | a; exact Or.inl a; exact Or.inr (Or.inl a), fun a => by
        rcases a with a | a | a
        · exact Or.inl a
        · exact Or.inr a
        · exact absurd c0 a⟩
    · rw [decide_eq_true (Or.inr ck)]
      exact (decide_eq_true (Or.inr (Or.inl ck))).symm
end VALs
