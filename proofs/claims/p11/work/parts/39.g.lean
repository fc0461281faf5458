/-! ===== the classes' own fields ===== -/
/-- one of the class's first m fields has the name k -/
def ON (P : PL) (a : Nat) (m : Int) (k : Int32) : Prop := ∃ (i : Nat) (b f : Nat), (i : Int) < m ∧ oR P 7 a = some b ∧ oA P b i = some f ∧ oI P 10 f = k
theorem ON.zero {P : PL} {a : Nat} {k : Int32} {m : Int} (h : m ≤ 0) : ¬ ON P a m k := fun ⟨i, b, f, h1, _⟩ => by omega
theorem ON.mono {P : PL} {a : Nat} {k : Int32} {m m' : Int} (h : ¬ ON P a m k) (e : m' ≤ m) : ¬ ON P a m' k := fun ⟨i, b, f, h1, h2⟩ => h ⟨i, b, f, by omega, h2⟩
theorem ON.step {P : PL} {a b : Nat} {k m : Int32} {m' : Int} (h : ¬ ON P a m.toInt k) (hm : 0 ≤ m.toInt) (hb : oR P 7 a = some b) (hq : ∀ f, oA P b m.toNatClampNeg = some f → ¬ oI P 10 f = k) (e : m' = m.toInt + 1) : ¬ ON P a m' k := fun ⟨i, b', f, h1, h2, h3, h4⟩ => by
  rw [hb] at h2
  have hbb := Option.some.inj h2
  subst hbb
  by_cases q : (i : Int) < m.toInt
  · exact h ⟨i, b, f, q, hb, h3, h4⟩
  · have ei : i = m.toNatClampNeg := by show i = m.toInt.toNat; omega
    subst ei; exact hq f h3 h4
/-- a field has been added -/
def AF (P P' : PL) (a : Nat) (k : Int32) : Prop := ∃ b f : Nat, oR P 7 a = some b ∧ oA P' b = va_up (oA P b) (oI P 8 a).toNatClampNeg (some f) ∧ oT P f = 0 ∧ oT P' f = 4 ∧ oI P' 10 f = k
