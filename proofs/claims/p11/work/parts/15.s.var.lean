/-! ===== the reference: variables ===== -/
/-- where a variable stands -/
def QPL (f : Nat → Int32) (n : Int) (nm : Int32) (r : Int) : Prop := (r = -1 ∧ ∀ k : Nat, (k : Int) < n → ¬ f k = nm) ∨ ∃ k : Nat, (k : Int) < n ∧ f k = nm ∧ r = 64 + k
section QVA
variable {f f2 : Nat → Int32} {n n2 r r2 : Int} {nm : Int32} {k : Nat}
theorem QPL.start (h : n ≤ 0) (hr : r = -1) : QPL f n nm r := Or.inl ⟨hr, fun k hk => by omega⟩
theorem QPL.hit (hk : (k : Int) < n) (e : f k = nm) (hr : r = 64 + k) : QPL f n nm r := Or.inr ⟨k, hk, e, hr⟩
theorem QPL.miss (h : QPL f n nm r) (hn : n2 = n + 1) (hk : (k : Int) = n) (e : ¬ f k = nm) (hr : r2 = r) : QPL f n2 nm r2 := by
  subst hr
  rcases h with ⟨h1, h2⟩ | ⟨j, h1, h2, h3⟩
  · refine Or.inl ⟨h1, fun i hi => ?_⟩
    by_cases q : i = k
    · subst q; exact e
    · exact h2 i (by omega)
  · exact Or.inr ⟨j, by omega, h2, h3⟩
/-- a place for a variable: there before, new, or none left -/
def QPF (f f2 : Nat → Int32) (n n2 : Int) (nm : Int32) (r : Int) : Prop :=
  (n2 = n ∧ f2 = f ∧ ∃ k : Nat, (k : Int) < n ∧ f k = nm ∧ r = 64 + k) ∨
  ((∀ k : Nat, (k : Int) < n → ¬ f k = nm) ∧ n < 12 ∧ n2 = n + 1 ∧ f2 = upd f n.toNat nm ∧ r = 64 + n) ∨
  ((∀ k : Nat, (k : Int) < n → ¬ f k = nm) ∧ ¬ n < 12 ∧ n2 = n ∧ f2 = f ∧ r = -1)
end QVA
