/-! ===== small rows of the class's walk ===== -/
theorem raw_le {P : PL} {q t : Nat} (h : oT P q = t) (ht : 20 ≤ t) : 20 ≤ oT P q := by rw [h]; exact ht
