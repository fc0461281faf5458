/-- a token ends within the text -/
theorem TokR_le {t : Int → Int} {n i k v e : Int} (hz : ∀ z, n ≤ z → t z = 0) (hi : i < n) (h : TokR t n i (some (k, v, e))) : e ≤ n := by
  have z0 := hz n (Int.le_refl _)
  have run : ∀ {p : Int → Prop} {j f : Int}, ¬ p 0 → RT p t j f → j ≤ n → f ≤ n := fun {p j f} hp hr hj => by
    by_cases c : f ≤ n
    · exact c
    · have q := hr.2 n hj (by omega)
      rw [z0] at q
      exact absurd q hp
  rcases h with ⟨a1, f, a2, a3⟩ | ⟨a1, f, a2, a3⟩ | ⟨a1, f, a2, a4, a5, a3⟩ | ⟨a1, a4, a5, a3⟩
  · have r1 := run (by omega) a2.1 (by omega)
    rcases a3 with ⟨-, b⟩ | ⟨-, -, b⟩ | ⟨-, b1, f2, b2, b3⟩
    · cases b
    · cases b; exact r1
    · have c : f < n := by
        by_cases c : f < n
        · exact c
        · have := hz f (by omega); omega
      rcases b3 with ⟨-, b⟩ | ⟨-, b⟩
      · cases b
      · cases b; exact run (by omega) b2.1 (by omega)
  · have r1 := run (by omega) a2.1 (by omega)
    rcases a3 with ⟨-, b⟩ | ⟨-, b⟩
    · cases b
    · cases b; exact r1
  · rcases a3 with ⟨-, b⟩ | ⟨b1, -, b⟩
    · cases b
    · cases b
      by_cases c : f < n
      · omega
      · have := hz f (by omega); omega
  · rcases a3 with ⟨b1, b⟩ | ⟨-, -, b⟩ | ⟨-, -, b⟩
    · cases b
      by_cases c : i + 1 < n
      · omega
      · have := hz (i + 1) (by omega); omega
    · cases b; omega
    · cases b
theorem LXc.le {kd pl nm kd2 pl2 nm2 : Nat → Int32} {n n2 : Int32} {i ret m : Int} {r : TR} {t : Int → Int} (h : LXc kd pl nm n kd2 pl2 nm2 n2 i ret r) (hr : TokR t m i r) (hz : ∀ z, m ≤ z → t z = 0) (hi : i < m) (hl : i < ret) : ret ≤ m := by
  cases r with
  | none => have h : ret ≤ i := h; omega
  | some x =>
    obtain ⟨k, v, e⟩ := x
    rw [h.1]
    exact TokR_le hz hi hr
