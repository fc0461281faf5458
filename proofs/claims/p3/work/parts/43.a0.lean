
theorem RT_lt {p : Int → Prop} {t : Int → Int} {i k : Int} (h : RT p t i k) (h2 : ¬ p (t k)) (h3 : p (t i)) : i < k := by
  have := h.1
  by_cases e : i = k
  · subst e; exact absurd h3 h2
  · omega
