/-! ===== the reference: BOOLs ===== -/
section QBL
variable {H : QT} {ob : Int} {m : QM} {p : Nat} {v : QV} {s : List Int} {a b c d e : Int} {k : Int32} {x y : Int64} {r : UInt64} {t : Bool}
theorem q_eq4 : s = [a, b, c, d] ↔ s.length = 4 ∧ s.getD 0 0 = a ∧ s.getD 1 0 = b ∧ s.getD 2 0 = c ∧ s.getD 3 0 = d := by
  constructor
  · rintro rfl; exact ⟨rfl, rfl, rfl, rfl, rfl⟩
  · rintro ⟨h, h0, h1, h2, h3⟩
    rcases s with _ | ⟨x0, _ | ⟨x1, _ | ⟨x2, _ | ⟨x3, _ | ⟨x4, t⟩⟩⟩⟩⟩
    · exact absurd h (by decide)
    · exact absurd h (by simp)
    · exact absurd h (by simp)
    · exact absurd h (by simp)
    · have h0 : x0 = a := h0
      have h1 : x1 = b := h1
      have h2 : x2 = c := h2
      have h3 : x3 = d := h3
      rw [h0, h1, h2, h3]
    · simp only [List.length_cons] at h; omega
theorem q_eq5 : s = [a, b, c, d, e] ↔ s.length = 5 ∧ s.getD 0 0 = a ∧ s.getD 1 0 = b ∧ s.getD 2 0 = c ∧ s.getD 3 0 = d ∧ s.getD 4 0 = e := by
  constructor
  · rintro rfl; exact ⟨rfl, rfl, rfl, rfl, rfl, rfl⟩
  · rintro ⟨h, h0, h1, h2, h3, h4⟩
    rcases s with _ | ⟨x0, _ | ⟨x1, _ | ⟨x2, _ | ⟨x3, _ | ⟨x4, _ | ⟨x5, t⟩⟩⟩⟩⟩⟩
    · exact absurd h (by decide)
    · exact absurd h (by simp)
    · exact absurd h (by simp)
    · exact absurd h (by simp)
    · exact absurd h (by simp)
    · have h0 : x0 = a := h0
      have h1 : x1 = b := h1
      have h2 : x2 = c := h2
      have h3 : x3 = d := h3
      have h4 : x4 = e := h4
      rw [h0, h1, h2, h3, h4]
    · simp only [List.length_cons] at h; omega
theorem QW.bool (hk : k.toInt = 1) (ha : x.toInt = if t then 1 else 0) (hy : y.toInt = 0) : QW H ob m (upd m.1 p k, vp_updL m.2.1 p x, vp_updL m.2.2.1 p y, vf_upd m.2.2.2 p r) p (qBool t) :=
  ⟨k, x, y, r, rfl, Or.inr (Or.inl ⟨t, rfl⟩), hk, fun z => absurd (show (1 : Int) = 3 from z) (by decide), fun z => absurd (show (1 : Int) = 4 from z) (by decide), fun _ _ => ⟨ha, hy⟩⟩
theorem QW.int {n : Int32} (hk : k.toInt = 2) (ha : x.toInt = n.toInt) (hy : y.toInt = 0) : QW H ob m (upd m.1 p k, vp_updL m.2.1 p x, vp_updL m.2.2.1 p y, vf_upd m.2.2.2 p r) p (qInt n) :=
  ⟨k, x, y, r, rfl, Or.inr (Or.inr (Or.inl ⟨n, rfl⟩)), hk, fun z => absurd (show (2 : Int) = 3 from z) (by decide), fun z => absurd (show (2 : Int) = 4 from z) (by decide), fun _ _ => ⟨ha, hy⟩⟩
theorem QW.real (hk : k.toInt = 3) (hr : FN r) : QW H ob m (upd m.1 p k, vp_updL m.2.1 p x, vp_updL m.2.2.1 p y, vf_upd m.2.2.2 p r) p (qReal r) :=
  ⟨k, x, y, r, rfl, Or.inr (Or.inr (Or.inr (Or.inl ⟨r, hr, rfl⟩))), hk, fun _ => rfl, fun z => absurd (show (3 : Int) = 4 from z) (by decide), fun z => absurd (show (3 : Int) = 3 from rfl) z⟩
theorem QW.null (hk : k.toInt = 0) (ha : x.toInt = 0) (hy : y.toInt = 0) : QW H ob m (upd m.1 p k, vp_updL m.2.1 p x, vp_updL m.2.2.1 p y, vf_upd m.2.2.2 p r) p qNull :=
  ⟨k, x, y, r, rfl, Or.inl rfl, hk, fun z => absurd (show (0 : Int) = 3 from z) (by decide), fun z => absurd (show (0 : Int) = 4 from z) (by decide), fun _ _ => ⟨ha, hy⟩⟩
theorem QX.put : QX m (upd m.1 p k, vp_updL m.2.1 p x, vp_updL m.2.2.1 p y, vf_upd m.2.2.2 p r) p := ⟨k, x, y, r, rfl⟩
theorem qCvB_x (h3 : ¬ v.1 = 3) (h4 : ¬ v.1 = 4) : qCvB v = .inl (qBool (decide (8 ≤ v.1 ∨ ¬ v.2.1 = 0))) := by
  unfold qCvB
  rw [if_neg h4, if_neg h3]
theorem q_ifb (z : Bool) : (if z then (1 : Int) else 0) = 1 ↔ z = true := by cases z <;> decide
end QBL
