/-! ===== classes and their counts ===== -/
/-- the classes' counts of methods -/
def F9 (P P' : PL) : Prop := ∀ x : Nat, oT P x = 3 → oT P' x = 3 ∧ oI P' 9 x = oI P 9 x
theorem F9.rf {P : PL} : F9 P P := fun _ h => ⟨h, rfl⟩
theorem EX.f9 {P P' : PL} (h : EX P P') : F9 P P' := fun x hx => ⟨h.T hx (by decide), h.I hx (by decide) (by decide)⟩
theorem F9.trans {P P' P2 : PL} (h : F9 P P') (h2 : F9 P' P2) : F9 P P2 := fun x hx => ⟨(h2 x (h x hx).1).1, (h2 x (h x hx).1).2.trans (h x hx).2⟩
theorem FC.f9 {P P' : PL} {sa : Nat → Nat} {a : Nat} (hP : PV sa P) (ha : oT P a = 3) (f : FC 7 P P' a) (e : TK P P') : F9 P P' := fun x hx => by
  refine ⟨e.T hx (by decide), ?_⟩
  by_cases q : x = a
  · subst q; exact f.2.2.1 9 (by decide)
  · refine (f.1 x (by rw [hx]; decide) ⟨q, fun h => ?_⟩).2.2.2.1 9 (by decide)
    obtain ⟨b, b1, b2⟩ := (hP.t3 ha).2.1
    rw [b1] at h
    have := Option.some.inj h
    rw [this, hx] at b2; exact absurd b2 (by decide)
theorem FC.m9 {P P' : PL} {sa : Nat → Nat} {a : Nat} (hP : PV sa P) (ha : oT P a = 3) (f : FC 8 P P' a) (e : TK P P') : ∀ x : Nat, oT P x = 3 → oT P' x = 3 ∧ (¬ x = a → oI P' 9 x = oI P 9 x) := fun x hx => by
  refine ⟨e.T hx (by decide), fun q => ?_⟩
  refine (f.1 x (by rw [hx]; decide) ⟨q, fun h => ?_⟩).2.2.2.1 9 (by decide)
  obtain ⟨b, b1, b2⟩ := (hP.t3 ha).2.2.1
  rw [b1] at h
  have := Option.some.inj h
  rw [this, hx] at b2; exact absurd b2 (by decide)
/-- the classes' fields: their counts, arrays, names -/
def F5 (P P' : PL) : Prop := (∀ x : Nat, oT P x = 3 → oT P' x = 3 ∧ oI P' 8 x = oI P 8 x ∧ oR P' 7 x = oR P 7 x) ∧ (∀ x : Nat, oT P x = 10 → oT P' x = 10 ∧ oA P' x = oA P x) ∧ (∀ x : Nat, oT P x = 4 → oT P' x = 4 ∧ oI P' 10 x = oI P 10 x)
theorem F5.rf {P : PL} : F5 P P := ⟨fun _ h => ⟨h, rfl, rfl⟩, fun _ h => ⟨h, rfl⟩, fun _ h => ⟨h, rfl⟩⟩
theorem EX.f5 {P P' : PL} (h : EX P P') : F5 P P' := ⟨fun x hx => ⟨h.T hx (by decide), h.I hx (by decide) (by decide), h.R hx (by decide) (by decide)⟩, fun x hx => ⟨h.T hx (by decide), (h x (by rw [hx]; decide) trivial).2.2.2.2.2.2 (Or.inl hx)⟩, fun x hx => ⟨h.T hx (by decide), h.I hx (by decide) (by decide)⟩⟩
theorem FC.f5 {P P' : PL} {sa : Nat → Nat} {a : Nat} (hP : PV sa P) (ha : oT P a = 3) (f : FC 8 P P' a) (e : TK P P') : F5 P P' := by
  obtain ⟨b, b1, b2⟩ := (hP.t3 ha).2.2.1
  have key : ∀ x : Nat, ¬ oT P x = 0 → ¬ oT P x = 11 → ¬ x = a → _ := fun x h0 h11 hne => f.1 x h0 ⟨hne, fun h => by
    rw [b1] at h
    have := Option.some.inj h
    rw [← this] at h11; exact h11 b2⟩
  refine ⟨fun x hx => ⟨e.T hx (by decide), ?_, ?_⟩, fun x hx => ⟨e.T hx (by decide), ?_⟩, fun x hx => ⟨e.T hx (by decide), ?_⟩⟩
  · by_cases q : x = a
    · subst q; exact f.2.2.1 8 (by decide)
    · exact (key x (by rw [hx]; decide) (by rw [hx]; decide) q).2.2.2.1 8 (by decide)
  · by_cases q : x = a
    · subst q; exact f.2.1 7 (by decide)
    · exact (key x (by rw [hx]; decide) (by rw [hx]; decide) q).2.2.2.2.1 7 (by decide)
  · exact (key x (by rw [hx]; decide) (by rw [hx]; decide) (fun q => by rw [q, ha] at hx; exact absurd hx (by decide))).2.2.2.2.2.2 (Or.inl hx)
  · exact (key x (by rw [hx]; decide) (by rw [hx]; decide) (fun q => by rw [q, ha] at hx; exact absurd hx (by decide))).2.2.2.1 10 (by decide)
