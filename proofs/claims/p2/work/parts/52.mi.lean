/-! ===== the reference: its invariant, call by call ===== -/
theorem MI.letter {σ : RS} (h : MI σ) (k0 : Int32) (r : Int32) (u : Int32 × Int32 × (Nat → Int32)) (hp : ((r.toInt = u.2.1.toInt) ∧ (((k0.toInt < 32 ∨ 126 < k0.toInt) ∧ u.1.toInt = 1 ∧ u.2.1.toInt = (σ.1 1).toInt) ∨ (32 ≤ k0.toInt ∧ k0.toInt ≤ 126 ∧ (σ.1 1).toInt = 40 ∧ u.1.toInt = 2 ∧ u.2.1.toInt = (σ.1 1).toInt) ∨ (32 ≤ k0.toInt ∧ k0.toInt ≤ 126 ∧ (σ.1 1).toInt < 40 ∧ u.1.toInt = 0 ∧ u.2.1.toInt = (σ.1 1).toInt + 1))) ∧ (u.1.toInt = 0 → u.2.2 = upd (σ.2.1 2) (σ.1 1).toNatClampNeg k0) ∧ (¬ u.1.toInt = 0 → u.2.2 = σ.2.1 2)) : MI (rA (rS (rS σ 0 u.1) 1 u.2.1) 2 u.2.2) := by
  obtain ⟨⟨m1, m1b⟩, ⟨m2, m2b⟩, m3, ⟨m4, m4b⟩, m5, m6, ⟨m7, m7b⟩, m8, m9, m10, m11, m12, m13, ⟨m14, m14b⟩, m15⟩ := h
  have z : 0 ≤ u.2.1.toInt ∧ u.2.1.toInt ≤ 40 := by
    obtain ⟨⟨-, h | h | h⟩, -⟩ := hp <;> omega
  exact ⟨z, ⟨m2, m2b⟩, m3, ⟨m4, m4b⟩, m5, m6, ⟨m7, m7b⟩, m8, m9, m10, m11, m12, m13, ⟨m14, m14b⟩, m15⟩
theorem MI.parse {σ : RS} (h : MI σ)  (r : Int32) (u : Int32 × Int32 × Int32 × (Nat → Int32) × Int32 × Int32 × (Nat → Int32) × (Nat → Int32) × (Nat → Int64) × (Nat → Int32) × Int32 × (Nat → Int32) × (Nat → Int64) × Int32 × Int32 × Int32 × (Nat → Int32) × (Nat → Int32) × (Nat → Int32) × (Nat → Int32) × (Nat → Int32) × (Nat → Int32) × (Nat → Int32) × (Nat → Int32) × (Nat → Int32) × (Nat → Int32) × (Nat → Int32) × (Nat → Int32) × Int32 × Int32 × Int32 × Int32 × Int32 × Int32) (hp : (0 ≤ u.2.1.toInt ∧ u.2.1.toInt ≤ 40 ∧ 0 ≤ u.2.2.1.toInt ∧ u.2.2.1.toInt ≤ 40 ∧ PRS u.2.2.1.toInt u.2.2.2.2.2.2.2.2.2.2.2.1 u.2.2.2.2.2.2.2.2.2.2.2.2.1 u.2.2.2.1 ∧ 0 ≤ u.1.toInt ∧ u.1.toInt ≤ 2) ∧ (((σ.1 10).toInt = 40 → u.1.toInt = 1 ∧ u.2.1.toInt = (σ.1 1).toInt ∧ u.2.2.1.toInt = (σ.1 10).toInt) ∧ (¬ (σ.1 10).toInt = 40 → u.1.toInt = 0 ∧ u.2.1.toInt = 0 ∧ ∀ R, READ (tx (σ.2.1 2) (σ.1 1)) (σ.1 1).toInt (LTR u.2.2.2.2.2.2.1 u.2.2.2.2.2.2.2.2.1 u.2.2.2.2.2.2.2.2.2.1) R → ANS R r (σ.1 10) u.2.2.1))) : MI (rS (rS (rS (rS (rS (rS (rA (rA (rA (rA (rA (rA (rA (rA (rA (rA (rA (rA (rS (rS (rS (rJ (rA (rS (rA (rJ (rA (rA (rS (rS (rA (rS (rS (rS σ 0 u.1) 1 u.2.1) 10 u.2.2.1) 13 u.2.2.2.1) 15 u.2.2.2.2.1) 3 u.2.2.2.2.2.1) 4 u.2.2.2.2.2.2.1) 5 u.2.2.2.2.2.2.2.1) 6 u.2.2.2.2.2.2.2.2.1) 7 u.2.2.2.2.2.2.2.2.2.1) 14 u.2.2.2.2.2.2.2.2.2.2.1) 11 u.2.2.2.2.2.2.2.2.2.2.2.1) 12 u.2.2.2.2.2.2.2.2.2.2.2.2.1) 16 u.2.2.2.2.2.2.2.2.2.2.2.2.2.1) 19 u.2.2.2.2.2.2.2.2.2.2.2.2.2.2.1) 29 u.2.2.2.2.2.2.2.2.2.2.2.2.2.2.2.1) 31 u.2.2.2.2.2.2.2.2.2.2.2.2.2.2.2.2.1) 30 u.2.2.2.2.2.2.2.2.2.2.2.2.2.2.2.2.2.1) 32 u.2.2.2.2.2.2.2.2.2.2.2.2.2.2.2.2.2.2.1) 21 u.2.2.2.2.2.2.2.2.2.2.2.2.2.2.2.2.2.2.2.1) 22 u.2.2.2.2.2.2.2.2.2.2.2.2.2.2.2.2.2.2.2.2.1) 20 u.2.2.2.2.2.2.2.2.2.2.2.2.2.2.2.2.2.2.2.2.2.1) 23 u.2.2.2.2.2.2.2.2.2.2.2.2.2.2.2.2.2.2.2.2.2.2.1) 24 u.2.2.2.2.2.2.2.2.2.2.2.2.2.2.2.2.2.2.2.2.2.2.2.1) 25 u.2.2.2.2.2.2.2.2.2.2.2.2.2.2.2.2.2.2.2.2.2.2.2.2.1) 26 u.2.2.2.2.2.2.2.2.2.2.2.2.2.2.2.2.2.2.2.2.2.2.2.2.2.1) 27 u.2.2.2.2.2.2.2.2.2.2.2.2.2.2.2.2.2.2.2.2.2.2.2.2.2.2.1) 28 u.2.2.2.2.2.2.2.2.2.2.2.2.2.2.2.2.2.2.2.2.2.2.2.2.2.2.2.1) 17 u.2.2.2.2.2.2.2.2.2.2.2.2.2.2.2.2.2.2.2.2.2.2.2.2.2.2.2.2.1) 33 u.2.2.2.2.2.2.2.2.2.2.2.2.2.2.2.2.2.2.2.2.2.2.2.2.2.2.2.2.2.1) 34 u.2.2.2.2.2.2.2.2.2.2.2.2.2.2.2.2.2.2.2.2.2.2.2.2.2.2.2.2.2.2.1) 8 u.2.2.2.2.2.2.2.2.2.2.2.2.2.2.2.2.2.2.2.2.2.2.2.2.2.2.2.2.2.2.2.1) 9 u.2.2.2.2.2.2.2.2.2.2.2.2.2.2.2.2.2.2.2.2.2.2.2.2.2.2.2.2.2.2.2.2.1) 18 u.2.2.2.2.2.2.2.2.2.2.2.2.2.2.2.2.2.2.2.2.2.2.2.2.2.2.2.2.2.2.2.2.2) := by
  obtain ⟨⟨m1, m1b⟩, ⟨m2, m2b⟩, m3, ⟨m4, m4b⟩, m5, m6, ⟨m7, m7b⟩, m8, m9, m10, m11, m12, m13, ⟨m14, m14b⟩, m15⟩ := h
  obtain ⟨⟨p1, p2, p3, p4, p5, p6, p7⟩, -⟩ := hp
  exact ⟨⟨p1, p2⟩, ⟨p3, p4⟩, p5, ⟨m4, m4b⟩, m5, m6, ⟨m7, m7b⟩, m8, m9, m10, m11, m12, m13, ⟨m14, m14b⟩, m15⟩
theorem MI.type {σ : RS} (h : MI σ) (k0 : Int32) (r : Int32) (u : Int32 × (Nat → Int32) × Int32) (hp : ((¬ k0.toInt = -1 ∧ ¬ (0 ≤ k0.toInt ∧ k0.toInt < (σ.1 35).toInt)) ∧ u.1.toInt = 1 ∧ u.2.1 = (σ.2.1 36) ∧ u.2.2 = (σ.1 35)) ∨ (¬ (¬ k0.toInt = -1 ∧ ¬ (0 ≤ k0.toInt ∧ k0.toInt < (σ.1 35).toInt)) ∧ (σ.1 35).toInt = 5 ∧ u.1.toInt = 2 ∧ u.2.1 = (σ.2.1 36) ∧ u.2.2 = (σ.1 35)) ∨ (¬ (¬ k0.toInt = -1 ∧ ¬ (0 ≤ k0.toInt ∧ k0.toInt < (σ.1 35).toInt)) ∧ (σ.1 35).toInt < 5 ∧ u.1.toInt = 0 ∧ r.toInt = (σ.1 35).toInt ∧ u.2.1 = upd (σ.2.1 36) (σ.1 35).toInt.toNat k0 ∧ u.2.2.toInt = (σ.1 35).toInt + 1)) : MI (rS (rA (rS σ 0 u.1) 36 u.2.1) 35 u.2.2) := by
  obtain ⟨⟨m1, m1b⟩, ⟨m2, m2b⟩, m3, ⟨m4, m4b⟩, m5, m6, ⟨m7, m7b⟩, m8, m9, m10, m11, m12, m13, ⟨m14, m14b⟩, m15⟩ := h
  obtain ⟨a, f, n⟩ := u
  dsimp only at hp ⊢
  rcases hp with ⟨-, -, rfl, rfl⟩ | ⟨-, -, -, rfl, rfl⟩ | ⟨h1, h2, -, -, rfl, h3⟩
  · exact ⟨⟨m1, m1b⟩, ⟨m2, m2b⟩, m3, ⟨m4, m4b⟩, m5, m6, ⟨m7, m7b⟩, m8, m9, m10, m11, m12, m13, ⟨m14, m14b⟩, m15⟩
  · exact ⟨⟨m1, m1b⟩, ⟨m2, m2b⟩, m3, ⟨m4, m4b⟩, m5, m6, ⟨m7, m7b⟩, m8, m9, m10, m11, m12, m13, ⟨m14, m14b⟩, m15⟩
  · have e : (σ.1 35).toInt.toNat = (σ.1 35).toNatClampNeg := rfl
    refine ⟨⟨m1, m1b⟩, ⟨m2, m2b⟩, m3, ⟨by show 0 ≤ n.toInt; omega, by show n.toInt ≤ 5; omega⟩, ?_, ?_, ⟨m7, m7b⟩, m8, m9, m10, m11, ?_, m13, ⟨m14, m14b⟩, ?_⟩
    · show CLS n.toInt (upd (σ.2.1 36) (σ.1 35).toInt.toNat k0) (σ.2.1 37) (σ.2.1 40)
      intro c hc
      by_cases q : c = (σ.1 35).toInt.toNat
      · subst q
        have q := m15 (σ.1 35).toInt.toNat (by omega)
        rw [upd_eq]; omega
      · rw [upd_ne q]; exact m5 c (by omega)
    · show OBS (σ.1 47).toInt n.toInt (σ.2.1 48)
      intro c hc
      have := m6 c hc
      omega
    · show VALS (σ.2.1 51) (σ.2.2.1 52) n.toInt (σ.1 47).toInt
      exact m12.mono (by omega) (Int.le_refl _)
    · intro c hc
      have hc : n.toInt ≤ (c : Int) := hc
      exact m15 c (by omega)
theorem MI.field {σ : RS} (h : MI σ) (k0 : Int32) (k1 : Int32) (k2 : Int32) (r : Int32) (u : Int32 × (Nat → Int32) × (Nat → Int32) × (Nat → Int32)) (hp : (¬ ((0 ≤ k0.toInt ∧ k0.toInt < (σ.1 35).toInt) ∧ (1 ≤ k1.toInt ∧ k1.toInt ≤ 14348906) ∧ ((1 ≤ k2.toInt ∧ k2.toInt ≤ 5) ∨ (8 ≤ k2.toInt ∧ k2.toInt < 8 + (σ.1 35).toInt))) ∧ u.1.toInt = 1 ∧ u.2.1 = (σ.2.1 37) ∧ u.2.2.1 = (σ.2.1 38) ∧ u.2.2.2 = (σ.2.1 39)) ∨ (((0 ≤ k0.toInt ∧ k0.toInt < (σ.1 35).toInt) ∧ (1 ≤ k1.toInt ∧ k1.toInt ≤ 14348906) ∧ ((1 ≤ k2.toInt ∧ k2.toInt ≤ 5) ∨ (8 ≤ k2.toInt ∧ k2.toInt < 8 + (σ.1 35).toInt))) ∧ (((σ.2.1 37) k0.toNatClampNeg).toInt = 6 ∨ THR (σ.2.1 38) (6 * k0.toInt) (6 * k0.toInt + ((σ.2.1 37) k0.toNatClampNeg).toInt) k1 ∨ 0 < (σ.1 47).toInt) ∧ u.1.toInt = 2 ∧ u.2.1 = (σ.2.1 37) ∧ u.2.2.1 = (σ.2.1 38) ∧ u.2.2.2 = (σ.2.1 39)) ∨ (((0 ≤ k0.toInt ∧ k0.toInt < (σ.1 35).toInt) ∧ (1 ≤ k1.toInt ∧ k1.toInt ≤ 14348906) ∧ ((1 ≤ k2.toInt ∧ k2.toInt ≤ 5) ∨ (8 ≤ k2.toInt ∧ k2.toInt < 8 + (σ.1 35).toInt))) ∧ ¬ (((σ.2.1 37) k0.toNatClampNeg).toInt = 6 ∨ THR (σ.2.1 38) (6 * k0.toInt) (6 * k0.toInt + ((σ.2.1 37) k0.toNatClampNeg).toInt) k1 ∨ 0 < (σ.1 47).toInt) ∧ u.1.toInt = 0 ∧ r.toInt = ((σ.2.1 37) k0.toNatClampNeg).toInt + 1 ∧ u.2.2.1 = upd (σ.2.1 38) (6 * k0.toInt + ((σ.2.1 37) k0.toNatClampNeg).toInt).toNat k1 ∧ u.2.2.2 = upd (σ.2.1 39) (6 * k0.toInt + ((σ.2.1 37) k0.toNatClampNeg).toInt).toNat k2 ∧ (∃ v : Int32, v.toInt = ((σ.2.1 37) k0.toNatClampNeg).toInt + 1 ∧ u.2.1 = upd (σ.2.1 37) k0.toInt.toNat v))) : MI (rA (rA (rA (rS σ 0 u.1) 37 u.2.1) 38 u.2.2.1) 39 u.2.2.2) := by
  obtain ⟨⟨m1, m1b⟩, ⟨m2, m2b⟩, m3, ⟨m4, m4b⟩, m5, m6, ⟨m7, m7b⟩, m8, m9, m10, m11, m12, m13, ⟨m14, m14b⟩, m15⟩ := h
  obtain ⟨a, f, g, i⟩ := u
  dsimp only at hp ⊢
  rcases hp with ⟨-, -, rfl, rfl, rfl⟩ | ⟨-, -, -, rfl, rfl, rfl⟩ | ⟨h1, h2, -, -, rfl, rfl, v, hv, rfl⟩
  · exact ⟨⟨m1, m1b⟩, ⟨m2, m2b⟩, m3, ⟨m4, m4b⟩, m5, m6, ⟨m7, m7b⟩, m8, m9, m10, m11, m12, m13, ⟨m14, m14b⟩, m15⟩
  · exact ⟨⟨m1, m1b⟩, ⟨m2, m2b⟩, m3, ⟨m4, m4b⟩, m5, m6, ⟨m7, m7b⟩, m8, m9, m10, m11, m12, m13, ⟨m14, m14b⟩, m15⟩
  · have e : k0.toInt.toNat = k0.toNatClampNeg := rfl
    have hc := m5 k0.toNatClampNeg (by omega)
    have hn : ¬ ((σ.2.1 37) k0.toNatClampNeg).toInt = 6 := fun z => h2 (Or.inl z)
    refine ⟨⟨m1, m1b⟩, ⟨m2, m2b⟩, m3, ⟨m4, m4b⟩, ?_, m6, ⟨m7, m7b⟩, m8, ?_, m10, m11, m12, m13, ⟨m14, m14b⟩, ?_⟩
    · exact m5.upd_fi (by omega)
    · exact m9.upd (by omega)
    · intro c hc
      have hc : (σ.1 35).toInt ≤ (c : Int) := hc
      have q := m15 c hc
      have ne : ¬ c = k0.toInt.toNat := by omega
      exact ⟨by show (upd (σ.2.1 37) k0.toInt.toNat v c).toInt = 0; rw [upd_ne ne]; exact q.1, q.2⟩
theorem MI.method {σ : RS} (h : MI σ) (k0 : Int32) (k1 : Int32) (k2 : Int32) (k3 : Int32) (k4 : Int32) (k5 : Int32) (r : Int32) (u : Int32 × (Nat → Int32) × (Nat → Int32) × (Nat → Int32) × (Nat → Int32) × (Nat → Int32) × (Nat → Int32)) (hp : (¬ ((0 ≤ k0.toInt ∧ k0.toInt < (σ.1 35).toInt) ∧ (1 ≤ k1.toInt ∧ k1.toInt ≤ 14348906) ∧ 0 ≤ k4.toInt ∧ k4.toInt ≤ 5 ∧ ((k2.toInt = 0 ∧ k3.toInt = 0) ∨ (¬ k2.toInt = 0 ∧ ((1 ≤ k2.toInt ∧ k2.toInt ≤ 5) ∨ (8 ≤ k2.toInt ∧ k2.toInt < 8 + (σ.1 35).toInt)) ∧ (k3.toInt = 0 ∨ ((1 ≤ k3.toInt ∧ k3.toInt ≤ 5) ∨ (8 ≤ k3.toInt ∧ k3.toInt < 8 + (σ.1 35).toInt)))))) ∧ u.1.toInt = 1 ∧ u.2.1 = (σ.2.1 40) ∧ u.2.2.1 = (σ.2.1 41) ∧ u.2.2.2.1 = (σ.2.1 42) ∧ u.2.2.2.2.1 = (σ.2.1 43) ∧ u.2.2.2.2.2.1 = (σ.2.1 44) ∧ u.2.2.2.2.2.2 = (σ.2.1 45)) ∨ (((0 ≤ k0.toInt ∧ k0.toInt < (σ.1 35).toInt) ∧ (1 ≤ k1.toInt ∧ k1.toInt ≤ 14348906) ∧ 0 ≤ k4.toInt ∧ k4.toInt ≤ 5 ∧ ((k2.toInt = 0 ∧ k3.toInt = 0) ∨ (¬ k2.toInt = 0 ∧ ((1 ≤ k2.toInt ∧ k2.toInt ≤ 5) ∨ (8 ≤ k2.toInt ∧ k2.toInt < 8 + (σ.1 35).toInt)) ∧ (k3.toInt = 0 ∨ ((1 ≤ k3.toInt ∧ k3.toInt ≤ 5) ∨ (8 ≤ k3.toInt ∧ k3.toInt < 8 + (σ.1 35).toInt)))))) ∧ ((σ.2.1 40) k0.toInt.toNat).toInt = 6 ∧ u.1.toInt = 2 ∧ u.2.1 = (σ.2.1 40) ∧ u.2.2.1 = (σ.2.1 41) ∧ u.2.2.2.1 = (σ.2.1 42) ∧ u.2.2.2.2.1 = (σ.2.1 43) ∧ u.2.2.2.2.2.1 = (σ.2.1 44) ∧ u.2.2.2.2.2.2 = (σ.2.1 45)) ∨ (((0 ≤ k0.toInt ∧ k0.toInt < (σ.1 35).toInt) ∧ (1 ≤ k1.toInt ∧ k1.toInt ≤ 14348906) ∧ 0 ≤ k4.toInt ∧ k4.toInt ≤ 5 ∧ ((k2.toInt = 0 ∧ k3.toInt = 0) ∨ (¬ k2.toInt = 0 ∧ ((1 ≤ k2.toInt ∧ k2.toInt ≤ 5) ∨ (8 ≤ k2.toInt ∧ k2.toInt < 8 + (σ.1 35).toInt)) ∧ (k3.toInt = 0 ∨ ((1 ≤ k3.toInt ∧ k3.toInt ≤ 5) ∨ (8 ≤ k3.toInt ∧ k3.toInt < 8 + (σ.1 35).toInt)))))) ∧ ¬ ((σ.2.1 40) k0.toInt.toNat).toInt = 6 ∧ u.1.toInt = 0 ∧ r.toInt = ((σ.2.1 40) k0.toInt.toNat).toInt + 1 ∧ u.2.2.1 = upd (σ.2.1 41) (6 * k0.toInt + ((σ.2.1 40) k0.toInt.toNat).toInt).toNat k1 ∧ u.2.2.2.1 = upd (σ.2.1 42) (6 * k0.toInt + ((σ.2.1 40) k0.toInt.toNat).toInt).toNat k2 ∧ u.2.2.2.2.1 = upd (σ.2.1 43) (6 * k0.toInt + ((σ.2.1 40) k0.toInt.toNat).toInt).toNat k3 ∧ u.2.2.2.2.2.1 = upd (σ.2.1 44) (6 * k0.toInt + ((σ.2.1 40) k0.toInt.toNat).toInt).toNat k4 ∧ u.2.2.2.2.2.2 = upd (σ.2.1 45) (6 * k0.toInt + ((σ.2.1 40) k0.toInt.toNat).toInt).toNat k5 ∧ (∃ v : Int32, v.toInt = ((σ.2.1 40) k0.toInt.toNat).toInt + 1 ∧ u.2.1 = upd (σ.2.1 40) k0.toInt.toNat v))) : MI (rA (rA (rA (rA (rA (rA (rS σ 0 u.1) 40 u.2.1) 41 u.2.2.1) 42 u.2.2.2.1) 43 u.2.2.2.2.1) 44 u.2.2.2.2.2.1) 45 u.2.2.2.2.2.2) := by
  obtain ⟨⟨m1, m1b⟩, ⟨m2, m2b⟩, m3, ⟨m4, m4b⟩, m5, m6, ⟨m7, m7b⟩, m8, m9, m10, m11, m12, m13, ⟨m14, m14b⟩, m15⟩ := h
  obtain ⟨a, f, g, i, j, k, n⟩ := u
  dsimp only at hp ⊢
  rcases hp with ⟨-, -, rfl, rfl, rfl, rfl, rfl, rfl⟩ | ⟨-, -, -, rfl, rfl, rfl, rfl, rfl, rfl⟩ | ⟨h1, h2, -, -, rfl, rfl, rfl, rfl, rfl, v, hv, rfl⟩
  · exact ⟨⟨m1, m1b⟩, ⟨m2, m2b⟩, m3, ⟨m4, m4b⟩, m5, m6, ⟨m7, m7b⟩, m8, m9, m10, m11, m12, m13, ⟨m14, m14b⟩, m15⟩
  · exact ⟨⟨m1, m1b⟩, ⟨m2, m2b⟩, m3, ⟨m4, m4b⟩, m5, m6, ⟨m7, m7b⟩, m8, m9, m10, m11, m12, m13, ⟨m14, m14b⟩, m15⟩
  · have hc := m5 k0.toInt.toNat (by omega)
    refine ⟨⟨m1, m1b⟩, ⟨m2, m2b⟩, m3, ⟨m4, m4b⟩, ?_, m6, ⟨m7, m7b⟩, m8, m9, ?_, ?_, m12, m13, ⟨m14, m14b⟩, ?_⟩
    · exact m5.upd_me (by omega)
    · exact m10.upd (by omega)
    · exact m11.upd (by omega)
    · intro c hc
      have hc : (σ.1 35).toInt ≤ (c : Int) := hc
      have q := m15 c hc
      have ne : ¬ c = k0.toInt.toNat := by omega
      exact ⟨q.1, by show (upd (σ.2.1 40) k0.toInt.toNat v c).toInt = 0; rw [upd_ne ne]; exact q.2⟩
theorem MI.make {σ : RS} (h : MI σ) (k0 : Int32) (r : Int32) (u : Int32 × (Nat → Int32) × Int32) (hp : (¬ (0 ≤ k0.toInt ∧ k0.toInt < (σ.1 35).toInt) ∧ u.1.toInt = 1 ∧ u.2.1 = (σ.2.1 48) ∧ u.2.2 = (σ.1 47)) ∨ (0 ≤ k0.toInt ∧ k0.toInt < (σ.1 35).toInt ∧ (σ.1 47).toInt = 30 ∧ u.1.toInt = 2 ∧ u.2.1 = (σ.2.1 48) ∧ u.2.2 = (σ.1 47)) ∨ (0 ≤ k0.toInt ∧ k0.toInt < (σ.1 35).toInt ∧ (σ.1 47).toInt < 30 ∧ u.1.toInt = 0 ∧ r.toInt = (σ.1 47).toInt ∧ u.2.1 = upd (σ.2.1 48) (σ.1 47).toInt.toNat k0 ∧ u.2.2.toInt = (σ.1 47).toInt + 1)) : MI (rS (rA (rS σ 0 u.1) 48 u.2.1) 47 u.2.2) := by
  obtain ⟨⟨m1, m1b⟩, ⟨m2, m2b⟩, m3, ⟨m4, m4b⟩, m5, m6, ⟨m7, m7b⟩, m8, m9, m10, m11, m12, m13, ⟨m14, m14b⟩, m15⟩ := h
  obtain ⟨a, f, n⟩ := u
  dsimp only at hp ⊢
  rcases hp with ⟨-, -, rfl, rfl⟩ | ⟨-, -, -, -, rfl, rfl⟩ | ⟨h0, h1, h2, -, -, rfl, h3⟩
  · exact ⟨⟨m1, m1b⟩, ⟨m2, m2b⟩, m3, ⟨m4, m4b⟩, m5, m6, ⟨m7, m7b⟩, m8, m9, m10, m11, m12, m13, ⟨m14, m14b⟩, m15⟩
  · exact ⟨⟨m1, m1b⟩, ⟨m2, m2b⟩, m3, ⟨m4, m4b⟩, m5, m6, ⟨m7, m7b⟩, m8, m9, m10, m11, m12, m13, ⟨m14, m14b⟩, m15⟩
  · refine ⟨⟨m1, m1b⟩, ⟨m2, m2b⟩, m3, ⟨m4, m4b⟩, m5, ?_, ⟨by show 0 ≤ n.toInt; omega, by show n.toInt ≤ 30; omega⟩, m8, m9, m10, m11, ?_, m13, ⟨m14, m14b⟩, m15⟩
    · show OBS n.toInt (σ.1 35).toInt (upd (σ.2.1 48) (σ.1 47).toInt.toNat k0)
      intro c hc
      by_cases q : c = (σ.1 47).toInt.toNat
      · subst q
        rw [upd_eq]; exact ⟨h0, h1⟩
      · rw [upd_ne q]; exact m6 c (by omega)
    · show VALS (σ.2.1 51) (σ.2.2.1 52) (σ.1 35).toInt n.toInt
      exact m12.mono (Int.le_refl _) (by omega)
theorem MI.converter {σ : RS} (h : MI σ) (k0 : Int32) (k1 : Int32) (k2 : Int32) (r : Int32) (u : Int32 × (Nat → Int32)) (hk2 : k2.toInt = 0 ∨ k2.toInt = 1) (hp : (¬ (((1 ≤ k0.toInt ∧ k0.toInt ≤ 5) ∨ (8 ≤ k0.toInt ∧ k0.toInt ≤ 12)) ∧ 1 ≤ k1.toInt ∧ k1.toInt ≤ 4 ∧ ¬ k0.toInt = k1.toInt) ∧ u.1.toInt = 1 ∧ r.toInt = 0 ∧ u.2 = (σ.2.1 46)) ∨ ((((1 ≤ k0.toInt ∧ k0.toInt ≤ 5) ∨ (8 ≤ k0.toInt ∧ k0.toInt ≤ 12)) ∧ 1 ≤ k1.toInt ∧ k1.toInt ≤ 4 ∧ ¬ k0.toInt = k1.toInt) ∧ u.1.toInt = 0 ∧ r.toInt = ((σ.2.1 46) (5 * k0.toInt + k1.toInt).toNat).toInt ∧ u.2 = upd (σ.2.1 46) (5 * k0.toInt + k1.toInt).toNat k2)) : MI (rA (rS σ 0 u.1) 46 u.2) := by
  obtain ⟨⟨m1, m1b⟩, ⟨m2, m2b⟩, m3, ⟨m4, m4b⟩, m5, m6, ⟨m7, m7b⟩, m8, m9, m10, m11, m12, m13, ⟨m14, m14b⟩, m15⟩ := h
  obtain ⟨a, f⟩ := u
  dsimp only at hp ⊢
  rcases hp with ⟨-, -, -, rfl⟩ | ⟨-, -, -, rfl⟩
  · exact ⟨⟨m1, m1b⟩, ⟨m2, m2b⟩, m3, ⟨m4, m4b⟩, m5, m6, ⟨m7, m7b⟩, m8, m9, m10, m11, m12, m13, ⟨m14, m14b⟩, m15⟩
  · exact ⟨⟨m1, m1b⟩, ⟨m2, m2b⟩, m3, ⟨m4, m4b⟩, m5, m6, ⟨m7, m7b⟩, m8.upd hk2, m9, m10, m11, m12, m13, ⟨m14, m14b⟩, m15⟩
theorem MI.run {σ : RS} (h : MI σ) (k0 : Int32) (k1 : Int32) (r : Int32) (u : (Nat → Int32) × (Nat → Int64) × (Nat → Int64) × (Nat → UInt64) × Int32 × Int32 × Int32 × Int32 × Int32 × (Nat → Int32) × (Nat → Int32) × Int32) (hp : 0 ≤ u.2.2.2.2.1.toInt ∧ u.2.2.2.2.1.toInt ≤ 2 ∧ 0 ≤ u.2.2.2.2.2.2.2.2.1.toInt ∧ u.2.2.2.2.2.2.2.2.1.toInt ≤ 12 ∧ VALS u.1 u.2.1 (σ.1 35).toInt (σ.1 47).toInt ∧ FINS u.1 u.2.2.2.1 0) : MI (rS (rA (rA (rS (rS (rS (rS (rS (rR (rJ (rJ (rA σ 51 u.1) 52 u.2.1) 53 u.2.2.1) u.2.2.2.1) 0 u.2.2.2.2.1) 56 u.2.2.2.2.2.1) 55 u.2.2.2.2.2.2.1) 57 u.2.2.2.2.2.2.2.1) 49 u.2.2.2.2.2.2.2.2.1) 50 u.2.2.2.2.2.2.2.2.2.1) 58 u.2.2.2.2.2.2.2.2.2.2.1) 59 u.2.2.2.2.2.2.2.2.2.2.2) := by
  obtain ⟨⟨m1, m1b⟩, ⟨m2, m2b⟩, m3, ⟨m4, m4b⟩, m5, m6, ⟨m7, m7b⟩, m8, m9, m10, m11, m12, m13, ⟨m14, m14b⟩, m15⟩ := h
  obtain ⟨-, -, p1, p2, p3, p4⟩ := hp
  exact ⟨⟨m1, m1b⟩, ⟨m2, m2b⟩, m3, ⟨m4, m4b⟩, m5, m6, ⟨m7, m7b⟩, m8, m9, m10, m11, p3, p4, ⟨p1, p2⟩, m15⟩
theorem MI.keep {σ : RS} (h : MI σ) (k0 : Int32) (r : Int32) (u : (Nat → Int32) × (Nat → Int64) × (Nat → Int64) × (Nat → UInt64) × Int32 × Int32 × (Nat → Int32)) (hp : 0 ≤ u.2.2.2.2.1.toInt ∧ u.2.2.2.2.1.toInt ≤ 2 ∧ 0 ≤ u.2.2.2.2.2.1.toInt ∧ u.2.2.2.2.2.1.toInt ≤ 12 ∧ OPQ (σ.2.1 51) u.1 (σ.2.2.1 52) u.2.1 u.2.2.2.1 (σ.1 35).toInt (σ.1 47).toInt (0) (0) (60)) : MI (rA (rS (rS (rR (rJ (rJ (rA σ 51 u.1) 52 u.2.1) 53 u.2.2.1) u.2.2.2.1) 0 u.2.2.2.2.1) 49 u.2.2.2.2.2.1) 50 u.2.2.2.2.2.2) := by
  obtain ⟨⟨m1, m1b⟩, ⟨m2, m2b⟩, m3, ⟨m4, m4b⟩, m5, m6, ⟨m7, m7b⟩, m8, m9, m10, m11, m12, m13, ⟨m14, m14b⟩, m15⟩ := h
  obtain ⟨-, -, p1, p2, p3⟩ := hp
  exact ⟨⟨m1, m1b⟩, ⟨m2, m2b⟩, m3, ⟨m4, m4b⟩, m5, m6, ⟨m7, m7b⟩, m8, m9, m10, m11, p3.1, p3.2.1, ⟨p1, p2⟩, m15⟩
theorem MI.put {σ : RS} (h : MI σ) (k0 : Int32) (k1 : Int32) (r : Int32) (u : (Nat → Int32) × (Nat → Int64) × (Nat → Int64) × (Nat → UInt64) × Int32 × Int32 × (Nat → Int32) × Int32) (hp : 0 ≤ u.2.2.2.2.1.toInt ∧ u.2.2.2.2.1.toInt ≤ 2 ∧ OPQ (σ.2.1 51) u.1 (σ.2.2.1 52) u.2.1 u.2.2.2.1 (σ.1 35).toInt (σ.1 47).toInt (0) (0) (60)) : MI (rS (rA (rS (rS (rR (rJ (rJ (rA σ 51 u.1) 52 u.2.1) 53 u.2.2.1) u.2.2.2.1) 0 u.2.2.2.2.1) 56 u.2.2.2.2.2.1) 58 u.2.2.2.2.2.2.1) 59 u.2.2.2.2.2.2.2) := by
  obtain ⟨⟨m1, m1b⟩, ⟨m2, m2b⟩, m3, ⟨m4, m4b⟩, m5, m6, ⟨m7, m7b⟩, m8, m9, m10, m11, m12, m13, ⟨m14, m14b⟩, m15⟩ := h
  obtain ⟨-, -, p3⟩ := hp
  exact ⟨⟨m1, m1b⟩, ⟨m2, m2b⟩, m3, ⟨m4, m4b⟩, m5, m6, ⟨m7, m7b⟩, m8, m9, m10, m11, p3.1, p3.2.1, ⟨m14, m14b⟩, m15⟩
theorem MI.result {σ : RS} (h : MI σ) (k0 : Int32) (r : Int32) (u : Int32) (hp : u.toInt = 0) : MI (rS σ 0 u) := by
  obtain ⟨⟨m1, m1b⟩, ⟨m2, m2b⟩, m3, ⟨m4, m4b⟩, m5, m6, ⟨m7, m7b⟩, m8, m9, m10, m11, m12, m13, ⟨m14, m14b⟩, m15⟩ := h
  exact ⟨⟨m1, m1b⟩, ⟨m2, m2b⟩, m3, ⟨m4, m4b⟩, m5, m6, ⟨m7, m7b⟩, m8, m9, m10, m11, m12, m13, ⟨m14, m14b⟩, m15⟩
theorem MI.text {σ : RS} (h : MI σ) (k0 : Int32) (r : Int32) (u : Int32) (hp : u.toInt = 0) : MI (rS σ 0 u) := by
  obtain ⟨⟨m1, m1b⟩, ⟨m2, m2b⟩, m3, ⟨m4, m4b⟩, m5, m6, ⟨m7, m7b⟩, m8, m9, m10, m11, m12, m13, ⟨m14, m14b⟩, m15⟩ := h
  exact ⟨⟨m1, m1b⟩, ⟨m2, m2b⟩, m3, ⟨m4, m4b⟩, m5, m6, ⟨m7, m7b⟩, m8, m9, m10, m11, m12, m13, ⟨m14, m14b⟩, m15⟩
theorem MI.about {σ : RS} (h : MI σ) (k0 : Int32) (r : Int32) (u : Int32) (hp : u.toInt = 0) : MI (rS σ 0 u) := by
  obtain ⟨⟨m1, m1b⟩, ⟨m2, m2b⟩, m3, ⟨m4, m4b⟩, m5, m6, ⟨m7, m7b⟩, m8, m9, m10, m11, m12, m13, ⟨m14, m14b⟩, m15⟩ := h
  exact ⟨⟨m1, m1b⟩, ⟨m2, m2b⟩, m3, ⟨m4, m4b⟩, m5, m6, ⟨m7, m7b⟩, m8, m9, m10, m11, m12, m13, ⟨m14, m14b⟩, m15⟩
