/-- the reference's world: addresses by field, ints and booleans st, their rows ar, long rows lo, the row of doubles re -/
def MW (cy : Nat → ClassId) (ad : Nat → Nat) (st : Nat → Int32) (ar : Nat → Nat → Int32) (lo : Nat → Nat → Int64) (re : Nat → UInt64) : va_W := [(ad 0, .inr (14, [.int (st 0), .int (st 1), .ref (ad 2), .int (st 3), .ref (ad 4), .ref (ad 5), .ref (ad 6), .ref (ad 7), .int (st 8), .int (st 9), .int (st 10), .ref (ad 11), .ref (ad 12), .ref (ad 13), .int (st 14), .int (st 15), .int (st 16), .int (st 17), .int (st 18), .int (st 19), .ref (ad 20), .ref (ad 21), .ref (ad 22), .ref (ad 23), .ref (ad 24), .ref (ad 25), .ref (ad 26), .ref (ad 27), .ref (ad 28), .int (st 29), .ref (ad 30), .ref (ad 31), .ref (ad 32), .int (st 33), .int (st 34), .int (st 35), .ref (ad 36), .ref (ad 37), .ref (ad 38), .ref (ad 39), .ref (ad 40), .ref (ad 41), .ref (ad 42), .ref (ad 43), .ref (ad 44), .ref (ad 45), .ref (ad 46), .int (st 47), .ref (ad 48), .int (st 49), .ref (ad 50), .ref (ad 51), .ref (ad 52), .ref (ad 53), .ref (ad 54), .int (st 55), .int (st 56), .int (st 57), .ref (ad 58), .int (st 59)])), (ad 2, .inl (cy 0, 40, .inl (ar 2))), (ad 4, .inl (cy 0, 42, .inl (ar 4))), (ad 5, .inl (cy 0, 42, .inl (ar 5))), (ad 6, .inl (cy 1, 42, .inr (.inl (lo 6)))), (ad 7, .inl (cy 0, 42, .inl (ar 7))), (ad 11, .inl (cy 0, 3600, .inl (ar 11))), (ad 12, .inl (cy 1, 3600, .inr (.inl (lo 12)))), (ad 13, .inl (cy 0, 40, .inl (ar 13))), (ad 20, .inl (cy 0, 8, .inl (ar 20))), (ad 21, .inl (cy 0, 8, .inl (ar 21))), (ad 22, .inl (cy 0, 8, .inl (ar 22))), (ad 23, .inl (cy 0, 8, .inl (ar 23))), (ad 24, .inl (cy 0, 8, .inl (ar 24))), (ad 25, .inl (cy 0, 8, .inl (ar 25))), (ad 26, .inl (cy 2, 8, .inl (ar 26))), (ad 27, .inl (cy 2, 8, .inl (ar 27))), (ad 28, .inl (cy 2, 8, .inl (ar 28))), (ad 30, .inl (cy 0, 48, .inl (ar 30))), (ad 31, .inl (cy 0, 48, .inl (ar 31))), (ad 32, .inl (cy 0, 48, .inl (ar 32))), (ad 36, .inl (cy 0, 5, .inl (ar 36))), (ad 37, .inl (cy 0, 5, .inl (ar 37))), (ad 38, .inl (cy 0, 30, .inl (ar 38))), (ad 39, .inl (cy 0, 30, .inl (ar 39))), (ad 40, .inl (cy 0, 5, .inl (ar 40))), (ad 41, .inl (cy 0, 30, .inl (ar 41))), (ad 42, .inl (cy 0, 30, .inl (ar 42))), (ad 43, .inl (cy 0, 30, .inl (ar 43))), (ad 44, .inl (cy 0, 30, .inl (ar 44))), (ad 45, .inl (cy 0, 30, .inl (ar 45))), (ad 46, .inl (cy 2, 65, .inl (ar 46))), (ad 48, .inl (cy 0, 30, .inl (ar 48))), (ad 50, .inl (cy 0, 12, .inl (ar 50))), (ad 51, .inl (cy 0, 980, .inl (ar 51))), (ad 52, .inl (cy 1, 980, .inr (.inl (lo 52)))), (ad 53, .inl (cy 1, 980, .inr (.inl (lo 53)))), (ad 54, .inl (cy 3, 980, .inr (.inr (.inr (.inl re))))), (ad 58, .inl (cy 0, 48, .inl (ar 58)))]
def updA (ar : Nat → Nat → Int32) (k : Nat) (F : Nat → Int32) : Nat → Nat → Int32 := fun j => if j = k then F else ar j
def updJ (lo : Nat → Nat → Int64) (k : Nat) (F : Nat → Int64) : Nat → Nat → Int64 := fun j => if j = k then F else lo j
theorem freeAll {A0 : Nat → Prop} {ws : va_W} {H0 H : Heap} {locs : List Loc} (hD : va_D A0 ws) (hS : va_S A0 H0 H locs) (hA : ∀ q, H0.size ≤ q → A0 q) : ∀ q, va_A ws H.size q → A0 q := by
  intro q h
  rcases h with ⟨k, e, h⟩ | h
  · exact hD.2 k (q, e) h
  · exact hA q (Nat.le_trans hS.1 h)
theorem v_thrown_1 (st : Nat → Int32) (ar : Nat → Nat → Int32) (lo : Nat → Nat → Int64) (re : Nat → UInt64) (hpre : True) : (st 0) = (st 0) := by
  first | trivial | omega | (simp; done) | (simp; omega) | (simp_all; done) | (simp_all; omega)
theorem v_at_1 (st : Nat → Int32) (ar : Nat → Nat → Int32) (lo : Nat → Nat → Int64) (re : Nat → UInt64) (k0 : Int32) (hpre : 0 ≤ (st 1).toInt ∧ (st 1).toInt ≤ 40 ∧ 0 ≤ k0.toInt) (c1 : (st 1).toInt ≤ k0.toInt) : True := by
  first | trivial | omega | (simp; done) | (simp; omega) | (simp_all; done) | (simp_all; omega)
theorem v_at_2 (st : Nat → Int32) (ar : Nat → Nat → Int32) (lo : Nat → Nat → Int64) (re : Nat → UInt64) (k0 : Int32) (hpre : 0 ≤ (st 1).toInt ∧ (st 1).toInt ≤ 40 ∧ 0 ≤ k0.toInt) (c1 : k0.toInt < (st 1).toInt) : vp_in k0 40 := by
  exact vp_in_iff.mpr ⟨by  omega, by  omega⟩
theorem v_at_3 (st : Nat → Int32) (ar : Nat → Nat → Int32) (lo : Nat → Nat → Int64) (re : Nat → UInt64) (k0 : Int32) (x2 : Int32) (hpre : 0 ≤ (st 1).toInt ∧ (st 1).toInt ≤ 40 ∧ 0 ≤ k0.toInt) (c1 : k0.toInt < (st 1).toInt) (ex2 : x2 = (ar 2) k0.toNatClampNeg) : True := by
  first | trivial | omega | (simp; done) | (simp; omega) | (simp_all; done) | (simp_all; omega)
theorem v_digit_1 (st : Nat → Int32) (ar : Nat → Nat → Int32) (lo : Nat → Nat → Int64) (re : Nat → UInt64) (k0 : Int32) (hpre : 0 ≤ (st 1).toInt ∧ (st 1).toInt ≤ 40 ∧ 0 ≤ k0.toInt) : 0 ≤ (st 1).toInt ∧ (st 1).toInt ≤ 40 ∧ 0 ≤ k0.toInt := by
  first | trivial | omega | (simp; done) | (simp; omega) | (simp_all; done) | (simp_all; omega)
theorem v_digit_2 (st : Nat → Int32) (ar : Nat → Nat → Int32) (lo : Nat → Nat → Int64) (re : Nat → UInt64) (k0 : Int32) (r1 : Int32) (hpre : 0 ≤ (st 1).toInt ∧ (st 1).toInt ≤ 40 ∧ 0 ≤ k0.toInt) (hr1 : True) (c2 : r1.toInt < (48)) : ((0 : Int32) = 0 ∨ (0 : Int32) = 1) := by
  have q0 : (0 : Int32).toInt = 0 := by decide +kernel
  first | trivial | omega | (simp; done) | (simp; omega) | (simp_all; done) | (simp_all; omega)
theorem v_digit_3 (st : Nat → Int32) (ar : Nat → Nat → Int32) (lo : Nat → Nat → Int64) (re : Nat → UInt64) (k0 : Int32) (r1 : Int32) (hpre : 0 ≤ (st 1).toInt ∧ (st 1).toInt ≤ 40 ∧ 0 ≤ k0.toInt) (hr1 : True) (c2 : (48) ≤ r1.toInt) : 0 ≤ (st 1).toInt ∧ (st 1).toInt ≤ 40 ∧ 0 ≤ k0.toInt := by
  first | trivial | omega | (simp; done) | (simp; omega) | (simp_all; done) | (simp_all; omega)
theorem v_digit_4 (st : Nat → Int32) (ar : Nat → Nat → Int32) (lo : Nat → Nat → Int64) (re : Nat → UInt64) (k0 : Int32) (r1 : Int32) (r3 : Int32) (hpre : 0 ≤ (st 1).toInt ∧ (st 1).toInt ≤ 40 ∧ 0 ≤ k0.toInt) (hr1 : True) (c2 : (48) ≤ r1.toInt) (hr3 : True) (c4 : (57) < r3.toInt) : ((0 : Int32) = 0 ∨ (0 : Int32) = 1) := by
  have q0 : (0 : Int32).toInt = 0 := by decide +kernel
  first | trivial | omega | (simp; done) | (simp; omega) | (simp_all; done) | (simp_all; omega)
theorem v_digit_5 (st : Nat → Int32) (ar : Nat → Nat → Int32) (lo : Nat → Nat → Int64) (re : Nat → UInt64) (k0 : Int32) (r1 : Int32) (r3 : Int32) (hpre : 0 ≤ (st 1).toInt ∧ (st 1).toInt ≤ 40 ∧ 0 ≤ k0.toInt) (hr1 : True) (c2 : (48) ≤ r1.toInt) (hr3 : True) (c4 : r3.toInt ≤ (57)) : ((1 : Int32) = 0 ∨ (1 : Int32) = 1) := by
  have q1 : (1 : Int32).toInt = 1 := by decide +kernel
  first | trivial | omega | (simp; done) | (simp; omega) | (simp_all; done) | (simp_all; omega)
theorem v_wrong_1 (st : Nat → Int32) (ar : Nat → Nat → Int32) (lo : Nat → Nat → Int64) (re : Nat → UInt64) (k0 : Int32) (k1 : Int32) (hpre : True) (c1 : ¬ (st 8).toInt = (0)) : ((st 8) = (st 8) ∨ (st 8) = k0) := by
  first | trivial | omega | (simp; done) | (simp; omega) | (simp_all; done) | (simp_all; omega)
theorem v_wrong_2 (st : Nat → Int32) (ar : Nat → Nat → Int32) (lo : Nat → Nat → Int64) (re : Nat → UInt64) (k0 : Int32) (k1 : Int32) (hpre : True) (c1 : (st 8).toInt = (0)) : (k0 = (st 8) ∨ k0 = k0) := by
  first | trivial | omega | (simp; done) | (simp; omega) | (simp_all; done) | (simp_all; omega)
theorem v_letter_1 (st : Nat → Int32) (ar : Nat → Nat → Int32) (lo : Nat → Nat → Int64) (re : Nat → UInt64) (k0 : Int32) (hpre : 0 ≤ (st 1).toInt ∧ (st 1).toInt ≤ 40) (c1 : k0.toInt < (32)) : 0 ≤ (st 1).toInt ∧ (st 1).toInt ≤ 40 := by
  first | trivial | omega | (simp; done) | (simp; omega) | (simp_all; done) | (simp_all; omega)
theorem v_letter_2 (st : Nat → Int32) (ar : Nat → Nat → Int32) (lo : Nat → Nat → Int64) (re : Nat → UInt64) (k0 : Int32) (hpre : 0 ≤ (st 1).toInt ∧ (st 1).toInt ≤ 40) (c1 : (32) ≤ k0.toInt) (c3 : k0.toInt ≤ (126)) (c4 : ¬ (st 1).toInt = (40)) : vp_in (st 1) 40 := by
  exact vp_in_iff.mpr ⟨by  omega, by  omega⟩
theorem v_letter_3 (st : Nat → Int32) (ar : Nat → Nat → Int32) (lo : Nat → Nat → Int64) (re : Nat → UInt64) (k0 : Int32) (x6 : Int32) (hpre : 0 ≤ (st 1).toInt ∧ (st 1).toInt ≤ 40) (c1 : (32) ≤ k0.toInt) (c3 : k0.toInt ≤ (126)) (c4 : ¬ (st 1).toInt = (40)) (ex6 : x6 = (st 1) + 1) : x6.toInt = (st 1).toInt + (1) := by
  have z1 : (1 : Int32).toInt = 1 := by decide +kernel
  rw [ex6, z_add (by omega) (by omega)]; first | done | omega
theorem v_letter_4 (st : Nat → Int32) (ar : Nat → Nat → Int32) (lo : Nat → Nat → Int64) (re : Nat → UInt64) (k0 : Int32) (x6 : Int32) (hpre : 0 ≤ (st 1).toInt ∧ (st 1).toInt ≤ 40) (c1 : (32) ≤ k0.toInt) (c3 : k0.toInt ≤ (126)) (c4 : ¬ (st 1).toInt = (40)) (ex6 : x6 = (st 1) + 1) (tx6 : x6.toInt = (st 1).toInt + (1)) : 0 ≤ x6.toInt ∧ x6.toInt ≤ 40 := by
  first | trivial | omega | (simp; done) | (simp; omega) | (simp_all; done) | (simp_all; omega)
theorem v_letter_5 (st : Nat → Int32) (ar : Nat → Nat → Int32) (lo : Nat → Nat → Int64) (re : Nat → UInt64) (k0 : Int32) (hpre : 0 ≤ (st 1).toInt ∧ (st 1).toInt ≤ 40) (c1 : (32) ≤ k0.toInt) (c3 : k0.toInt ≤ (126)) (c4 : (st 1).toInt = (40)) : 0 ≤ (st 1).toInt ∧ (st 1).toInt ≤ 40 := by
  first | trivial | omega | (simp; done) | (simp; omega) | (simp_all; done) | (simp_all; omega)
theorem v_letter_6 (st : Nat → Int32) (ar : Nat → Nat → Int32) (lo : Nat → Nat → Int64) (re : Nat → UInt64) (k0 : Int32) (hpre : 0 ≤ (st 1).toInt ∧ (st 1).toInt ≤ 40) (c1 : (32) ≤ k0.toInt) (c3 : (126) < k0.toInt) : 0 ≤ (st 1).toInt ∧ (st 1).toInt ≤ 40 := by
  first | trivial | omega | (simp; done) | (simp; omega) | (simp_all; done) | (simp_all; omega)
theorem v_isClass_1 (st : Nat → Int32) (ar : Nat → Nat → Int32) (lo : Nat → Nat → Int64) (re : Nat → UInt64) (k0 : Int32) (hpre : True) (c1 : k0.toInt < (0)) : ((0 : Int32) = 1 ∧ 0 ≤ k0.toInt ∧ k0.toInt < (st 35).toInt) ∨ ((0 : Int32) = 0 ∧ (k0.toInt < 0 ∨ (st 35).toInt ≤ k0.toInt)) := by
  have q0 : (0 : Int32).toInt = 0 := by decide +kernel
  first | trivial | omega | (simp; done) | (simp; omega) | (simp_all; done) | (simp_all; omega)
theorem v_isClass_2 (st : Nat → Int32) (ar : Nat → Nat → Int32) (lo : Nat → Nat → Int64) (re : Nat → UInt64) (k0 : Int32) (hpre : True) (c1 : (0) ≤ k0.toInt) (c2 : (st 35).toInt ≤ k0.toInt) : ((0 : Int32) = 1 ∧ 0 ≤ k0.toInt ∧ k0.toInt < (st 35).toInt) ∨ ((0 : Int32) = 0 ∧ (k0.toInt < 0 ∨ (st 35).toInt ≤ k0.toInt)) := by
  have q0 : (0 : Int32).toInt = 0 := by decide +kernel
  first | trivial | omega | (simp; done) | (simp; omega) | (simp_all; done) | (simp_all; omega)
theorem v_isClass_3 (st : Nat → Int32) (ar : Nat → Nat → Int32) (lo : Nat → Nat → Int64) (re : Nat → UInt64) (k0 : Int32) (hpre : True) (c1 : (0) ≤ k0.toInt) (c2 : k0.toInt < (st 35).toInt) : ((1 : Int32) = 1 ∧ 0 ≤ k0.toInt ∧ k0.toInt < (st 35).toInt) ∨ ((1 : Int32) = 0 ∧ (k0.toInt < 0 ∨ (st 35).toInt ≤ k0.toInt)) := by
  have q1 : (1 : Int32).toInt = 1 := by decide +kernel
  first | trivial | omega | (simp; done) | (simp; omega) | (simp_all; done) | (simp_all; omega)
theorem v_placeOf_1 (st : Nat → Int32) (ar : Nat → Nat → Int32) (lo : Nat → Nat → Int64) (re : Nat → UInt64) (k0 : Int32) (hpre : 0 ≤ (st 49).toInt ∧ (st 49).toInt ≤ 12) : 0 ≤ (0 : Int32).toInt ∧ (0 : Int32).toInt ≤ (st 49).toInt ∧ ((-1 : Int32) = -1 ∨ (64 ≤ (-1 : Int32).toInt ∧ (-1 : Int32).toInt < 64 + (st 49).toInt)) := by
  have qm1 : (-1 : Int32).toInt = (-1) := by decide +kernel
  have q0 : (0 : Int32).toInt = 0 := by decide +kernel
  first | trivial | omega | (simp; done) | (simp; omega) | (simp_all; done) | (simp_all; omega)
theorem v_placeOf_2 (st : Nat → Int32) (ar : Nat → Nat → Int32) (lo : Nat → Nat → Int64) (re : Nat → UInt64) (k0 : Int32) (y1 : Int32) (y2 : Int32) (hpre : 0 ≤ (st 49).toInt ∧ (st 49).toInt ≤ 12) (hi4 : 0 ≤ y2.toInt ∧ y2.toInt ≤ (st 49).toInt ∧ (y1 = -1 ∨ (64 ≤ y1.toInt ∧ y1.toInt < 64 + (st 49).toInt))) (c3 : (st 49).toInt ≤ y2.toInt) : (y1 = -1 ∨ (64 ≤ y1.toInt ∧ y1.toInt < 64 + (st 49).toInt)) := by
  first | trivial | omega | (simp; done) | (simp; omega) | (simp_all; done) | (simp_all; omega)
theorem v_placeOf_3 (st : Nat → Int32) (ar : Nat → Nat → Int32) (lo : Nat → Nat → Int64) (re : Nat → UInt64) (k0 : Int32) (y1 : Int32) (y2 : Int32) (hpre : 0 ≤ (st 49).toInt ∧ (st 49).toInt ≤ 12) (hi4 : 0 ≤ y2.toInt ∧ y2.toInt ≤ (st 49).toInt ∧ (y1 = -1 ∨ (64 ≤ y1.toInt ∧ y1.toInt < 64 + (st 49).toInt))) (c3 : y2.toInt < (st 49).toInt) : vp_in y2 12 := by
  exact vp_in_iff.mpr ⟨by  omega, by  omega⟩
theorem v_placeOf_4 (st : Nat → Int32) (ar : Nat → Nat → Int32) (lo : Nat → Nat → Int64) (re : Nat → UInt64) (k0 : Int32) (y1 : Int32) (y2 : Int32) (x4 : Int32) (x6 : Int32) (hpre : 0 ≤ (st 49).toInt ∧ (st 49).toInt ≤ 12) (hi4 : 0 ≤ y2.toInt ∧ y2.toInt ≤ (st 49).toInt ∧ (y1 = -1 ∨ (64 ≤ y1.toInt ∧ y1.toInt < 64 + (st 49).toInt))) (c3 : y2.toInt < (st 49).toInt) (ex4 : x4 = (ar 50) y2.toNatClampNeg) (c5 : ¬ x4.toInt = k0.toInt) (ex6 : x6 = y2 + 1) : x6.toInt = y2.toInt + (1) := by
  have z9 : (1 : Int32).toInt = 1 := by decide +kernel
  rw [ex6, z_add (by omega) (by omega)]; first | done | omega
theorem v_placeOf_5 (st : Nat → Int32) (ar : Nat → Nat → Int32) (lo : Nat → Nat → Int64) (re : Nat → UInt64) (k0 : Int32) (y1 : Int32) (y2 : Int32) (x4 : Int32) (x6 : Int32) (hpre : 0 ≤ (st 49).toInt ∧ (st 49).toInt ≤ 12) (hi4 : 0 ≤ y2.toInt ∧ y2.toInt ≤ (st 49).toInt ∧ (y1 = -1 ∨ (64 ≤ y1.toInt ∧ y1.toInt < 64 + (st 49).toInt))) (c3 : y2.toInt < (st 49).toInt) (ex4 : x4 = (ar 50) y2.toNatClampNeg) (c5 : ¬ x4.toInt = k0.toInt) (ex6 : x6 = y2 + 1) (tx6 : x6.toInt = y2.toInt + (1)) : 0 ≤ x6.toInt ∧ x6.toInt ≤ (st 49).toInt ∧ (y1 = -1 ∨ (64 ≤ y1.toInt ∧ y1.toInt < 64 + (st 49).toInt)) := by
  first | trivial | omega | (simp; done) | (simp; omega) | (simp_all; done) | (simp_all; omega)
theorem v_placeOf_6 (st : Nat → Int32) (ar : Nat → Nat → Int32) (lo : Nat → Nat → Int64) (re : Nat → UInt64) (k0 : Int32) (y1 : Int32) (y2 : Int32) (x4 : Int32) (x6 : Int32) (hpre : 0 ≤ (st 49).toInt ∧ (st 49).toInt ≤ 12) (hi4 : 0 ≤ y2.toInt ∧ y2.toInt ≤ (st 49).toInt ∧ (y1 = -1 ∨ (64 ≤ y1.toInt ∧ y1.toInt < 64 + (st 49).toInt))) (c3 : y2.toInt < (st 49).toInt) (ex4 : x4 = (ar 50) y2.toNatClampNeg) (c5 : ¬ x4.toInt = k0.toInt) (ex6 : x6 = y2 + 1) (tx6 : x6.toInt = y2.toInt + (1)) : ((st 49).toInt - x6.toInt).toNat < ((st 49).toInt - y2.toInt).toNat := by
  first | trivial | omega | (simp; done) | (simp; omega) | (simp_all; done) | (simp_all; omega)
theorem v_placeOf_7 (st : Nat → Int32) (ar : Nat → Nat → Int32) (lo : Nat → Nat → Int64) (re : Nat → UInt64) (k0 : Int32) (y1 : Int32) (y2 : Int32) (x4 : Int32) (x7 : Int32) (hpre : 0 ≤ (st 49).toInt ∧ (st 49).toInt ≤ 12) (hi4 : 0 ≤ y2.toInt ∧ y2.toInt ≤ (st 49).toInt ∧ (y1 = -1 ∨ (64 ≤ y1.toInt ∧ y1.toInt < 64 + (st 49).toInt))) (c3 : y2.toInt < (st 49).toInt) (ex4 : x4 = (ar 50) y2.toNatClampNeg) (c5 : x4.toInt = k0.toInt) (ex7 : x7 = 64 + y2) : x7.toInt = (64) + y2.toInt := by
  have z64 : (64 : Int32).toInt = 64 := by decide +kernel
  rw [ex7, z_add (by omega) (by omega)]; first | done | omega
theorem v_placeOf_8 (st : Nat → Int32) (ar : Nat → Nat → Int32) (lo : Nat → Nat → Int64) (re : Nat → UInt64) (k0 : Int32) (y1 : Int32) (y2 : Int32) (x4 : Int32) (x7 : Int32) (x8 : Int32) (hpre : 0 ≤ (st 49).toInt ∧ (st 49).toInt ≤ 12) (hi4 : 0 ≤ y2.toInt ∧ y2.toInt ≤ (st 49).toInt ∧ (y1 = -1 ∨ (64 ≤ y1.toInt ∧ y1.toInt < 64 + (st 49).toInt))) (c3 : y2.toInt < (st 49).toInt) (ex4 : x4 = (ar 50) y2.toNatClampNeg) (c5 : x4.toInt = k0.toInt) (ex7 : x7 = 64 + y2) (tx7 : x7.toInt = (64) + y2.toInt) (ex8 : x8 = y2 + 1) : x8.toInt = y2.toInt + (1) := by
  have z9 : (1 : Int32).toInt = 1 := by decide +kernel
  rw [ex8, z_add (by omega) (by omega)]; first | done | omega
theorem v_placeOf_9 (st : Nat → Int32) (ar : Nat → Nat → Int32) (lo : Nat → Nat → Int64) (re : Nat → UInt64) (k0 : Int32) (y1 : Int32) (y2 : Int32) (x4 : Int32) (x7 : Int32) (x8 : Int32) (hpre : 0 ≤ (st 49).toInt ∧ (st 49).toInt ≤ 12) (hi4 : 0 ≤ y2.toInt ∧ y2.toInt ≤ (st 49).toInt ∧ (y1 = -1 ∨ (64 ≤ y1.toInt ∧ y1.toInt < 64 + (st 49).toInt))) (c3 : y2.toInt < (st 49).toInt) (ex4 : x4 = (ar 50) y2.toNatClampNeg) (c5 : x4.toInt = k0.toInt) (ex7 : x7 = 64 + y2) (tx7 : x7.toInt = (64) + y2.toInt) (ex8 : x8 = y2 + 1) (tx8 : x8.toInt = y2.toInt + (1)) : 0 ≤ x8.toInt ∧ x8.toInt ≤ (st 49).toInt ∧ (x7 = -1 ∨ (64 ≤ x7.toInt ∧ x7.toInt < 64 + (st 49).toInt)) := by
  first | trivial | omega | (simp; done) | (simp; omega) | (simp_all; done) | (simp_all; omega)
theorem v_placeOf_10 (st : Nat → Int32) (ar : Nat → Nat → Int32) (lo : Nat → Nat → Int64) (re : Nat → UInt64) (k0 : Int32) (y1 : Int32) (y2 : Int32) (x4 : Int32) (x7 : Int32) (x8 : Int32) (hpre : 0 ≤ (st 49).toInt ∧ (st 49).toInt ≤ 12) (hi4 : 0 ≤ y2.toInt ∧ y2.toInt ≤ (st 49).toInt ∧ (y1 = -1 ∨ (64 ≤ y1.toInt ∧ y1.toInt < 64 + (st 49).toInt))) (c3 : y2.toInt < (st 49).toInt) (ex4 : x4 = (ar 50) y2.toNatClampNeg) (c5 : x4.toInt = k0.toInt) (ex7 : x7 = 64 + y2) (tx7 : x7.toInt = (64) + y2.toInt) (ex8 : x8 = y2 + 1) (tx8 : x8.toInt = y2.toInt + (1)) : ((st 49).toInt - x8.toInt).toNat < ((st 49).toInt - y2.toInt).toNat := by
  first | trivial | omega | (simp; done) | (simp; omega) | (simp_all; done) | (simp_all; omega)
def wqM_thrown0 : List Cond := [.code yX12_thrown cX12_thrown 1 (some .int), .fieldLink RX12 127 "PhraseDeskModel" "threw" "I"]
def wqM_thrown : List Cond := wqM_thrown0 ++ wsX120
set_option maxHeartbeats 4000000 in
set_option maxRecDepth 100000 in
theorem M_thrown (l : Launch) (D : va_G) (cy : Nat → ClassId) (sz0 : Nat) (sa : Nat → Nat) (ad : Nat → Nat) (st : Nat → Int32) (ar : Nat → Nat → Int32) (lo : Nat → Nat → Int64) (re : Nat → UInt64) (sz : Nat)  (hpre : True) : Met l yX12_thrown wqM_thrown ({ frames := 0, cells := 0, slots := 0, locals := 0 }) (PcW D cy sz0 sa [.ref (ad 0)] (MW cy ad st ar lo re) sz) (va_Qi (fun (r : Int32) (u : Unit) => r = (st 0)) (fun (u : Unit) (t : State) => BW D (MW cy ad st ar lo re) (va_A (MW cy ad st ar lo re) sz) t) (va_A (MW cy ad st ar lo re) sz)) 0 0 (va_A (MW cy ad st ar lo re) sz) := by
  refine Met.ofW (cc := cX12_thrown) (maxL := 1) (ret := (some .int)) (by decide) rfl ?_
  intro p e s m args below meth c s₁ B hml hv
  obtain ⟨rfl, hsz, hP, hD0, hE⟩ := hv
  have hx := B.exec
  have hb := B.bytes
  have hr := B.returns
  have hts := atoms_spec (ws := wqM_thrown) B.pre
  have hown : s.vm.findClass RX12 = some m.cls := findClass_of_methodNamed B.named
  have hlocks := B.notSynchronized
  subst hsz
  have hK := hE.1
  have hD := hD0.self (sz := s.heap.size)
  have hAF := frA hD0 hE.2.1
  generalize hAe : va_A (MW cy ad st ar lo re) s.heap.size = A at hD hAF ⊢
  have hA : ∀ q : Nat, s.heap.size ≤ q → A q := fun q h => by rw [← hAe]; exact Or.inr h
  have hS : va_S A s.heap s.heap [] := va_S.rf
  have hl := lv_entry ([.ref (ad 0)]) (n := 1) (Nat.le_of_ble_eq_true rfl)
  rw [lg_entry_eq]
  generalize (lg_sl ([.ref (ad 0)]) ++ List.replicate (1 - (lg_sl ([.ref (ad 0)])).length) Slot.unset).toArray = ls at hl ⊢
  have hl : lv_has ls 1 [(0, .ref (ad 0))] := hl
  refine lv_aload_n hx hb dX12_thrown_0 rfl (lv_at hl 0 rfl) ?_
  refine va_get (D := D) (ci := 14) (v := .int (st 0)) (C := RX12) (T := TX12) (N := 60) hx hb hts (fun _ h => (List.mem_append_right _ h)) hown hK hP 0 rfl rfl 0 (by decide) (hts (.fieldLink RX12 127 "PhraseDeskModel" "threw" "I") (List.mem_of_getElem? (i := 1) rfl)) (fun _ h9 => h9) rfl dX12_thrown_1 ?_
  refine W.widen (k := 0) (n := 0) (Nat.le_of_ble_eq_true rfl) (Nat.le_of_ble_eq_true rfl) ?_
  exact W.iret (v := (st 0)) hx hb hr (fun t ht hW => ⟨⟨(st 0), (), rfl, (v_thrown_1 st ar lo re hpre), by rw [ht]; exact hP, hD⟩, hS.F ht⟩) hS.2.2 dX12_thrown_4

def wqM_at0 : List Cond := [.code yX12_at cX12_at 2 (some .int), .fieldLink RX12 131 "PhraseDeskModel" "size" "I", .fieldLink RX12 7 "PhraseDeskModel" "letters" "[I"]
def wqM_at : List Cond := wqM_at0 ++ wsX120
set_option maxHeartbeats 4000000 in
set_option maxRecDepth 100000 in
theorem M_at (l : Launch) (D : va_G) (cy : Nat → ClassId) (sz0 : Nat) (sa : Nat → Nat) (ad : Nat → Nat) (st : Nat → Int32) (ar : Nat → Nat → Int32) (lo : Nat → Nat → Int64) (re : Nat → UInt64) (sz : Nat) (k0 : Int32) (hpre : 0 ≤ (st 1).toInt ∧ (st 1).toInt ≤ 40 ∧ 0 ≤ k0.toInt) : Met l yX12_at wqM_at ({ frames := 0, cells := 0, slots := 0, locals := 0 }) (PcW D cy sz0 sa [.ref (ad 0), .int k0] (MW cy ad st ar lo re) sz) (va_Qi (fun (r : Int32) (u : Unit) => True) (fun (u : Unit) (t : State) => BW D (MW cy ad st ar lo re) (va_A (MW cy ad st ar lo re) sz) t) (va_A (MW cy ad st ar lo re) sz)) 0 0 (va_A (MW cy ad st ar lo re) sz) := by
  refine Met.ofW (cc := cX12_at) (maxL := 2) (ret := (some .int)) (by decide) rfl ?_
  intro p e s m args below meth c s₁ B hml hv
  obtain ⟨rfl, hsz, hP, hD0, hE⟩ := hv
  have hx := B.exec
  have hb := B.bytes
  have hr := B.returns
  have hts := atoms_spec (ws := wqM_at) B.pre
  have hown : s.vm.findClass RX12 = some m.cls := findClass_of_methodNamed B.named
  have hlocks := B.notSynchronized
  subst hsz
  have hK := hE.1
  have hD := hD0.self (sz := s.heap.size)
  have hAF := frA hD0 hE.2.1
  generalize hAe : va_A (MW cy ad st ar lo re) s.heap.size = A at hD hAF ⊢
  have hA : ∀ q : Nat, s.heap.size ≤ q → A q := fun q h => by rw [← hAe]; exact Or.inr h
  have hS : va_S A s.heap s.heap [] := va_S.rf
  have hl := lv_entry ([.ref (ad 0), .int k0]) (n := 2) (Nat.le_of_ble_eq_true rfl)
  rw [lg_entry_eq]
  generalize (lg_sl ([.ref (ad 0), .int k0]) ++ List.replicate (2 - (lg_sl ([.ref (ad 0), .int k0])).length) Slot.unset).toArray = ls at hl ⊢
  have hl : lv_has ls 2 [(0, .ref (ad 0)), (1, .int k0)] := hl
  refine lv_iload_n hx hb dX12_at_0 rfl (lv_at hl 1 rfl) ?_
  refine lv_aload_n hx hb dX12_at_1 rfl (lv_at hl 0 rfl) ?_
  refine va_get (D := D) (ci := 14) (v := .int (st 1)) (C := RX12) (T := TX12) (N := 60) hx hb hts (fun _ h => (List.mem_append_right _ h)) hown hK hP 0 rfl rfl 1 (by decide) (hts (.fieldLink RX12 131 "PhraseDeskModel" "size" "I") (List.mem_of_getElem? (i := 1) rfl)) (fun _ h9 => h9) rfl dX12_at_2 ?_
  refine lv_icmp_ge (tgt := 17) hx hb dX12_at_5 (by decide) (fun c1 => ?_) (fun c1 => ?_)
  · have c1 : (st 1).toInt ≤ k0.toInt := by have h := z_le c1; exact h
    refine lv_iconst (v := 0) hx hb dX12_at_17 (by decide +kernel) ?_
    refine W.widen (k := 0) (n := 0) (Nat.le_of_ble_eq_true rfl) (Nat.le_of_ble_eq_true rfl) ?_
    exact W.iret (v := 0) hx hb hr (fun t ht hW => ⟨⟨0, (), rfl, (v_at_1 st ar lo re k0 hpre c1), by rw [ht]; exact hP, hD⟩, hS.F ht⟩) hS.2.2 dX12_at_18
  · have c1 : k0.toInt < (st 1).toInt := by have h := z_nle c1; exact h
    refine lv_aload_n hx hb dX12_at_8 rfl (lv_at hl 0 rfl) ?_
    refine va_get (D := D) (ci := 14) (v := .ref (ad 2)) (C := RX12) (T := TX12) (N := 60) hx hb hts (fun _ h => (List.mem_append_right _ h)) hown hK hP 0 rfl rfl 2 (by decide) (hts (.fieldLink RX12 7 "PhraseDeskModel" "letters" "[I") (List.mem_of_getElem? (i := 2) rfl)) (fun _ h9 => h9) rfl dX12_at_9 ?_
    refine lv_iload_n hx hb dX12_at_12 rfl (lv_at hl 1 rfl) ?_
    refine va_iald hx hb hK hP 1 0 rfl rfl (v_at_2 st ar lo re k0 hpre c1) dX12_at_13 ?_
    refine lv_topi (fun x2 ex2 => ?_)
    have ex2 : x2 = (ar 2) k0.toNatClampNeg := ex2
    refine lv_goto (tgt := 18) hx hb dX12_at_14 (by decide) ?_
    refine W.widen (k := 0) (n := 0) (Nat.le_of_ble_eq_true rfl) (Nat.le_of_ble_eq_true rfl) ?_
    exact W.iret (v := x2) hx hb hr (fun t ht hW => ⟨⟨x2, (), rfl, (v_at_3 st ar lo re k0 x2 hpre c1 ex2), by rw [ht]; exact hP, hD⟩, hS.F ht⟩) hS.2.2 dX12_at_18

def wqM_digit0 : List Cond := [.code yX12_digit cX12_digit 2 (some .boolean), .methodLink RX12 134 yX12_at, .instanceMethod yX12_at, .selects RX12 yX12_at yX12_at, .initialized RX12, .code yX12_at cX12_at 2 (some .int), .fieldLink RX12 131 "PhraseDeskModel" "size" "I", .fieldLink RX12 7 "PhraseDeskModel" "letters" "[I"]
def wqM_digit : List Cond := wqM_digit0 ++ wsX120
set_option maxHeartbeats 4000000 in
set_option maxRecDepth 100000 in
theorem M_digit (l : Launch) (D : va_G) (cy : Nat → ClassId) (sz0 : Nat) (sa : Nat → Nat) (ad : Nat → Nat) (st : Nat → Int32) (ar : Nat → Nat → Int32) (lo : Nat → Nat → Int64) (re : Nat → UInt64) (sz : Nat) (k0 : Int32) (hpre : 0 ≤ (st 1).toInt ∧ (st 1).toInt ≤ 40 ∧ 0 ≤ k0.toInt) : Met l yX12_digit wqM_digit ({ frames := 1, cells := 0, slots := 0, locals := 21 }) (PcW D cy sz0 sa [.ref (ad 0), .int k0] (MW cy ad st ar lo re) sz) (va_Qi (fun (r : Int32) (u : Unit) => (r = 0 ∨ r = 1)) (fun (u : Unit) (t : State) => BW D (MW cy ad st ar lo re) (va_A (MW cy ad st ar lo re) sz) t) (va_A (MW cy ad st ar lo re) sz)) 0 0 (va_A (MW cy ad st ar lo re) sz) := by
  refine Met.ofW (cc := cX12_digit) (maxL := 2) (ret := (some .boolean)) (by decide) rfl ?_
  intro p e s m args below meth c s₁ B hml hv
  obtain ⟨rfl, hsz, hP, hD0, hE⟩ := hv
  have hx := B.exec
  have hb := B.bytes
  have hr := B.returns
  have hts := atoms_spec (ws := wqM_digit) B.pre
  have hown : s.vm.findClass RX12 = some m.cls := findClass_of_methodNamed B.named
  have hlocks := B.notSynchronized
  subst hsz
  have hK := hE.1
  have hD := hD0.self (sz := s.heap.size)
  have hAF := frA hD0 hE.2.1
  generalize hAe : va_A (MW cy ad st ar lo re) s.heap.size = A at hD hAF ⊢
  have hA : ∀ q : Nat, s.heap.size ≤ q → A q := fun q h => by rw [← hAe]; exact Or.inr h
  have hS : va_S A s.heap s.heap [] := va_S.rf
  have hl := lv_entry ([.ref (ad 0), .int k0]) (n := 2) (Nat.le_of_ble_eq_true rfl)
  rw [lg_entry_eq]
  generalize (lg_sl ([.ref (ad 0), .int k0]) ++ List.replicate (2 - (lg_sl ([.ref (ad 0), .int k0])).length) Slot.unset).toArray = ls at hl ⊢
  have hl : lv_has ls 2 [(0, .ref (ad 0)), (1, .int k0)] := hl
  refine lv_aload_n hx hb dX12_digit_0 rfl (lv_at hl 0 rfl) ?_
  refine lv_iload_n hx hb dX12_digit_1 rfl (lv_at hl 1 rfl) ?_
  have hFc := freeAll hD hS hA
  refine va_calli (va_runV (As := [.int k0]) (rest := []) ⟨hx, hb, hml, hown, hts⟩ (M_at l D cy sz0 sa ad st ar lo re s.heap.size k0 (v_digit_1 st ar lo re k0 hpre)) (cwV 1 hts (goodIn_app (goodIn_r _ [1, 2, 3, 4] rfl (by decide +kernel)) (goodIn_app (goodIn_r wqM_at0 [5, 6, 7] rfl (by decide +kernel)) (goodIn_sub (fun _ h => (List.mem_append_right _ h)) (by decide +kernel)))) rfl rfl rfl (by decide +kernel) ⟨Nat.le_of_ble_eq_true rfl, Nat.le_of_ble_eq_true rfl⟩) ⟨PcW.blind, va_recv hK hP (ci := 14) (q0 := 0) rfl rfl, PcW.mk hE hS hAF hP hD⟩ rfl rfl hl.1 rfl (lv_room (Nat.le_of_ble_eq_true rfl)) dX12_digit_2 ⟨Nat.le_of_ble_eq_true rfl, Nat.le_of_ble_eq_true rfl⟩) hS (fun q _ h => hFc q h) hFc (fun r1 u t H1 locs ht hvm hw hB hz1 hk1 hS => ?_)
  have hr1 : True := hw
  obtain ⟨hP1, hD1⟩ := hB
  rw [ht] at hP1
  have hD1 := hD1.weaken (fun _ q _ h => hFc q.1 h)
  clear hP hD hFc hk1 hz1
  have hP := hP1
  have hD := hD1
  clear hP1 hD1
  generalize H1 = H at hP hS ⊢
  have hP : va_P D vwCl (MW cy ad st ar lo re) H := hP
  have hD : va_D A (MW cy ad st ar lo re) := hD
  refine W.widen (k := 0) (n := 0) (Nat.le_of_ble_eq_true rfl) (Nat.le_of_ble_eq_true rfl) ?_
  refine lv_bipush (v := 48) hx hb dX12_digit_5 (by decide +kernel) ?_
  refine lv_icmp_lt (tgt := 24) hx hb dX12_digit_7 (by decide) (fun c2 => ?_) (fun c2 => ?_)
  · have c2 : r1.toInt < (48) := by have h := z_lt c2; rw [show (48 : Int32).toInt = 48 from by decide +kernel] at h; exact h
    refine lv_iconst (v := 0) hx hb dX12_digit_24 (by decide +kernel) ?_
    refine W.widen (k := 0) (n := 0) (Nat.le_of_ble_eq_true rfl) (Nat.le_of_ble_eq_true rfl) ?_
    exact W.zret (v := 0) (ty := .boolean) hx hb hr (rfl) (fun t ht hW => ⟨⟨0, (), rfl, (v_digit_2 st ar lo re k0 r1 hpre hr1 c2), by rw [ht]; exact hP, hD⟩, hS.F ht⟩) hS.2.2 dX12_digit_25
  · have c2 : (48) ≤ r1.toInt := by have h := z_nlt c2; rw [show (48 : Int32).toInt = 48 from by decide +kernel] at h; exact h
    refine lv_aload_n hx hb dX12_digit_10 rfl (lv_at hl 0 rfl) ?_
    refine lv_iload_n hx hb dX12_digit_11 rfl (lv_at hl 1 rfl) ?_
    have hFc := freeAll hD hS hA
    refine va_calli (va_runV (As := [.int k0]) (rest := []) ⟨hx, hb, hml, hown, hts⟩ (M_at l D cy sz0 sa ad st ar lo re H.size k0 (v_digit_3 st ar lo re k0 r1 hpre hr1 c2)) (cwV 1 hts (goodIn_app (goodIn_r _ [1, 2, 3, 4] rfl (by decide +kernel)) (goodIn_app (goodIn_r wqM_at0 [5, 6, 7] rfl (by decide +kernel)) (goodIn_sub (fun _ h => (List.mem_append_right _ h)) (by decide +kernel)))) rfl rfl rfl (by decide +kernel) ⟨Nat.le_of_ble_eq_true rfl, Nat.le_of_ble_eq_true rfl⟩) ⟨PcW.blind, va_recv hK hP (ci := 14) (q0 := 0) rfl rfl, PcW.mk hE hS hAF hP hD⟩ rfl rfl hl.1 rfl (lv_room (Nat.le_of_ble_eq_true rfl)) dX12_digit_12 ⟨Nat.le_of_ble_eq_true rfl, Nat.le_of_ble_eq_true rfl⟩) hS (fun q _ h => hFc q h) hFc (fun r3 u t H1 locs ht hvm hw hB hz1 hk1 hS => ?_)
    have hr3 : True := hw
    obtain ⟨hP1, hD1⟩ := hB
    rw [ht] at hP1
    have hD1 := hD1.weaken (fun _ q _ h => hFc q.1 h)
    clear hP hD hFc hk1 hz1
    have hP := hP1
    have hD := hD1
    clear hP1 hD1
    generalize H1 = H at hP hS ⊢
    have hP : va_P D vwCl (MW cy ad st ar lo re) H := hP
    have hD : va_D A (MW cy ad st ar lo re) := hD
    refine W.widen (k := 0) (n := 0) (Nat.le_of_ble_eq_true rfl) (Nat.le_of_ble_eq_true rfl) ?_
    refine lv_bipush (v := 57) hx hb dX12_digit_15 (by decide +kernel) ?_
    refine lv_icmp_gt (tgt := 24) hx hb dX12_digit_17 (by decide) (fun c4 => ?_) (fun c4 => ?_)
    · have c4 : (57) < r3.toInt := by have h := z_lt c4; rw [show (57 : Int32).toInt = 57 from by decide +kernel] at h; exact h
      refine lv_iconst (v := 0) hx hb dX12_digit_24 (by decide +kernel) ?_
      refine W.widen (k := 0) (n := 0) (Nat.le_of_ble_eq_true rfl) (Nat.le_of_ble_eq_true rfl) ?_
      exact W.zret (v := 0) (ty := .boolean) hx hb hr (rfl) (fun t ht hW => ⟨⟨0, (), rfl, (v_digit_4 st ar lo re k0 r1 r3 hpre hr1 c2 hr3 c4), by rw [ht]; exact hP, hD⟩, hS.F ht⟩) hS.2.2 dX12_digit_25
    · have c4 : r3.toInt ≤ (57) := by have h := z_nlt c4; rw [show (57 : Int32).toInt = 57 from by decide +kernel] at h; exact h
      refine lv_iconst (v := 1) hx hb dX12_digit_20 (by decide +kernel) ?_
      refine lv_goto (tgt := 25) hx hb dX12_digit_21 (by decide) ?_
      refine W.widen (k := 0) (n := 0) (Nat.le_of_ble_eq_true rfl) (Nat.le_of_ble_eq_true rfl) ?_
      exact W.zret (v := 1) (ty := .boolean) hx hb hr (rfl) (fun t ht hW => ⟨⟨1, (), rfl, (v_digit_5 st ar lo re k0 r1 r3 hpre hr1 c2 hr3 c4), by rw [ht]; exact hP, hD⟩, hS.F ht⟩) hS.2.2 dX12_digit_25

def wqM_wrong0 : List Cond := [.code yX12_wrong cX12_wrong 3 none, .fieldLink RX12 138 "PhraseDeskModel" "error" "I", .fieldLink RX12 141 "PhraseDeskModel" "where" "I"]
def wqM_wrong : List Cond := wqM_wrong0 ++ wsX120
set_option maxHeartbeats 4000000 in
set_option maxRecDepth 100000 in
theorem M_wrong (l : Launch) (D : va_G) (cy : Nat → ClassId) (sz0 : Nat) (sa : Nat → Nat) (ad : Nat → Nat) (st : Nat → Int32) (ar : Nat → Nat → Int32) (lo : Nat → Nat → Int64) (re : Nat → UInt64) (sz : Nat) (k0 : Int32) (k1 : Int32) (hpre : True) : Met l yX12_wrong wqM_wrong ({ frames := 0, cells := 0, slots := 0, locals := 0 }) (PcW D cy sz0 sa [.ref (ad 0), .int k0, .int k1] (MW cy ad st ar lo re) sz) (va_Qv (fun (u : Int32 × Int32) => (u.1 = (st 8) ∨ u.1 = k0)) (fun (u : Int32 × Int32) (t : State) => BW D (MW cy ad (upd (upd st 8 u.1) 9 u.2) ar lo re) (va_A (MW cy ad st ar lo re) sz) t) (va_A (MW cy ad st ar lo re) sz)) 0 0 (va_A (MW cy ad st ar lo re) sz) := by
  refine Met.ofW (cc := cX12_wrong) (maxL := 3) (ret := none) (by decide) rfl ?_
  intro p e s m args below meth c s₁ B hml hv
  obtain ⟨rfl, hsz, hP, hD0, hE⟩ := hv
  have hx := B.exec
  have hb := B.bytes
  have hr := B.returns
  have hts := atoms_spec (ws := wqM_wrong) B.pre
  have hown : s.vm.findClass RX12 = some m.cls := findClass_of_methodNamed B.named
  have hlocks := B.notSynchronized
  subst hsz
  have hK := hE.1
  have hD := hD0.self (sz := s.heap.size)
  have hAF := frA hD0 hE.2.1
  generalize hAe : va_A (MW cy ad st ar lo re) s.heap.size = A at hD hAF ⊢
  have hA : ∀ q : Nat, s.heap.size ≤ q → A q := fun q h => by rw [← hAe]; exact Or.inr h
  have hS : va_S A s.heap s.heap [] := va_S.rf
  have hl := lv_entry ([.ref (ad 0), .int k0, .int k1]) (n := 3) (Nat.le_of_ble_eq_true rfl)
  rw [lg_entry_eq]
  generalize (lg_sl ([.ref (ad 0), .int k0, .int k1]) ++ List.replicate (3 - (lg_sl ([.ref (ad 0), .int k0, .int k1])).length) Slot.unset).toArray = ls at hl ⊢
  have hl : lv_has ls 3 [(0, .ref (ad 0)), (1, .int k0), (2, .int k1)] := hl
  refine lv_aload_n hx hb dX12_wrong_0 rfl (lv_at hl 0 rfl) ?_
  refine va_get (D := D) (ci := 14) (v := .int (st 8)) (C := RX12) (T := TX12) (N := 60) hx hb hts (fun _ h => (List.mem_append_right _ h)) hown hK hP 0 rfl rfl 8 (by decide) (hts (.fieldLink RX12 138 "PhraseDeskModel" "error" "I") (List.mem_of_getElem? (i := 1) rfl)) (fun _ h9 => h9) rfl dX12_wrong_1 ?_
  refine lv_if_ne (tgt := 17) hx hb dX12_wrong_4 (by decide) (fun c1 => ?_) (fun c1 => ?_)
  · have c1 : ¬ (st 8).toInt = (0) := by have h := z_ne c1; rw [show (0 : Int32).toInt = 0 from by decide +kernel] at h; exact h
    refine W.widen (k := 0) (n := 0) (Nat.le_of_ble_eq_true rfl) (Nat.le_of_ble_eq_true rfl) ?_
    exact W.vret hx hb hr (fun t ht hW => ⟨⟨⟨(st 8), (st 9)⟩, rfl, (v_wrong_1 st ar lo re k0 k1 hpre c1), by rw [ht]; exact hP, hD⟩, hS.F ht⟩) hS.2.2 dX12_wrong_17
  · have c1 : (st 8).toInt = (0) := by have h := z_eq c1; rw [show (0 : Int32).toInt = 0 from by decide +kernel] at h; exact h
    refine lv_aload_n hx hb dX12_wrong_7 rfl (lv_at hl 0 rfl) ?_
    refine lv_iload_n hx hb dX12_wrong_8 rfl (lv_at hl 1 rfl) ?_
    refine va_put (D := D) (ci := 14) (v := .int k0) (ty := .int) (C := RX12) (T := TX12) (N := 60) hx hb hts (fun _ h => (List.mem_append_right _ h)) tyX12 tyX12_ok nmX12 hown hK hP hD hS 0 rfl rfl 8 (by decide) (hts (.fieldLink RX12 138 "PhraseDeskModel" "error" "I") (List.mem_of_getElem? (i := 1) rfl)) (fun _ h9 => h9) rfl (by decide +kernel) rfl rfl (Nat.le_of_ble_eq_true rfl) dX12_wrong_9 (fun H locs hP hD hS => ?_)
    have hP : va_P D vwCl (MW cy ad (upd st 8 k0) ar lo re) H := hP
    have hD : va_D A (MW cy ad (upd st 8 k0) ar lo re) := hD
    refine lv_aload_n hx hb dX12_wrong_12 rfl (lv_at hl 0 rfl) ?_
    refine lv_iload_n hx hb dX12_wrong_13 rfl (lv_at hl 2 rfl) ?_
    refine va_put (D := D) (ci := 14) (v := .int k1) (ty := .int) (C := RX12) (T := TX12) (N := 60) hx hb hts (fun _ h => (List.mem_append_right _ h)) tyX12 tyX12_ok nmX12 hown hK hP hD hS 0 rfl rfl 9 (by decide) (hts (.fieldLink RX12 141 "PhraseDeskModel" "where" "I") (List.mem_of_getElem? (i := 2) rfl)) (fun _ h9 => h9) rfl (by decide +kernel) rfl rfl (Nat.le_of_ble_eq_true rfl) dX12_wrong_14 (fun H locs hP hD hS => ?_)
    have hP : va_P D vwCl (MW cy ad (upd (upd st 8 k0) 9 k1) ar lo re) H := hP
    have hD : va_D A (MW cy ad (upd (upd st 8 k0) 9 k1) ar lo re) := hD
    refine W.widen (k := 0) (n := 0) (Nat.le_of_ble_eq_true rfl) (Nat.le_of_ble_eq_true rfl) ?_
    exact W.vret hx hb hr (fun t ht hW => ⟨⟨⟨k0, k1⟩, rfl, (v_wrong_2 st ar lo re k0 k1 hpre c1), by rw [ht]; exact hP, hD⟩, hS.F ht⟩) hS.2.2 dX12_wrong_17

def wqM_letter0 : List Cond := [.code yX12_letter cX12_letter 2 (some .int), .fieldLink RX12 127 "PhraseDeskModel" "threw" "I", .fieldLink RX12 131 "PhraseDeskModel" "size" "I", .fieldLink RX12 7 "PhraseDeskModel" "letters" "[I"]
def wqM_letter : List Cond := wqM_letter0 ++ wsX120
set_option maxHeartbeats 4000000 in
set_option maxRecDepth 100000 in
theorem M_letter (l : Launch) (D : va_G) (cy : Nat → ClassId) (sz0 : Nat) (sa : Nat → Nat) (ad : Nat → Nat) (st : Nat → Int32) (ar : Nat → Nat → Int32) (lo : Nat → Nat → Int64) (re : Nat → UInt64) (sz : Nat) (k0 : Int32) (hpre : 0 ≤ (st 1).toInt ∧ (st 1).toInt ≤ 40) : Met l yX12_letter wqM_letter ({ frames := 0, cells := 0, slots := 0, locals := 0 }) (PcW D cy sz0 sa [.ref (ad 0), .int k0] (MW cy ad st ar lo re) sz) (va_Qi (fun (r : Int32) (u : Int32 × Int32 × (Nat → Int32)) => 0 ≤ u.2.1.toInt ∧ u.2.1.toInt ≤ 40) (fun (u : Int32 × Int32 × (Nat → Int32)) (t : State) => BW D (MW cy ad (upd (upd st 0 u.1) 1 u.2.1) (updA ar 2 u.2.2) lo re) (va_A (MW cy ad st ar lo re) sz) t) (va_A (MW cy ad st ar lo re) sz)) 0 0 (va_A (MW cy ad st ar lo re) sz) := by
  refine Met.ofW (cc := cX12_letter) (maxL := 2) (ret := (some .int)) (by decide) rfl ?_
  intro p e s m args below meth c s₁ B hml hv
  obtain ⟨rfl, hsz, hP, hD0, hE⟩ := hv
  have hx := B.exec
  have hb := B.bytes
  have hr := B.returns
  have hts := atoms_spec (ws := wqM_letter) B.pre
  have hown : s.vm.findClass RX12 = some m.cls := findClass_of_methodNamed B.named
  have hlocks := B.notSynchronized
  subst hsz
  have hK := hE.1
  have hD := hD0.self (sz := s.heap.size)
  have hAF := frA hD0 hE.2.1
  generalize hAe : va_A (MW cy ad st ar lo re) s.heap.size = A at hD hAF ⊢
  have hA : ∀ q : Nat, s.heap.size ≤ q → A q := fun q h => by rw [← hAe]; exact Or.inr h
  have hS : va_S A s.heap s.heap [] := va_S.rf
  have hl := lv_entry ([.ref (ad 0), .int k0]) (n := 2) (Nat.le_of_ble_eq_true rfl)
  rw [lg_entry_eq]
  generalize (lg_sl ([.ref (ad 0), .int k0]) ++ List.replicate (2 - (lg_sl ([.ref (ad 0), .int k0])).length) Slot.unset).toArray = ls at hl ⊢
  have hl : lv_has ls 2 [(0, .ref (ad 0)), (1, .int k0)] := hl
  refine lv_aload_n hx hb dX12_letter_0 rfl (lv_at hl 0 rfl) ?_
  refine lv_iload_n hx hb dX12_letter_1 rfl (lv_at hl 1 rfl) ?_
  refine lv_bipush (v := 32) hx hb dX12_letter_2 (by decide +kernel) ?_
  refine lv_icmp_lt (tgt := 13) hx hb dX12_letter_4 (by decide) (fun c1 => ?_) (fun c1 => ?_)
  · have c1 : k0.toInt < (32) := by have h := z_lt c1; rw [show (32 : Int32).toInt = 32 from by decide +kernel] at h; exact h
    refine lv_iconst (v := 1) hx hb dX12_letter_13 (by decide +kernel) ?_
    refine lv_goto (tgt := 31) hx hb dX12_letter_14 (by decide) ?_
    refine va_put (D := D) (ci := 14) (v := .int 1) (ty := .int) (C := RX12) (T := TX12) (N := 60) hx hb hts (fun _ h => (List.mem_append_right _ h)) tyX12 tyX12_ok nmX12 hown hK hP hD hS 0 rfl rfl 0 (by decide) (hts (.fieldLink RX12 127 "PhraseDeskModel" "threw" "I") (List.mem_of_getElem? (i := 1) rfl)) (fun _ h9 => h9) rfl (by decide +kernel) rfl rfl (Nat.le_of_ble_eq_true rfl) dX12_letter_31 (fun H locs hP hD hS => ?_)
    have hP : va_P D vwCl (MW cy ad (upd st 0 1) ar lo re) H := hP
    have hD : va_D A (MW cy ad (upd st 0 1) ar lo re) := hD
    refine lv_aload_n hx hb dX12_letter_34 rfl (lv_at hl 0 rfl) ?_
    refine va_get (D := D) (ci := 14) (v := .int 1) (C := RX12) (T := TX12) (N := 60) hx hb hts (fun _ h => (List.mem_append_right _ h)) hown hK hP 0 rfl rfl 0 (by decide) (hts (.fieldLink RX12 127 "PhraseDeskModel" "threw" "I") (List.mem_of_getElem? (i := 1) rfl)) (fun _ h9 => h9) rfl dX12_letter_35 ?_
    refine lv_if_ne (tgt := 61) hx hb dX12_letter_38 (by decide) (fun _ => ?_) (fun c2 => absurd c2 (by decide +kernel))
    refine lv_aload_n hx hb dX12_letter_61 rfl (lv_at hl 0 rfl) ?_
    refine va_get (D := D) (ci := 14) (v := .int (st 1)) (C := RX12) (T := TX12) (N := 60) hx hb hts (fun _ h => (List.mem_append_right _ h)) hown hK hP 0 rfl rfl 1 (by decide) (hts (.fieldLink RX12 131 "PhraseDeskModel" "size" "I") (List.mem_of_getElem? (i := 2) rfl)) (fun _ h9 => h9) rfl dX12_letter_62 ?_
    refine W.widen (k := 0) (n := 0) (Nat.le_of_ble_eq_true rfl) (Nat.le_of_ble_eq_true rfl) ?_
    exact W.iret (v := (st 1)) hx hb hr (fun t ht hW => ⟨⟨(st 1), ⟨1, (st 1), (ar 2)⟩, rfl, (v_letter_1 st ar lo re k0 hpre c1), by rw [ht]; exact hP, hD⟩, hS.F ht⟩) hS.2.2 dX12_letter_65
  · have c1 : (32) ≤ k0.toInt := by have h := z_nlt c1; rw [show (32 : Int32).toInt = 32 from by decide +kernel] at h; exact h
    refine lv_iload_n hx hb dX12_letter_7 rfl (lv_at hl 1 rfl) ?_
    refine lv_bipush (v := 126) hx hb dX12_letter_8 (by decide +kernel) ?_
    refine lv_icmp_le (tgt := 17) hx hb dX12_letter_10 (by decide) (fun c3 => ?_) (fun c3 => ?_)
    · have c3 : k0.toInt ≤ (126) := by have h := z_le c3; rw [show (126 : Int32).toInt = 126 from by decide +kernel] at h; exact h
      refine lv_aload_n hx hb dX12_letter_17 rfl (lv_at hl 0 rfl) ?_
      refine va_get (D := D) (ci := 14) (v := .int (st 1)) (C := RX12) (T := TX12) (N := 60) hx hb hts (fun _ h => (List.mem_append_right _ h)) hown hK hP 0 rfl rfl 1 (by decide) (hts (.fieldLink RX12 131 "PhraseDeskModel" "size" "I") (List.mem_of_getElem? (i := 2) rfl)) (fun _ h9 => h9) rfl dX12_letter_18 ?_
      refine lv_bipush (v := 40) hx hb dX12_letter_21 (by decide +kernel) ?_
      refine lv_icmp_ne (tgt := 30) hx hb dX12_letter_23 (by decide) (fun c4 => ?_) (fun c4 => ?_)
      · have c4 : ¬ (st 1).toInt = (40) := by have h := z_ne c4; rw [show (40 : Int32).toInt = 40 from by decide +kernel] at h; exact h
        refine lv_iconst (v := 0) hx hb dX12_letter_30 (by decide +kernel) ?_
        refine va_put (D := D) (ci := 14) (v := .int 0) (ty := .int) (C := RX12) (T := TX12) (N := 60) hx hb hts (fun _ h => (List.mem_append_right _ h)) tyX12 tyX12_ok nmX12 hown hK hP hD hS 0 rfl rfl 0 (by decide) (hts (.fieldLink RX12 127 "PhraseDeskModel" "threw" "I") (List.mem_of_getElem? (i := 1) rfl)) (fun _ h9 => h9) rfl (by decide +kernel) rfl rfl (Nat.le_of_ble_eq_true rfl) dX12_letter_31 (fun H locs hP hD hS => ?_)
        have hP : va_P D vwCl (MW cy ad (upd st 0 0) ar lo re) H := hP
        have hD : va_D A (MW cy ad (upd st 0 0) ar lo re) := hD
        refine lv_aload_n hx hb dX12_letter_34 rfl (lv_at hl 0 rfl) ?_
        refine va_get (D := D) (ci := 14) (v := .int 0) (C := RX12) (T := TX12) (N := 60) hx hb hts (fun _ h => (List.mem_append_right _ h)) hown hK hP 0 rfl rfl 0 (by decide) (hts (.fieldLink RX12 127 "PhraseDeskModel" "threw" "I") (List.mem_of_getElem? (i := 1) rfl)) (fun _ h9 => h9) rfl dX12_letter_35 ?_
        refine lv_if_ne (tgt := 61) hx hb dX12_letter_38 (by decide) (fun c5 => absurd (by decide +kernel) c5) (fun _ => ?_)
        refine lv_aload_n hx hb dX12_letter_41 rfl (lv_at hl 0 rfl) ?_
        refine va_get (D := D) (ci := 14) (v := .ref (ad 2)) (C := RX12) (T := TX12) (N := 60) hx hb hts (fun _ h => (List.mem_append_right _ h)) hown hK hP 0 rfl rfl 2 (by decide) (hts (.fieldLink RX12 7 "PhraseDeskModel" "letters" "[I") (List.mem_of_getElem? (i := 3) rfl)) (fun _ h9 => h9) rfl dX12_letter_42 ?_
        refine lv_aload_n hx hb dX12_letter_45 rfl (lv_at hl 0 rfl) ?_
        refine va_get (D := D) (ci := 14) (v := .int (st 1)) (C := RX12) (T := TX12) (N := 60) hx hb hts (fun _ h => (List.mem_append_right _ h)) hown hK hP 0 rfl rfl 1 (by decide) (hts (.fieldLink RX12 131 "PhraseDeskModel" "size" "I") (List.mem_of_getElem? (i := 2) rfl)) (fun _ h9 => h9) rfl dX12_letter_46 ?_
        refine lv_iload_n hx hb dX12_letter_49 rfl (lv_at hl 1 rfl) ?_
        refine va_iast hx hb hK hP hD hS 1 0 rfl rfl (v_letter_2 st ar lo re k0 hpre c1 c3 c4) dX12_letter_50 (fun H locs hP hD hS => ?_)
        have hP : va_P D vwCl (MW cy ad (upd st 0 0) (updA ar 2 (upd (ar 2) (st 1).toNatClampNeg k0)) lo re) H := hP
        have hD : va_D A (MW cy ad (upd st 0 0) (updA ar 2 (upd (ar 2) (st 1).toNatClampNeg k0)) lo re) := hD
        refine lv_aload_n hx hb dX12_letter_51 rfl (lv_at hl 0 rfl) ?_
        refine lv_dup hx hb dX12_letter_52 rfl ?_
        refine va_get (D := D) (ci := 14) (v := .int (st 1)) (C := RX12) (T := TX12) (N := 60) hx hb hts (fun _ h => (List.mem_append_right _ h)) hown hK hP 0 rfl rfl 1 (by decide) (hts (.fieldLink RX12 131 "PhraseDeskModel" "size" "I") (List.mem_of_getElem? (i := 2) rfl)) (fun _ h9 => h9) rfl dX12_letter_53 ?_
        refine lv_iconst (v := 1) hx hb dX12_letter_56 (by decide +kernel) ?_
        refine lv_iadd hx hb dX12_letter_57 ?_
        refine lv_topi (fun x6 ex6 => ?_)
        have tx6 := (v_letter_3 st ar lo re k0 x6 hpre c1 c3 c4 ex6)
        refine va_put (D := D) (ci := 14) (v := .int x6) (ty := .int) (C := RX12) (T := TX12) (N := 60) hx hb hts (fun _ h => (List.mem_append_right _ h)) tyX12 tyX12_ok nmX12 hown hK hP hD hS 0 rfl rfl 1 (by decide) (hts (.fieldLink RX12 131 "PhraseDeskModel" "size" "I") (List.mem_of_getElem? (i := 2) rfl)) (fun _ h9 => h9) rfl (by decide +kernel) rfl rfl (Nat.le_of_ble_eq_true rfl) dX12_letter_58 (fun H locs hP hD hS => ?_)
        have hP : va_P D vwCl (MW cy ad (upd (upd st 0 0) 1 x6) (updA ar 2 (upd (ar 2) (st 1).toNatClampNeg k0)) lo re) H := hP
        have hD : va_D A (MW cy ad (upd (upd st 0 0) 1 x6) (updA ar 2 (upd (ar 2) (st 1).toNatClampNeg k0)) lo re) := hD
        refine lv_aload_n hx hb dX12_letter_61 rfl (lv_at hl 0 rfl) ?_
        refine va_get (D := D) (ci := 14) (v := .int x6) (C := RX12) (T := TX12) (N := 60) hx hb hts (fun _ h => (List.mem_append_right _ h)) hown hK hP 0 rfl rfl 1 (by decide) (hts (.fieldLink RX12 131 "PhraseDeskModel" "size" "I") (List.mem_of_getElem? (i := 2) rfl)) (fun _ h9 => h9) rfl dX12_letter_62 ?_
        refine W.widen (k := 0) (n := 0) (Nat.le_of_ble_eq_true rfl) (Nat.le_of_ble_eq_true rfl) ?_
        exact W.iret (v := x6) hx hb hr (fun t ht hW => ⟨⟨x6, ⟨0, x6, (upd (ar 2) (st 1).toNatClampNeg k0)⟩, rfl, (v_letter_4 st ar lo re k0 x6 hpre c1 c3 c4 ex6 tx6), by rw [ht]; exact hP, hD⟩, hS.F ht⟩) hS.2.2 dX12_letter_65
      · have c4 : (st 1).toInt = (40) := by have h := z_eq c4; rw [show (40 : Int32).toInt = 40 from by decide +kernel] at h; exact h
        refine lv_iconst (v := 2) hx hb dX12_letter_26 (by decide +kernel) ?_
        refine lv_goto (tgt := 31) hx hb dX12_letter_27 (by decide) ?_
        refine va_put (D := D) (ci := 14) (v := .int 2) (ty := .int) (C := RX12) (T := TX12) (N := 60) hx hb hts (fun _ h => (List.mem_append_right _ h)) tyX12 tyX12_ok nmX12 hown hK hP hD hS 0 rfl rfl 0 (by decide) (hts (.fieldLink RX12 127 "PhraseDeskModel" "threw" "I") (List.mem_of_getElem? (i := 1) rfl)) (fun _ h9 => h9) rfl (by decide +kernel) rfl rfl (Nat.le_of_ble_eq_true rfl) dX12_letter_31 (fun H locs hP hD hS => ?_)
        have hP : va_P D vwCl (MW cy ad (upd st 0 2) ar lo re) H := hP
        have hD : va_D A (MW cy ad (upd st 0 2) ar lo re) := hD
        refine lv_aload_n hx hb dX12_letter_34 rfl (lv_at hl 0 rfl) ?_
        refine va_get (D := D) (ci := 14) (v := .int 2) (C := RX12) (T := TX12) (N := 60) hx hb hts (fun _ h => (List.mem_append_right _ h)) hown hK hP 0 rfl rfl 0 (by decide) (hts (.fieldLink RX12 127 "PhraseDeskModel" "threw" "I") (List.mem_of_getElem? (i := 1) rfl)) (fun _ h9 => h9) rfl dX12_letter_35 ?_
        refine lv_if_ne (tgt := 61) hx hb dX12_letter_38 (by decide) (fun _ => ?_) (fun c7 => absurd c7 (by decide +kernel))
        refine lv_aload_n hx hb dX12_letter_61 rfl (lv_at hl 0 rfl) ?_
        refine va_get (D := D) (ci := 14) (v := .int (st 1)) (C := RX12) (T := TX12) (N := 60) hx hb hts (fun _ h => (List.mem_append_right _ h)) hown hK hP 0 rfl rfl 1 (by decide) (hts (.fieldLink RX12 131 "PhraseDeskModel" "size" "I") (List.mem_of_getElem? (i := 2) rfl)) (fun _ h9 => h9) rfl dX12_letter_62 ?_
        refine W.widen (k := 0) (n := 0) (Nat.le_of_ble_eq_true rfl) (Nat.le_of_ble_eq_true rfl) ?_
        exact W.iret (v := (st 1)) hx hb hr (fun t ht hW => ⟨⟨(st 1), ⟨2, (st 1), (ar 2)⟩, rfl, (v_letter_5 st ar lo re k0 hpre c1 c3 c4), by rw [ht]; exact hP, hD⟩, hS.F ht⟩) hS.2.2 dX12_letter_65
    · have c3 : (126) < k0.toInt := by have h := z_nle c3; rw [show (126 : Int32).toInt = 126 from by decide +kernel] at h; exact h
      refine lv_iconst (v := 1) hx hb dX12_letter_13 (by decide +kernel) ?_
      refine lv_goto (tgt := 31) hx hb dX12_letter_14 (by decide) ?_
      refine va_put (D := D) (ci := 14) (v := .int 1) (ty := .int) (C := RX12) (T := TX12) (N := 60) hx hb hts (fun _ h => (List.mem_append_right _ h)) tyX12 tyX12_ok nmX12 hown hK hP hD hS 0 rfl rfl 0 (by decide) (hts (.fieldLink RX12 127 "PhraseDeskModel" "threw" "I") (List.mem_of_getElem? (i := 1) rfl)) (fun _ h9 => h9) rfl (by decide +kernel) rfl rfl (Nat.le_of_ble_eq_true rfl) dX12_letter_31 (fun H locs hP hD hS => ?_)
      have hP : va_P D vwCl (MW cy ad (upd st 0 1) ar lo re) H := hP
      have hD : va_D A (MW cy ad (upd st 0 1) ar lo re) := hD
      refine lv_aload_n hx hb dX12_letter_34 rfl (lv_at hl 0 rfl) ?_
      refine va_get (D := D) (ci := 14) (v := .int 1) (C := RX12) (T := TX12) (N := 60) hx hb hts (fun _ h => (List.mem_append_right _ h)) hown hK hP 0 rfl rfl 0 (by decide) (hts (.fieldLink RX12 127 "PhraseDeskModel" "threw" "I") (List.mem_of_getElem? (i := 1) rfl)) (fun _ h9 => h9) rfl dX12_letter_35 ?_
      refine lv_if_ne (tgt := 61) hx hb dX12_letter_38 (by decide) (fun _ => ?_) (fun c8 => absurd c8 (by decide +kernel))
      refine lv_aload_n hx hb dX12_letter_61 rfl (lv_at hl 0 rfl) ?_
      refine va_get (D := D) (ci := 14) (v := .int (st 1)) (C := RX12) (T := TX12) (N := 60) hx hb hts (fun _ h => (List.mem_append_right _ h)) hown hK hP 0 rfl rfl 1 (by decide) (hts (.fieldLink RX12 131 "PhraseDeskModel" "size" "I") (List.mem_of_getElem? (i := 2) rfl)) (fun _ h9 => h9) rfl dX12_letter_62 ?_
      refine W.widen (k := 0) (n := 0) (Nat.le_of_ble_eq_true rfl) (Nat.le_of_ble_eq_true rfl) ?_
      exact W.iret (v := (st 1)) hx hb hr (fun t ht hW => ⟨⟨(st 1), ⟨1, (st 1), (ar 2)⟩, rfl, (v_letter_6 st ar lo re k0 hpre c1 c3), by rw [ht]; exact hP, hD⟩, hS.F ht⟩) hS.2.2 dX12_letter_65

def wqM_isClass0 : List Cond := [.code yX12_isClass cX12_isClass 2 (some .boolean), .fieldLink RX12 295 "PhraseDeskModel" "classes" "I"]
def wqM_isClass : List Cond := wqM_isClass0 ++ wsX120
set_option maxHeartbeats 4000000 in
set_option maxRecDepth 100000 in
theorem M_isClass (l : Launch) (D : va_G) (cy : Nat → ClassId) (sz0 : Nat) (sa : Nat → Nat) (ad : Nat → Nat) (st : Nat → Int32) (ar : Nat → Nat → Int32) (lo : Nat → Nat → Int64) (re : Nat → UInt64) (sz : Nat) (k0 : Int32) (hpre : True) : Met l yX12_isClass wqM_isClass ({ frames := 0, cells := 0, slots := 0, locals := 0 }) (PcW D cy sz0 sa [.ref (ad 0), .int k0] (MW cy ad st ar lo re) sz) (va_Qi (fun (r : Int32) (u : Unit) => (r = 1 ∧ 0 ≤ k0.toInt ∧ k0.toInt < (st 35).toInt) ∨ (r = 0 ∧ (k0.toInt < 0 ∨ (st 35).toInt ≤ k0.toInt))) (fun (u : Unit) (t : State) => BW D (MW cy ad st ar lo re) (va_A (MW cy ad st ar lo re) sz) t) (va_A (MW cy ad st ar lo re) sz)) 0 0 (va_A (MW cy ad st ar lo re) sz) := by
  refine Met.ofW (cc := cX12_isClass) (maxL := 2) (ret := (some .boolean)) (by decide) rfl ?_
  intro p e s m args below meth c s₁ B hml hv
  obtain ⟨rfl, hsz, hP, hD0, hE⟩ := hv
  have hx := B.exec
  have hb := B.bytes
  have hr := B.returns
  have hts := atoms_spec (ws := wqM_isClass) B.pre
  have hown : s.vm.findClass RX12 = some m.cls := findClass_of_methodNamed B.named
  have hlocks := B.notSynchronized
  subst hsz
  have hK := hE.1
  have hD := hD0.self (sz := s.heap.size)
  have hAF := frA hD0 hE.2.1
  generalize hAe : va_A (MW cy ad st ar lo re) s.heap.size = A at hD hAF ⊢
  have hA : ∀ q : Nat, s.heap.size ≤ q → A q := fun q h => by rw [← hAe]; exact Or.inr h
  have hS : va_S A s.heap s.heap [] := va_S.rf
  have hl := lv_entry ([.ref (ad 0), .int k0]) (n := 2) (Nat.le_of_ble_eq_true rfl)
  rw [lg_entry_eq]
  generalize (lg_sl ([.ref (ad 0), .int k0]) ++ List.replicate (2 - (lg_sl ([.ref (ad 0), .int k0])).length) Slot.unset).toArray = ls at hl ⊢
  have hl : lv_has ls 2 [(0, .ref (ad 0)), (1, .int k0)] := hl
  refine lv_iload_n hx hb dX12_isClass_0 rfl (lv_at hl 1 rfl) ?_
  refine lv_if_lt (tgt := 16) hx hb dX12_isClass_1 (by decide) (fun c1 => ?_) (fun c1 => ?_)
  · have c1 : k0.toInt < (0) := by have h := z_lt c1; rw [show (0 : Int32).toInt = 0 from by decide +kernel] at h; exact h
    refine lv_iconst (v := 0) hx hb dX12_isClass_16 (by decide +kernel) ?_
    refine W.widen (k := 0) (n := 0) (Nat.le_of_ble_eq_true rfl) (Nat.le_of_ble_eq_true rfl) ?_
    exact W.zret (v := 0) (ty := .boolean) hx hb hr (rfl) (fun t ht hW => ⟨⟨0, (), rfl, (v_isClass_1 st ar lo re k0 hpre c1), by rw [ht]; exact hP, hD⟩, hS.F ht⟩) hS.2.2 dX12_isClass_17
  · have c1 : (0) ≤ k0.toInt := by have h := z_nlt c1; rw [show (0 : Int32).toInt = 0 from by decide +kernel] at h; exact h
    refine lv_iload_n hx hb dX12_isClass_4 rfl (lv_at hl 1 rfl) ?_
    refine lv_aload_n hx hb dX12_isClass_5 rfl (lv_at hl 0 rfl) ?_
    refine va_get (D := D) (ci := 14) (v := .int (st 35)) (C := RX12) (T := TX12) (N := 60) hx hb hts (fun _ h => (List.mem_append_right _ h)) hown hK hP 0 rfl rfl 35 (by decide) (hts (.fieldLink RX12 295 "PhraseDeskModel" "classes" "I") (List.mem_of_getElem? (i := 1) rfl)) (fun _ h9 => h9) rfl dX12_isClass_6 ?_
    refine lv_icmp_ge (tgt := 16) hx hb dX12_isClass_9 (by decide) (fun c2 => ?_) (fun c2 => ?_)
    · have c2 : (st 35).toInt ≤ k0.toInt := by have h := z_le c2; exact h
      refine lv_iconst (v := 0) hx hb dX12_isClass_16 (by decide +kernel) ?_
      refine W.widen (k := 0) (n := 0) (Nat.le_of_ble_eq_true rfl) (Nat.le_of_ble_eq_true rfl) ?_
      exact W.zret (v := 0) (ty := .boolean) hx hb hr (rfl) (fun t ht hW => ⟨⟨0, (), rfl, (v_isClass_2 st ar lo re k0 hpre c1 c2), by rw [ht]; exact hP, hD⟩, hS.F ht⟩) hS.2.2 dX12_isClass_17
    · have c2 : k0.toInt < (st 35).toInt := by have h := z_nle c2; exact h
      refine lv_iconst (v := 1) hx hb dX12_isClass_12 (by decide +kernel) ?_
      refine lv_goto (tgt := 17) hx hb dX12_isClass_13 (by decide) ?_
      refine W.widen (k := 0) (n := 0) (Nat.le_of_ble_eq_true rfl) (Nat.le_of_ble_eq_true rfl) ?_
      exact W.zret (v := 1) (ty := .boolean) hx hb hr (rfl) (fun t ht hW => ⟨⟨1, (), rfl, (v_isClass_3 st ar lo re k0 hpre c1 c2), by rw [ht]; exact hP, hD⟩, hS.F ht⟩) hS.2.2 dX12_isClass_17

def wqM_placeOf0 : List Cond := [.code yX12_placeOf cX12_placeOf 4 (some .int), .fieldLink RX12 431 "PhraseDeskModel" "variables" "I", .fieldLink RX12 108 "PhraseDeskModel" "variable" "[I"]
def wqM_placeOf : List Cond := wqM_placeOf0 ++ wsX120
set_option maxHeartbeats 4000000 in
set_option maxRecDepth 100000 in
theorem L_placeOf_4_1 {p : Program} {e : Env} {s : State} {m : MethodId} {below : List Frame} {meth : Method} {c : Code} (l : Launch) (D : va_G) (cy : Nat → ClassId) (sz0 : Nat) (sa : Nat → Nat) (ad : Nat → Nat) (A : Nat → Prop) (st : Nat → Int32) (ar : Nat → Nat → Int32) (lo : Nat → Nat → Int64) (re : Nat → UInt64) (k0 : Int32) (hx : p.tables.exec = Jvm.exec) (hb : c.code = cX12_placeOf) (hr : meth.sig.returnType = (some .int)) (hml : c.maxLocals = 4) (hown : s.vm.findClass RX12 = some m.cls) (hts : ∀ w ∈ wqM_placeOf, w.before #[.ref (ad 0), .int k0] s = true) (hlocks : meth.locks = false) (hE : En D cy sz0 sa s) (hAF : ∀ q, A q → Fr sz0 q) (hA : ∀ q : Nat, s.heap.size ≤ q → A q) (hpre : 0 ≤ (st 49).toInt ∧ (st 49).toInt ≤ 12) : ∀ (n : Nat) (y1 : Int32) (y2 : Int32) (H : Heap) (locs : List Loc) (ls : Array Slot), ((st 49).toInt - y2.toInt).toNat < n → (0 ≤ y2.toInt ∧ y2.toInt ≤ (st 49).toInt ∧ (y1 = -1 ∨ (64 ≤ y1.toInt ∧ y1.toInt < 64 + (st 49).toInt))) → va_P D vwCl (MW cy ad st ar lo re) H → va_D A (MW cy ad st ar lo re) → va_S A s.heap H locs → lv_has ls 4 [(3, .int y2), (2, .int y1), (0, .ref (ad 0)), (1, .int k0)] → W p l e (headSpec wqM_placeOf ({ frames := 0, cells := 0, slots := 0, locals := 0 })).room s m #[.ref (ad 0), .int k0] below meth c H locs 0 0 (MQ below (va_Qi (fun (r : Int32) (u : Unit) => (r = -1 ∨ (64 ≤ r.toInt ∧ r.toInt < 64 + (st 49).toInt))) (fun (u : Unit) (t : State) => BW D (MW cy ad st ar lo re) A t) A) #[.ref (ad 0), .int k0] s 0 0 A) (F0 m 4 ls []) := by
  have hK := hE.1
  intro n
  induction n with
  | zero => intro y1 y2 H locs ls hn; exact absurd hn (Nat.not_lt_zero _)
  | succ n ih4 =>
    intro y1 y2 H locs ls hn4 hi4 hP hD hS hl
    refine lv_iload_n hx hb dX12_placeOf_4 rfl (lv_at hl 0 rfl) ?_
    refine lv_aload_n hx hb dX12_placeOf_5 rfl (lv_at hl 2 rfl) ?_
    refine va_get (D := D) (ci := 14) (v := .int (st 49)) (C := RX12) (T := TX12) (N := 60) hx hb hts (fun _ h => (List.mem_append_right _ h)) hown hK hP 0 rfl rfl 49 (by decide) (hts (.fieldLink RX12 431 "PhraseDeskModel" "variables" "I") (List.mem_of_getElem? (i := 1) rfl)) (fun _ h9 => h9) rfl dX12_placeOf_6 ?_
    refine lv_icmp_ge (tgt := 37) hx hb dX12_placeOf_9 (by decide) (fun c3 => ?_) (fun c3 => ?_)
    · have c3 : (st 49).toInt ≤ y2.toInt := by have h := z_le c3; exact h
      refine lv_iload_n hx hb dX12_placeOf_37 rfl (lv_at hl 1 rfl) ?_
      refine W.widen (k := 0) (n := 0) (Nat.le_of_ble_eq_true rfl) (Nat.le_of_ble_eq_true rfl) ?_
      exact W.iret (v := y1) hx hb hr (fun t ht hW => ⟨⟨y1, (), rfl, (v_placeOf_2 st ar lo re k0 y1 y2 hpre hi4 c3), by rw [ht]; exact hP, hD⟩, hS.F ht⟩) hS.2.2 dX12_placeOf_38
    · have c3 : y2.toInt < (st 49).toInt := by have h := z_nle c3; exact h
      refine lv_aload_n hx hb dX12_placeOf_12 rfl (lv_at hl 2 rfl) ?_
      refine va_get (D := D) (ci := 14) (v := .ref (ad 50)) (C := RX12) (T := TX12) (N := 60) hx hb hts (fun _ h => (List.mem_append_right _ h)) hown hK hP 0 rfl rfl 50 (by decide) (hts (.fieldLink RX12 108 "PhraseDeskModel" "variable" "[I") (List.mem_of_getElem? (i := 2) rfl)) (fun _ h9 => h9) rfl dX12_placeOf_13 ?_
      refine lv_iload_n hx hb dX12_placeOf_16 rfl (lv_at hl 0 rfl) ?_
      refine va_iald hx hb hK hP 33 0 rfl rfl (v_placeOf_3 st ar lo re k0 y1 y2 hpre hi4 c3) dX12_placeOf_17 ?_
      refine lv_topi (fun x4 ex4 => ?_)
      have ex4 : x4 = (ar 50) y2.toNatClampNeg := ex4
      refine lv_iload_n hx hb dX12_placeOf_18 rfl (lv_at hl 3 rfl) ?_
      refine lv_icmp_ne (tgt := 29) hx hb dX12_placeOf_19 (by decide) (fun c5 => ?_) (fun c5 => ?_)
      · have c5 : ¬ x4.toInt = k0.toInt := by have h := z_ne c5; exact h
        refine lv_iload_n hx hb dX12_placeOf_29 rfl (lv_at hl 1 rfl) ?_
        refine lv_istore_n (lv' := [(2, .int y1), (3, .int y2), (0, .ref (ad 0)), (1, .int k0)]) hx hb dX12_placeOf_30 rfl hl (by decide) rfl (fun ls hl => ?_)
        obtain ⟨x6, ex6⟩ : ∃ y : Int32, y = y2 + 1 := ⟨_, rfl⟩
        have tx6 := (v_placeOf_4 st ar lo re k0 y1 y2 x4 x6 hpre hi4 c3 ex4 c5 ex6)
        refine lv_iinc (v := x6) (lv' := [(3, .int x6), (2, .int y1), (0, .ref (ad 0)), (1, .int k0)]) hx hb dX12_placeOf_31 hl (k := 1) rfl (by rw [ex6]; rfl) (by decide) rfl (fun ls hl => ?_)
        refine lv_goto (tgt := 4) hx hb dX12_placeOf_34 (by decide) ?_
        exact ih4 y1 x6 _ _ _ (Nat.lt_of_lt_of_le (v_placeOf_6 st ar lo re k0 y1 y2 x4 x6 hpre hi4 c3 ex4 c5 ex6 tx6) (Nat.le_of_lt_succ hn4)) (v_placeOf_5 st ar lo re k0 y1 y2 x4 x6 hpre hi4 c3 ex4 c5 ex6 tx6) hP hD hS (lv_sub hl [0, 1, 2, 3] rfl)
      · have c5 : x4.toInt = k0.toInt := by have h := z_eq c5; exact h
        refine lv_bipush (v := 64) hx hb dX12_placeOf_22 (by decide +kernel) ?_
        refine lv_iload_n hx hb dX12_placeOf_24 rfl (lv_at hl 0 rfl) ?_
        refine lv_iadd hx hb dX12_placeOf_25 ?_
        refine lv_topi (fun x7 ex7 => ?_)
        have tx7 := (v_placeOf_7 st ar lo re k0 y1 y2 x4 x7 hpre hi4 c3 ex4 c5 ex7)
        refine lv_goto (tgt := 30) hx hb dX12_placeOf_26 (by decide) ?_
        refine lv_istore_n (lv' := [(2, .int x7), (3, .int y2), (0, .ref (ad 0)), (1, .int k0)]) hx hb dX12_placeOf_30 rfl hl (by decide) rfl (fun ls hl => ?_)
        obtain ⟨x8, ex8⟩ : ∃ y : Int32, y = y2 + 1 := ⟨_, rfl⟩
        have tx8 := (v_placeOf_8 st ar lo re k0 y1 y2 x4 x7 x8 hpre hi4 c3 ex4 c5 ex7 tx7 ex8)
        refine lv_iinc (v := x8) (lv' := [(3, .int x8), (2, .int x7), (0, .ref (ad 0)), (1, .int k0)]) hx hb dX12_placeOf_31 hl (k := 1) rfl (by rw [ex8]; rfl) (by decide) rfl (fun ls hl => ?_)
        refine lv_goto (tgt := 4) hx hb dX12_placeOf_34 (by decide) ?_
        exact ih4 x7 x8 _ _ _ (Nat.lt_of_lt_of_le (v_placeOf_10 st ar lo re k0 y1 y2 x4 x7 x8 hpre hi4 c3 ex4 c5 ex7 tx7 ex8 tx8) (Nat.le_of_lt_succ hn4)) (v_placeOf_9 st ar lo re k0 y1 y2 x4 x7 x8 hpre hi4 c3 ex4 c5 ex7 tx7 ex8 tx8) hP hD hS (lv_sub hl [0, 1, 2, 3] rfl)
set_option maxHeartbeats 4000000 in
set_option maxRecDepth 100000 in
theorem M_placeOf (l : Launch) (D : va_G) (cy : Nat → ClassId) (sz0 : Nat) (sa : Nat → Nat) (ad : Nat → Nat) (st : Nat → Int32) (ar : Nat → Nat → Int32) (lo : Nat → Nat → Int64) (re : Nat → UInt64) (sz : Nat) (k0 : Int32) (hpre : 0 ≤ (st 49).toInt ∧ (st 49).toInt ≤ 12) : Met l yX12_placeOf wqM_placeOf ({ frames := 0, cells := 0, slots := 0, locals := 0 }) (PcW D cy sz0 sa [.ref (ad 0), .int k0] (MW cy ad st ar lo re) sz) (va_Qi (fun (r : Int32) (u : Unit) => (r = -1 ∨ (64 ≤ r.toInt ∧ r.toInt < 64 + (st 49).toInt))) (fun (u : Unit) (t : State) => BW D (MW cy ad st ar lo re) (va_A (MW cy ad st ar lo re) sz) t) (va_A (MW cy ad st ar lo re) sz)) 0 0 (va_A (MW cy ad st ar lo re) sz) := by
  refine Met.ofW (cc := cX12_placeOf) (maxL := 4) (ret := (some .int)) (by decide) rfl ?_
  intro p e s m args below meth c s₁ B hml hv
  obtain ⟨rfl, hsz, hP, hD0, hE⟩ := hv
  have hx := B.exec
  have hb := B.bytes
  have hr := B.returns
  have hts := atoms_spec (ws := wqM_placeOf) B.pre
  have hown : s.vm.findClass RX12 = some m.cls := findClass_of_methodNamed B.named
  have hlocks := B.notSynchronized
  subst hsz
  have hK := hE.1
  have hD := hD0.self (sz := s.heap.size)
  have hAF := frA hD0 hE.2.1
  generalize hAe : va_A (MW cy ad st ar lo re) s.heap.size = A at hD hAF ⊢
  have hA : ∀ q : Nat, s.heap.size ≤ q → A q := fun q h => by rw [← hAe]; exact Or.inr h
  have hS : va_S A s.heap s.heap [] := va_S.rf
  have hl := lv_entry ([.ref (ad 0), .int k0]) (n := 4) (Nat.le_of_ble_eq_true rfl)
  rw [lg_entry_eq]
  generalize (lg_sl ([.ref (ad 0), .int k0]) ++ List.replicate (4 - (lg_sl ([.ref (ad 0), .int k0])).length) Slot.unset).toArray = ls at hl ⊢
  have hl : lv_has ls 4 [(0, .ref (ad 0)), (1, .int k0)] := hl
  refine lv_iconst (v := (-1)) hx hb dX12_placeOf_0 (by decide +kernel) ?_
  refine lv_istore_n (lv' := [(2, .int (-1)), (0, .ref (ad 0)), (1, .int k0)]) hx hb dX12_placeOf_1 rfl hl (by decide) rfl (fun ls hl => ?_)
  refine lv_iconst (v := 0) hx hb dX12_placeOf_2 (by decide +kernel) ?_
  refine lv_istore_n (lv' := [(3, .int 0), (2, .int (-1)), (0, .ref (ad 0)), (1, .int k0)]) hx hb dX12_placeOf_3 rfl hl (by decide) rfl (fun ls hl => ?_)
  exact L_placeOf_4_1 l D cy sz0 sa ad A st ar lo re k0 hx hb hr hml hown hts hlocks hE hAF hA hpre (((st 49).toInt - (0 : Int32).toInt).toNat + 1) (-1) 0 _ _ _ (Nat.lt_succ_self _) (v_placeOf_1 st ar lo re k0 hpre) hP hD hS (lv_sub hl [0, 1, 2, 3] rfl)
