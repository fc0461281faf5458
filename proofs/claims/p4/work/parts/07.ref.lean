theorem z_l2i {x : Int32} {y : Int64} (e : x = Int64.toInt32 y) : -2147483648 ≤ y.toInt → y.toInt < 2147483648 → x.toInt = y.toInt := by
  intro h1 h2
  rw [e, Int64.toInt_toInt32]
  exact Int.bmod_eq_of_le (by omega) (by omega)
theorem z_lcmp {x : Int32} {a b : Int64} {p q : Int} (e : x = lg_cmp a b) (ha : a.toInt = p) (hb : b.toInt = q) : (x.toInt = 0 ↔ p = q) ∧ (x.toInt < 0 ↔ p < q) := by
  subst e
  rw [← ha, ← hb]
  unfold lg_cmp
  have h1 : ∀ u w : Int64, u < w ↔ u.toInt < w.toInt := fun u w => Int64.lt_iff_toInt_lt
  have z1 : (1 : Int32).toInt = 1 := by decide +kernel
  have z0 : (0 : Int32).toInt = 0 := by decide +kernel
  have zm : (-1 : Int32).toInt = -1 := by decide +kernel
  split
  · rename_i c1; have c2 := (h1 _ _).mp c1; rw [z1]; omega
  · rename_i c1
    have c2 : ¬ b.toInt < a.toInt := fun h => c1 ((h1 _ _).mpr h)
    split
    · rename_i c3; subst c3; rw [z0]; omega
    · rename_i c3
      have c4 : ¬ a.toInt = b.toInt := fun h => c3 (Int64.toInt_inj.mp h)
      rw [zm]; omega
theorem zl_add {x y : Int64} (h1 : -9223372036854775808 ≤ x.toInt + y.toInt) (h2 : x.toInt + y.toInt < 9223372036854775808) : (x + y).toInt = x.toInt + y.toInt := by
  rw [Int64.toInt_add]; exact Int.bmod_eq_of_le (by omega) (by omega)
theorem zl_sub {x y : Int64} (h1 : -9223372036854775808 ≤ x.toInt - y.toInt) (h2 : x.toInt - y.toInt < 9223372036854775808) : (x - y).toInt = x.toInt - y.toInt := by
  rw [Int64.toInt_sub]; exact Int.bmod_eq_of_le (by omega) (by omega)
theorem zl_mul {x y : Int64} {c : Int} (hc : x.toInt = c) (h1 : -9223372036854775808 ≤ c * y.toInt) (h2 : c * y.toInt < 9223372036854775808) : (x * y).toInt = c * y.toInt := by
  rw [Int64.toInt_mul, hc]; exact Int.bmod_eq_of_le (by omega) (by omega)
theorem clampN (x : Int32) : x.toNatClampNeg = x.toInt.toNat := rfl
theorem upd_eq {f : Nat → Int32} {k : Nat} {v : Int32} : upd f k v k = v := by simp [upd]
theorem upd_ne {f : Nat → Int32} {k j : Nat} {v : Int32} (h : ¬ j = k) : upd f k v j = f j := by simp [upd, h]
theorem updL_eq {f : Nat → Int64} {k : Nat} {v : Int64} : vp_updL f k v k = v := by simp [vp_updL]
theorem updL_ne {f : Nat → Int64} {k j : Nat} {v : Int64} (h : ¬ j = k) : vp_updL f k v j = f j := by simp [vp_updL, h]
def TKok (tk : Nat → Int32) (tv : Nat → Int64) (ts : Nat → Int32) (n : Int) : Prop := ∀ i : Nat, (i : Int) < n → 1 ≤ (tk i).toInt ∧ (tk i).toInt ≤ 5 ∧ ((tk i).toInt = 2 → 1 ≤ (ts i).toInt ∧ (ts i).toInt ≤ 3) ∧ ((tk i).toInt = 3 → 0 ≤ (tv i).toInt ∧ (tv i).toInt ≤ 14348906)
theorem tk_add {tk : Nat → Int32} {tv : Nat → Int64} {ts : Nat → Int32} {n m : Int} {i : Nat} {k s : Int32} {v : Int64} (h : TKok tk tv ts n) (hm : m = n + 1) (hi : (i : Int) = n) (h1 : 1 ≤ k.toInt ∧ k.toInt ≤ 5) (h2 : k.toInt = 2 → 1 ≤ s.toInt ∧ s.toInt ≤ 3) (h3 : k.toInt = 3 → 0 ≤ v.toInt ∧ v.toInt ≤ 14348906) : TKok (upd tk i k) (vp_updL tv i v) (upd ts i s) m := by
  intro j hj
  by_cases e : j = i
  · subst e; rw [upd_eq, upd_eq, updL_eq]; exact ⟨h1.1, h1.2, h2, h3⟩
  · rw [upd_ne e, upd_ne e, updL_ne e]; exact h j (by omega)
theorem clampZ {x : Int32} (h : 0 ≤ x.toInt) : (x.toNatClampNeg : Int) = x.toInt := by rw [clampN]; omega
theorem tk_add2 {tk : Nat → Int32} {tv : Nat → Int64} {ts : Nat → Int32} {n m : Int} {i i' : Nat} {k s z : Int32} {v : Int64} (h : TKok tk tv ts n) (hm : m = n + 1) (hi : (i : Int) = n) (hi' : (i' : Int) = n) (h1 : 1 ≤ k.toInt ∧ k.toInt ≤ 5) (h2 : k.toInt = 2 → 1 ≤ s.toInt ∧ s.toInt ≤ 3) (h3 : k.toInt = 3 → 0 ≤ v.toInt ∧ v.toInt ≤ 14348906) : TKok (upd tk i k) (vp_updL tv i v) (upd (upd ts i z) i' s) m := by
  obtain rfl : i' = i := by omega
  intro j hj
  by_cases e : j = i'
  · subst e; rw [upd_eq, upd_eq, updL_eq]; exact ⟨h1.1, h1.2, h2, h3⟩
  · rw [upd_ne e, upd_ne e, upd_ne e, updL_ne e]; exact h j (by omega)
theorem tk_end {tk : Nat → Int32} {tv : Nat → Int64} {ts : Nat → Int32} {n : Int} {i : Nat} {k s : Int32} {v : Int64} (h : TKok tk tv ts n) (hi : (i : Int) = n) : TKok (upd tk i k) (vp_updL tv i v) (upd ts i s) n := by
  intro j hj
  have e : ¬ j = i := by omega
  rw [upd_ne e, upd_ne e, updL_ne e]; exact h j hj
/-- the reference's world: addresses by field, ints and booleans st, their rows ar, long rows lo, the row of doubles re -/
def MW (cy : Nat → ClassId) (ad : Nat → Nat) (st : Nat → Int32) (ar : Nat → Nat → Int32) (lo : Nat → Nat → Int64) (re : Nat → UInt64) : va_W := [(ad 0, .inr (14, [.int (st 0), .int (st 1), .ref (ad 2), .int (st 3), .ref (ad 4), .ref (ad 5), .ref (ad 6), .ref (ad 7), .int (st 8), .int (st 9), .int (st 10), .ref (ad 11), .ref (ad 12), .ref (ad 13), .int (st 14), .int (st 15), .int (st 16), .int (st 17), .int (st 18), .int (st 19), .ref (ad 20), .ref (ad 21), .ref (ad 22), .ref (ad 23), .ref (ad 24), .ref (ad 25), .ref (ad 26), .ref (ad 27), .ref (ad 28), .int (st 29), .ref (ad 30), .ref (ad 31), .ref (ad 32), .int (st 33), .int (st 34), .int (st 35), .ref (ad 36), .ref (ad 37), .ref (ad 38), .ref (ad 39), .ref (ad 40), .ref (ad 41), .ref (ad 42), .ref (ad 43), .ref (ad 44), .ref (ad 45), .ref (ad 46), .int (st 47), .ref (ad 48), .int (st 49), .ref (ad 50), .ref (ad 51), .ref (ad 52), .ref (ad 53), .ref (ad 54), .int (st 55), .int (st 56), .int (st 57), .ref (ad 58), .int (st 59)])), (ad 2, .inl (cy 0, 40, .inl (ar 2))), (ad 4, .inl (cy 0, 42, .inl (ar 4))), (ad 5, .inl (cy 0, 42, .inl (ar 5))), (ad 6, .inl (cy 1, 42, .inr (.inl (lo 6)))), (ad 7, .inl (cy 0, 42, .inl (ar 7))), (ad 11, .inl (cy 0, 3600, .inl (ar 11))), (ad 12, .inl (cy 1, 3600, .inr (.inl (lo 12)))), (ad 13, .inl (cy 0, 40, .inl (ar 13))), (ad 20, .inl (cy 0, 8, .inl (ar 20))), (ad 21, .inl (cy 0, 8, .inl (ar 21))), (ad 22, .inl (cy 0, 8, .inl (ar 22))), (ad 23, .inl (cy 0, 8, .inl (ar 23))), (ad 24, .inl (cy 0, 8, .inl (ar 24))), (ad 25, .inl (cy 0, 8, .inl (ar 25))), (ad 26, .inl (cy 2, 8, .inl (ar 26))), (ad 27, .inl (cy 2, 8, .inl (ar 27))), (ad 28, .inl (cy 2, 8, .inl (ar 28))), (ad 30, .inl (cy 0, 48, .inl (ar 30))), (ad 31, .inl (cy 0, 48, .inl (ar 31))), (ad 32, .inl (cy 0, 48, .inl (ar 32))), (ad 36, .inl (cy 0, 5, .inl (ar 36))), (ad 37, .inl (cy 0, 5, .inl (ar 37))), (ad 38, .inl (cy 0, 30, .inl (ar 38))), (ad 39, .inl (cy 0, 30, .inl (ar 39))), (ad 40, .inl (cy 0, 5, .inl (ar 40))), (ad 41, .inl (cy 0, 30, .inl (ar 41))), (ad 42, .inl (cy 0, 30, .inl (ar 42))), (ad 43, .inl (cy 0, 30, .inl (ar 43))), (ad 44, .inl (cy 0, 30, .inl (ar 44))), (ad 45, .inl (cy 0, 30, .inl (ar 45))), (ad 46, .inl (cy 2, 65, .inl (ar 46))), (ad 48, .inl (cy 0, 30, .inl (ar 48))), (ad 50, .inl (cy 0, 12, .inl (ar 50))), (ad 51, .inl (cy 0, 980, .inl (ar 51))), (ad 52, .inl (cy 1, 980, .inr (.inl (lo 52)))), (ad 53, .inl (cy 1, 980, .inr (.inl (lo 53)))), (ad 54, .inl (cy 3, 980, .inr (.inr (.inr (.inl re))))), (ad 58, .inl (cy 0, 48, .inl (ar 58)))]
def updA (ar : Nat → Nat → Int32) (k : Nat) (F : Nat → Int32) : Nat → Nat → Int32 := fun j => if j = k then F else ar j
def updJ (lo : Nat → Nat → Int64) (k : Nat) (F : Nat → Int64) : Nat → Nat → Int64 := fun j => if j = k then F else lo j
theorem freeAll {A0 : Nat → Prop} {ws : va_W} {H0 H : Heap} {locs : List Loc} (hD : va_D A0 ws) (hS : va_S A0 H0 H locs) (hA : ∀ q, H0.size ≤ q → A0 q) : ∀ q, va_A ws H.size q → A0 q := by
  intro q h
  rcases h with ⟨k, e, h⟩ | h
  · exact hD.2 k (q, e) h
  · exact hA q (Nat.le_trans hS.1 h)
theorem v_thrown_1 (st : Nat → Int32) (ar : Nat → Nat → Int32) (lo : Nat → Nat → Int64) (re : Nat → UInt64) (hpre : True) : (st 0) = (st 0) := by
  first | trivial | omega | (simp; done) | (simp; omega) | (simp_all; done) | (simp_all; omega)
theorem v_at_1 (st : Nat → Int32) (ar : Nat → Nat → Int32) (lo : Nat → Nat → Int64) (re : Nat → UInt64) (k0 : Int32) (hpre : 0 ≤ (st 1).toInt ∧ (st 1).toInt ≤ 40 ∧ 0 ≤ k0.toInt) (c1 : (st 1).toInt ≤ k0.toInt) : (k0.toInt < (st 1).toInt ∧ (0 : Int32).toInt = ((ar 2) k0.toNatClampNeg).toInt) ∨ ((st 1).toInt ≤ k0.toInt ∧ (0 : Int32).toInt = 0) := by
  have q0 : (0 : Int32).toInt = 0 := by decide +kernel
  first | trivial | omega | (simp; done) | (simp; omega) | (simp_all; done) | (simp_all; omega)
theorem v_at_2 (st : Nat → Int32) (ar : Nat → Nat → Int32) (lo : Nat → Nat → Int64) (re : Nat → UInt64) (k0 : Int32) (hpre : 0 ≤ (st 1).toInt ∧ (st 1).toInt ≤ 40 ∧ 0 ≤ k0.toInt) (c1 : k0.toInt < (st 1).toInt) : vp_in k0 40 := by
  exact vp_in_iff.mpr ⟨by  omega, by  omega⟩
theorem v_at_3 (st : Nat → Int32) (ar : Nat → Nat → Int32) (lo : Nat → Nat → Int64) (re : Nat → UInt64) (k0 : Int32) (x2 : Int32) (hpre : 0 ≤ (st 1).toInt ∧ (st 1).toInt ≤ 40 ∧ 0 ≤ k0.toInt) (c1 : k0.toInt < (st 1).toInt) (ex2 : x2 = (ar 2) k0.toNatClampNeg) : (k0.toInt < (st 1).toInt ∧ x2.toInt = ((ar 2) k0.toNatClampNeg).toInt) ∨ ((st 1).toInt ≤ k0.toInt ∧ x2.toInt = 0) := by
  first | trivial | omega | (simp; done) | (simp; omega) | (simp_all; done) | (simp_all; omega)
theorem v_lower_1 (st : Nat → Int32) (ar : Nat → Nat → Int32) (lo : Nat → Nat → Int64) (re : Nat → UInt64) (k0 : Int32) (hpre : 0 ≤ (st 1).toInt ∧ (st 1).toInt ≤ 40 ∧ 0 ≤ k0.toInt) : 0 ≤ (st 1).toInt ∧ (st 1).toInt ≤ 40 ∧ 0 ≤ k0.toInt := by
  first | trivial | omega | (simp; done) | (simp; omega) | (simp_all; done) | (simp_all; omega)
theorem v_lower_2 (st : Nat → Int32) (ar : Nat → Nat → Int32) (lo : Nat → Nat → Int64) (re : Nat → UInt64) (k0 : Int32) (r1 : Int32) (hpre : 0 ≤ (st 1).toInt ∧ (st 1).toInt ≤ 40 ∧ 0 ≤ k0.toInt) (hr1 : (k0.toInt < (st 1).toInt ∧ r1.toInt = ((ar 2) k0.toNatClampNeg).toInt) ∨ ((st 1).toInt ≤ k0.toInt ∧ r1.toInt = 0)) (c2 : r1.toInt < (97)) : ((0 : Int32).toInt = 0 ∧ ¬ (k0.toInt < (st 1).toInt ∧ 97 ≤ ((ar 2) k0.toNatClampNeg).toInt ∧ ((ar 2) k0.toNatClampNeg).toInt ≤ 122)) ∨ ((0 : Int32).toInt = 1 ∧ (k0.toInt < (st 1).toInt ∧ 97 ≤ ((ar 2) k0.toNatClampNeg).toInt ∧ ((ar 2) k0.toNatClampNeg).toInt ≤ 122)) := by
  have q0 : (0 : Int32).toInt = 0 := by decide +kernel
  first | trivial | omega | (simp; done) | (simp; omega) | (simp_all; done) | (simp_all; omega)
theorem v_lower_3 (st : Nat → Int32) (ar : Nat → Nat → Int32) (lo : Nat → Nat → Int64) (re : Nat → UInt64) (k0 : Int32) (r1 : Int32) (hpre : 0 ≤ (st 1).toInt ∧ (st 1).toInt ≤ 40 ∧ 0 ≤ k0.toInt) (hr1 : (k0.toInt < (st 1).toInt ∧ r1.toInt = ((ar 2) k0.toNatClampNeg).toInt) ∨ ((st 1).toInt ≤ k0.toInt ∧ r1.toInt = 0)) (c2 : (97) ≤ r1.toInt) : 0 ≤ (st 1).toInt ∧ (st 1).toInt ≤ 40 ∧ 0 ≤ k0.toInt := by
  first | trivial | omega | (simp; done) | (simp; omega) | (simp_all; done) | (simp_all; omega)
theorem v_lower_4 (st : Nat → Int32) (ar : Nat → Nat → Int32) (lo : Nat → Nat → Int64) (re : Nat → UInt64) (k0 : Int32) (r1 : Int32) (r3 : Int32) (hpre : 0 ≤ (st 1).toInt ∧ (st 1).toInt ≤ 40 ∧ 0 ≤ k0.toInt) (hr1 : (k0.toInt < (st 1).toInt ∧ r1.toInt = ((ar 2) k0.toNatClampNeg).toInt) ∨ ((st 1).toInt ≤ k0.toInt ∧ r1.toInt = 0)) (c2 : (97) ≤ r1.toInt) (hr3 : (k0.toInt < (st 1).toInt ∧ r3.toInt = ((ar 2) k0.toNatClampNeg).toInt) ∨ ((st 1).toInt ≤ k0.toInt ∧ r3.toInt = 0)) (c4 : (122) < r3.toInt) : ((0 : Int32).toInt = 0 ∧ ¬ (k0.toInt < (st 1).toInt ∧ 97 ≤ ((ar 2) k0.toNatClampNeg).toInt ∧ ((ar 2) k0.toNatClampNeg).toInt ≤ 122)) ∨ ((0 : Int32).toInt = 1 ∧ (k0.toInt < (st 1).toInt ∧ 97 ≤ ((ar 2) k0.toNatClampNeg).toInt ∧ ((ar 2) k0.toNatClampNeg).toInt ≤ 122)) := by
  have q0 : (0 : Int32).toInt = 0 := by decide +kernel
  first | trivial | omega | (simp; done) | (simp; omega) | (simp_all; done) | (simp_all; omega)
theorem v_lower_5 (st : Nat → Int32) (ar : Nat → Nat → Int32) (lo : Nat → Nat → Int64) (re : Nat → UInt64) (k0 : Int32) (r1 : Int32) (r3 : Int32) (hpre : 0 ≤ (st 1).toInt ∧ (st 1).toInt ≤ 40 ∧ 0 ≤ k0.toInt) (hr1 : (k0.toInt < (st 1).toInt ∧ r1.toInt = ((ar 2) k0.toNatClampNeg).toInt) ∨ ((st 1).toInt ≤ k0.toInt ∧ r1.toInt = 0)) (c2 : (97) ≤ r1.toInt) (hr3 : (k0.toInt < (st 1).toInt ∧ r3.toInt = ((ar 2) k0.toNatClampNeg).toInt) ∨ ((st 1).toInt ≤ k0.toInt ∧ r3.toInt = 0)) (c4 : r3.toInt ≤ (122)) : ((1 : Int32).toInt = 0 ∧ ¬ (k0.toInt < (st 1).toInt ∧ 97 ≤ ((ar 2) k0.toNatClampNeg).toInt ∧ ((ar 2) k0.toNatClampNeg).toInt ≤ 122)) ∨ ((1 : Int32).toInt = 1 ∧ (k0.toInt < (st 1).toInt ∧ 97 ≤ ((ar 2) k0.toNatClampNeg).toInt ∧ ((ar 2) k0.toNatClampNeg).toInt ≤ 122)) := by
  have q1 : (1 : Int32).toInt = 1 := by decide +kernel
  first | trivial | omega | (simp; done) | (simp; omega) | (simp_all; done) | (simp_all; omega)
theorem v_wrong_1 (st : Nat → Int32) (ar : Nat → Nat → Int32) (lo : Nat → Nat → Int64) (re : Nat → UInt64) (k0 : Int32) (k1 : Int32) (hpre : True) (c1 : ¬ (st 8).toInt = (0)) : ((st 8).toInt = 0 → (st 8) = k0) ∧ (¬ (st 8).toInt = 0 → (st 8) = (st 8)) := by
  first | trivial | omega | (simp; done) | (simp; omega) | (simp_all; done) | (simp_all; omega)
theorem v_wrong_2 (st : Nat → Int32) (ar : Nat → Nat → Int32) (lo : Nat → Nat → Int64) (re : Nat → UInt64) (k0 : Int32) (k1 : Int32) (hpre : True) (c1 : (st 8).toInt = (0)) : ((st 8).toInt = 0 → k0 = k0) ∧ (¬ (st 8).toInt = 0 → k0 = (st 8)) := by
  first | trivial | omega | (simp; done) | (simp; omega) | (simp_all; done) | (simp_all; omega)
theorem v_digit_1 (st : Nat → Int32) (ar : Nat → Nat → Int32) (lo : Nat → Nat → Int64) (re : Nat → UInt64) (k0 : Int32) (hpre : 0 ≤ (st 1).toInt ∧ (st 1).toInt ≤ 40 ∧ 0 ≤ k0.toInt) : 0 ≤ (st 1).toInt ∧ (st 1).toInt ≤ 40 ∧ 0 ≤ k0.toInt := by
  first | trivial | omega | (simp; done) | (simp; omega) | (simp_all; done) | (simp_all; omega)
theorem v_digit_2 (st : Nat → Int32) (ar : Nat → Nat → Int32) (lo : Nat → Nat → Int64) (re : Nat → UInt64) (k0 : Int32) (r1 : Int32) (hpre : 0 ≤ (st 1).toInt ∧ (st 1).toInt ≤ 40 ∧ 0 ≤ k0.toInt) (hr1 : (k0.toInt < (st 1).toInt ∧ r1.toInt = ((ar 2) k0.toNatClampNeg).toInt) ∨ ((st 1).toInt ≤ k0.toInt ∧ r1.toInt = 0)) (c2 : r1.toInt < (48)) : ((0 : Int32).toInt = 0 ∧ ¬ (k0.toInt < (st 1).toInt ∧ 48 ≤ ((ar 2) k0.toNatClampNeg).toInt ∧ ((ar 2) k0.toNatClampNeg).toInt ≤ 57)) ∨ ((0 : Int32).toInt = 1 ∧ (k0.toInt < (st 1).toInt ∧ 48 ≤ ((ar 2) k0.toNatClampNeg).toInt ∧ ((ar 2) k0.toNatClampNeg).toInt ≤ 57)) := by
  have q0 : (0 : Int32).toInt = 0 := by decide +kernel
  first | trivial | omega | (simp; done) | (simp; omega) | (simp_all; done) | (simp_all; omega)
theorem v_digit_3 (st : Nat → Int32) (ar : Nat → Nat → Int32) (lo : Nat → Nat → Int64) (re : Nat → UInt64) (k0 : Int32) (r1 : Int32) (hpre : 0 ≤ (st 1).toInt ∧ (st 1).toInt ≤ 40 ∧ 0 ≤ k0.toInt) (hr1 : (k0.toInt < (st 1).toInt ∧ r1.toInt = ((ar 2) k0.toNatClampNeg).toInt) ∨ ((st 1).toInt ≤ k0.toInt ∧ r1.toInt = 0)) (c2 : (48) ≤ r1.toInt) : 0 ≤ (st 1).toInt ∧ (st 1).toInt ≤ 40 ∧ 0 ≤ k0.toInt := by
  first | trivial | omega | (simp; done) | (simp; omega) | (simp_all; done) | (simp_all; omega)
theorem v_digit_4 (st : Nat → Int32) (ar : Nat → Nat → Int32) (lo : Nat → Nat → Int64) (re : Nat → UInt64) (k0 : Int32) (r1 : Int32) (r3 : Int32) (hpre : 0 ≤ (st 1).toInt ∧ (st 1).toInt ≤ 40 ∧ 0 ≤ k0.toInt) (hr1 : (k0.toInt < (st 1).toInt ∧ r1.toInt = ((ar 2) k0.toNatClampNeg).toInt) ∨ ((st 1).toInt ≤ k0.toInt ∧ r1.toInt = 0)) (c2 : (48) ≤ r1.toInt) (hr3 : (k0.toInt < (st 1).toInt ∧ r3.toInt = ((ar 2) k0.toNatClampNeg).toInt) ∨ ((st 1).toInt ≤ k0.toInt ∧ r3.toInt = 0)) (c4 : (57) < r3.toInt) : ((0 : Int32).toInt = 0 ∧ ¬ (k0.toInt < (st 1).toInt ∧ 48 ≤ ((ar 2) k0.toNatClampNeg).toInt ∧ ((ar 2) k0.toNatClampNeg).toInt ≤ 57)) ∨ ((0 : Int32).toInt = 1 ∧ (k0.toInt < (st 1).toInt ∧ 48 ≤ ((ar 2) k0.toNatClampNeg).toInt ∧ ((ar 2) k0.toNatClampNeg).toInt ≤ 57)) := by
  have q0 : (0 : Int32).toInt = 0 := by decide +kernel
  first | trivial | omega | (simp; done) | (simp; omega) | (simp_all; done) | (simp_all; omega)
theorem v_digit_5 (st : Nat → Int32) (ar : Nat → Nat → Int32) (lo : Nat → Nat → Int64) (re : Nat → UInt64) (k0 : Int32) (r1 : Int32) (r3 : Int32) (hpre : 0 ≤ (st 1).toInt ∧ (st 1).toInt ≤ 40 ∧ 0 ≤ k0.toInt) (hr1 : (k0.toInt < (st 1).toInt ∧ r1.toInt = ((ar 2) k0.toNatClampNeg).toInt) ∨ ((st 1).toInt ≤ k0.toInt ∧ r1.toInt = 0)) (c2 : (48) ≤ r1.toInt) (hr3 : (k0.toInt < (st 1).toInt ∧ r3.toInt = ((ar 2) k0.toNatClampNeg).toInt) ∨ ((st 1).toInt ≤ k0.toInt ∧ r3.toInt = 0)) (c4 : r3.toInt ≤ (57)) : ((1 : Int32).toInt = 0 ∧ ¬ (k0.toInt < (st 1).toInt ∧ 48 ≤ ((ar 2) k0.toNatClampNeg).toInt ∧ ((ar 2) k0.toNatClampNeg).toInt ≤ 57)) ∨ ((1 : Int32).toInt = 1 ∧ (k0.toInt < (st 1).toInt ∧ 48 ≤ ((ar 2) k0.toNatClampNeg).toInt ∧ ((ar 2) k0.toNatClampNeg).toInt ≤ 57)) := by
  have q1 : (1 : Int32).toInt = 1 := by decide +kernel
  first | trivial | omega | (simp; done) | (simp; omega) | (simp_all; done) | (simp_all; omega)
theorem v_add_1 (st : Nat → Int32) (ar : Nat → Nat → Int32) (lo : Nat → Nat → Int64) (re : Nat → UInt64) (k0 : Int32) (k1 : Int32) (k2 : Int64) (hpre : 0 ≤ (st 3).toInt ∧ (st 3).toInt ≤ 41) : vp_in (st 3) 42 := by
  exact vp_in_iff.mpr ⟨by  omega, by  omega⟩
theorem v_add_2 (st : Nat → Int32) (ar : Nat → Nat → Int32) (lo : Nat → Nat → Int64) (re : Nat → UInt64) (k0 : Int32) (k1 : Int32) (k2 : Int64) (hpre : 0 ≤ (st 3).toInt ∧ (st 3).toInt ≤ 41) : vp_in (st 3) 42 := by
  exact vp_in_iff.mpr ⟨by  omega, by  omega⟩
theorem v_add_3 (st : Nat → Int32) (ar : Nat → Nat → Int32) (lo : Nat → Nat → Int64) (re : Nat → UInt64) (k0 : Int32) (k1 : Int32) (k2 : Int64) (hpre : 0 ≤ (st 3).toInt ∧ (st 3).toInt ≤ 41) : vp_in (st 3) 42 := by
  exact vp_in_iff.mpr ⟨by  omega, by  omega⟩
theorem v_add_4 (st : Nat → Int32) (ar : Nat → Nat → Int32) (lo : Nat → Nat → Int64) (re : Nat → UInt64) (k0 : Int32) (k1 : Int32) (k2 : Int64) (hpre : 0 ≤ (st 3).toInt ∧ (st 3).toInt ≤ 41) : vp_in (st 3) 42 := by
  exact vp_in_iff.mpr ⟨by  omega, by  omega⟩
theorem v_add_5 (st : Nat → Int32) (ar : Nat → Nat → Int32) (lo : Nat → Nat → Int64) (re : Nat → UInt64) (k0 : Int32) (k1 : Int32) (k2 : Int64) (x1 : Int32) (hpre : 0 ≤ (st 3).toInt ∧ (st 3).toInt ≤ 41) (ex1 : x1 = (st 3) + 1) : x1.toInt = (st 3).toInt + (1) := by
  have z1 : (1 : Int32).toInt = 1 := by decide +kernel
  rw [ex1, z_add (by omega) (by omega)]; first | done | omega
theorem v_add_6 (st : Nat → Int32) (ar : Nat → Nat → Int32) (lo : Nat → Nat → Int64) (re : Nat → UInt64) (k0 : Int32) (k1 : Int32) (k2 : Int64) (x1 : Int32) (hpre : 0 ≤ (st 3).toInt ∧ (st 3).toInt ≤ 41) (ex1 : x1 = (st 3) + 1) (tx1 : x1.toInt = (st 3).toInt + (1)) : x1.toInt = (st 3).toInt + 1 := by
  first | trivial | omega | (simp; done) | (simp; omega) | (simp_all; done) | (simp_all; omega)
theorem v_name_1 (st : Nat → Int32) (ar : Nat → Nat → Int32) (lo : Nat → Nat → Int64) (re : Nat → UInt64) (k0 : Int32) (hpre : 0 ≤ (st 1).toInt ∧ (st 1).toInt ≤ 40 ∧ 0 ≤ (st 3).toInt ∧ (st 3).toInt ≤ k0.toInt ∧ k0.toInt < (st 1).toInt ∧ TKok (ar 4) (lo 6) (ar 7) (st 3).toInt ∧ (k0.toInt < (st 1).toInt ∧ 97 ≤ ((ar 2) k0.toNatClampNeg).toInt ∧ ((ar 2) k0.toNatClampNeg).toInt ≤ 122)) : k0.toInt ≤ k0.toInt ∧ k0.toInt ≤ (st 1).toInt ∧ 0 ≤ (0 : Int32).toInt ∧ ((k0.toInt - k0.toInt = 0 ∧ (0 : Int32).toInt = 0) ∨ (k0.toInt - k0.toInt = 1 ∧ (0 : Int32).toInt ≤ 26) ∨ (k0.toInt - k0.toInt = 2 ∧ (0 : Int32).toInt ≤ 728) ∨ (k0.toInt - k0.toInt = 3 ∧ (0 : Int32).toInt ≤ 19682) ∨ (k0.toInt - k0.toInt = 4 ∧ (0 : Int32).toInt ≤ 531440) ∨ (k0.toInt - k0.toInt = 5 ∧ (0 : Int32).toInt ≤ 14348906) ∨ (6 ≤ k0.toInt - k0.toInt ∧ (0 : Int32).toInt ≤ 387420488)) := by
  have q0 : (0 : Int32).toInt = 0 := by decide +kernel
  first | trivial | omega | (simp; done) | (simp; omega) | (simp_all; done) | (simp_all; omega)
theorem v_name_2 (st : Nat → Int32) (ar : Nat → Nat → Int32) (lo : Nat → Nat → Int64) (re : Nat → UInt64) (k0 : Int32) (y1 : Int32) (y2 : Int64) (hpre : 0 ≤ (st 1).toInt ∧ (st 1).toInt ≤ 40 ∧ 0 ≤ (st 3).toInt ∧ (st 3).toInt ≤ k0.toInt ∧ k0.toInt < (st 1).toInt ∧ TKok (ar 4) (lo 6) (ar 7) (st 3).toInt ∧ (k0.toInt < (st 1).toInt ∧ 97 ≤ ((ar 2) k0.toNatClampNeg).toInt ∧ ((ar 2) k0.toNatClampNeg).toInt ≤ 122)) (hi4 : k0.toInt ≤ y1.toInt ∧ y1.toInt ≤ (st 1).toInt ∧ 0 ≤ y2.toInt ∧ ((y1.toInt - k0.toInt = 0 ∧ y2.toInt = 0) ∨ (y1.toInt - k0.toInt = 1 ∧ y2.toInt ≤ 26) ∨ (y1.toInt - k0.toInt = 2 ∧ y2.toInt ≤ 728) ∨ (y1.toInt - k0.toInt = 3 ∧ y2.toInt ≤ 19682) ∨ (y1.toInt - k0.toInt = 4 ∧ y2.toInt ≤ 531440) ∨ (y1.toInt - k0.toInt = 5 ∧ y2.toInt ≤ 14348906) ∨ (6 ≤ y1.toInt - k0.toInt ∧ y2.toInt ≤ 387420488))) : 0 ≤ (st 1).toInt ∧ (st 1).toInt ≤ 40 ∧ 0 ≤ y1.toInt := by
  first | trivial | omega | (simp; done) | (simp; omega) | (simp_all; done) | (simp_all; omega)
theorem v_name_3 (st : Nat → Int32) (ar : Nat → Nat → Int32) (lo : Nat → Nat → Int64) (re : Nat → UInt64) (k0 : Int32) (y1 : Int32) (y2 : Int64) (r3 : Int32) (x5 : Int32) (hpre : 0 ≤ (st 1).toInt ∧ (st 1).toInt ≤ 40 ∧ 0 ≤ (st 3).toInt ∧ (st 3).toInt ≤ k0.toInt ∧ k0.toInt < (st 1).toInt ∧ TKok (ar 4) (lo 6) (ar 7) (st 3).toInt ∧ (k0.toInt < (st 1).toInt ∧ 97 ≤ ((ar 2) k0.toNatClampNeg).toInt ∧ ((ar 2) k0.toNatClampNeg).toInt ≤ 122)) (hi4 : k0.toInt ≤ y1.toInt ∧ y1.toInt ≤ (st 1).toInt ∧ 0 ≤ y2.toInt ∧ ((y1.toInt - k0.toInt = 0 ∧ y2.toInt = 0) ∨ (y1.toInt - k0.toInt = 1 ∧ y2.toInt ≤ 26) ∨ (y1.toInt - k0.toInt = 2 ∧ y2.toInt ≤ 728) ∨ (y1.toInt - k0.toInt = 3 ∧ y2.toInt ≤ 19682) ∨ (y1.toInt - k0.toInt = 4 ∧ y2.toInt ≤ 531440) ∨ (y1.toInt - k0.toInt = 5 ∧ y2.toInt ≤ 14348906) ∨ (6 ≤ y1.toInt - k0.toInt ∧ y2.toInt ≤ 387420488))) (hr3 : (r3.toInt = 0 ∧ ¬ (y1.toInt < (st 1).toInt ∧ 97 ≤ ((ar 2) y1.toNatClampNeg).toInt ∧ ((ar 2) y1.toNatClampNeg).toInt ≤ 122)) ∨ (r3.toInt = 1 ∧ (y1.toInt < (st 1).toInt ∧ 97 ≤ ((ar 2) y1.toNatClampNeg).toInt ∧ ((ar 2) y1.toNatClampNeg).toInt ≤ 122))) (c4 : r3.toInt = (0)) (ex5 : x5 = y1 - k0) : x5.toInt = y1.toInt - k0.toInt := by
  rw [ex5, z_sub (by omega) (by omega)]; first | done | omega
theorem v_name_4 (st : Nat → Int32) (ar : Nat → Nat → Int32) (lo : Nat → Nat → Int64) (re : Nat → UInt64) (k0 : Int32) (y1 : Int32) (y2 : Int64) (r3 : Int32) (x5 : Int32) (hpre : 0 ≤ (st 1).toInt ∧ (st 1).toInt ≤ 40 ∧ 0 ≤ (st 3).toInt ∧ (st 3).toInt ≤ k0.toInt ∧ k0.toInt < (st 1).toInt ∧ TKok (ar 4) (lo 6) (ar 7) (st 3).toInt ∧ (k0.toInt < (st 1).toInt ∧ 97 ≤ ((ar 2) k0.toNatClampNeg).toInt ∧ ((ar 2) k0.toNatClampNeg).toInt ≤ 122)) (hi4 : k0.toInt ≤ y1.toInt ∧ y1.toInt ≤ (st 1).toInt ∧ 0 ≤ y2.toInt ∧ ((y1.toInt - k0.toInt = 0 ∧ y2.toInt = 0) ∨ (y1.toInt - k0.toInt = 1 ∧ y2.toInt ≤ 26) ∨ (y1.toInt - k0.toInt = 2 ∧ y2.toInt ≤ 728) ∨ (y1.toInt - k0.toInt = 3 ∧ y2.toInt ≤ 19682) ∨ (y1.toInt - k0.toInt = 4 ∧ y2.toInt ≤ 531440) ∨ (y1.toInt - k0.toInt = 5 ∧ y2.toInt ≤ 14348906) ∨ (6 ≤ y1.toInt - k0.toInt ∧ y2.toInt ≤ 387420488))) (hr3 : (r3.toInt = 0 ∧ ¬ (y1.toInt < (st 1).toInt ∧ 97 ≤ ((ar 2) y1.toNatClampNeg).toInt ∧ ((ar 2) y1.toNatClampNeg).toInt ≤ 122)) ∨ (r3.toInt = 1 ∧ (y1.toInt < (st 1).toInt ∧ 97 ≤ ((ar 2) y1.toNatClampNeg).toInt ∧ ((ar 2) y1.toNatClampNeg).toInt ≤ 122))) (c4 : r3.toInt = (0)) (ex5 : x5 = y1 - k0) (tx5 : x5.toInt = y1.toInt - k0.toInt) (c6 : x5.toInt ≤ (5)) : 0 ≤ (st 3).toInt ∧ (st 3).toInt ≤ 41 := by
  first | trivial | omega | (simp; done) | (simp; omega) | (simp_all; done) | (simp_all; omega)
theorem v_name_5 (st : Nat → Int32) (ar : Nat → Nat → Int32) (lo : Nat → Nat → Int64) (re : Nat → UInt64) (k0 : Int32) (y1 : Int32) (y2 : Int64) (r3 : Int32) (x5 : Int32) (n8 : Int32) (hpre : 0 ≤ (st 1).toInt ∧ (st 1).toInt ≤ 40 ∧ 0 ≤ (st 3).toInt ∧ (st 3).toInt ≤ k0.toInt ∧ k0.toInt < (st 1).toInt ∧ TKok (ar 4) (lo 6) (ar 7) (st 3).toInt ∧ (k0.toInt < (st 1).toInt ∧ 97 ≤ ((ar 2) k0.toNatClampNeg).toInt ∧ ((ar 2) k0.toNatClampNeg).toInt ≤ 122)) (hi4 : k0.toInt ≤ y1.toInt ∧ y1.toInt ≤ (st 1).toInt ∧ 0 ≤ y2.toInt ∧ ((y1.toInt - k0.toInt = 0 ∧ y2.toInt = 0) ∨ (y1.toInt - k0.toInt = 1 ∧ y2.toInt ≤ 26) ∨ (y1.toInt - k0.toInt = 2 ∧ y2.toInt ≤ 728) ∨ (y1.toInt - k0.toInt = 3 ∧ y2.toInt ≤ 19682) ∨ (y1.toInt - k0.toInt = 4 ∧ y2.toInt ≤ 531440) ∨ (y1.toInt - k0.toInt = 5 ∧ y2.toInt ≤ 14348906) ∨ (6 ≤ y1.toInt - k0.toInt ∧ y2.toInt ≤ 387420488))) (hr3 : (r3.toInt = 0 ∧ ¬ (y1.toInt < (st 1).toInt ∧ 97 ≤ ((ar 2) y1.toNatClampNeg).toInt ∧ ((ar 2) y1.toNatClampNeg).toInt ≤ 122)) ∨ (r3.toInt = 1 ∧ (y1.toInt < (st 1).toInt ∧ 97 ≤ ((ar 2) y1.toNatClampNeg).toInt ∧ ((ar 2) y1.toNatClampNeg).toInt ≤ 122))) (c4 : r3.toInt = (0)) (ex5 : x5 = y1 - k0) (tx5 : x5.toInt = y1.toInt - k0.toInt) (c6 : x5.toInt ≤ (5)) (hr7 : n8.toInt = (st 3).toInt + 1) : k0.toInt < y1.toInt ∧ y1.toInt ≤ (st 1).toInt ∧ 0 ≤ n8.toInt ∧ n8.toInt ≤ y1.toInt ∧ TKok (upd (ar 4) (st 3).toNatClampNeg (3 : Int32)) (vp_updL (lo 6) (st 3).toNatClampNeg y2) (upd (ar 7) (st 3).toNatClampNeg 0) n8.toInt := by
  have q3 : (3 : Int32).toInt = 3 := by decide +kernel
  have hy : y1.toInt = k0.toInt → y1 = k0 := fun h => Int32.toInt_inj.mp h
  have hc : y1.toInt ≠ k0.toInt := by
    intro h; have h := hy h; subst h; omega
  have hz := hpre.2.2.2.2.2.1
  and_intros <;> first | omega | exact hz | exact tk_add hz (by omega) (clampZ (by omega)) (by omega) (by omega) (by omega)
theorem v_name_6 (st : Nat → Int32) (ar : Nat → Nat → Int32) (lo : Nat → Nat → Int64) (re : Nat → UInt64) (k0 : Int32) (y1 : Int32) (y2 : Int64) (r3 : Int32) (x5 : Int32) (hpre : 0 ≤ (st 1).toInt ∧ (st 1).toInt ≤ 40 ∧ 0 ≤ (st 3).toInt ∧ (st 3).toInt ≤ k0.toInt ∧ k0.toInt < (st 1).toInt ∧ TKok (ar 4) (lo 6) (ar 7) (st 3).toInt ∧ (k0.toInt < (st 1).toInt ∧ 97 ≤ ((ar 2) k0.toNatClampNeg).toInt ∧ ((ar 2) k0.toNatClampNeg).toInt ≤ 122)) (hi4 : k0.toInt ≤ y1.toInt ∧ y1.toInt ≤ (st 1).toInt ∧ 0 ≤ y2.toInt ∧ ((y1.toInt - k0.toInt = 0 ∧ y2.toInt = 0) ∨ (y1.toInt - k0.toInt = 1 ∧ y2.toInt ≤ 26) ∨ (y1.toInt - k0.toInt = 2 ∧ y2.toInt ≤ 728) ∨ (y1.toInt - k0.toInt = 3 ∧ y2.toInt ≤ 19682) ∨ (y1.toInt - k0.toInt = 4 ∧ y2.toInt ≤ 531440) ∨ (y1.toInt - k0.toInt = 5 ∧ y2.toInt ≤ 14348906) ∨ (6 ≤ y1.toInt - k0.toInt ∧ y2.toInt ≤ 387420488))) (hr3 : (r3.toInt = 0 ∧ ¬ (y1.toInt < (st 1).toInt ∧ 97 ≤ ((ar 2) y1.toNatClampNeg).toInt ∧ ((ar 2) y1.toNatClampNeg).toInt ≤ 122)) ∨ (r3.toInt = 1 ∧ (y1.toInt < (st 1).toInt ∧ 97 ≤ ((ar 2) y1.toNatClampNeg).toInt ∧ ((ar 2) y1.toNatClampNeg).toInt ≤ 122))) (c4 : r3.toInt = (0)) (ex5 : x5 = y1 - k0) (tx5 : x5.toInt = y1.toInt - k0.toInt) (c6 : (5) < x5.toInt) : True := by
  first | trivial | omega | (simp; done) | (simp; omega) | (simp_all; done) | (simp_all; omega)
theorem v_name_7 (st : Nat → Int32) (ar : Nat → Nat → Int32) (lo : Nat → Nat → Int64) (re : Nat → UInt64) (k0 : Int32) (y1 : Int32) (y2 : Int64) (r3 : Int32) (x5 : Int32) (n10 : Int32) (n11 : Int32) (hpre : 0 ≤ (st 1).toInt ∧ (st 1).toInt ≤ 40 ∧ 0 ≤ (st 3).toInt ∧ (st 3).toInt ≤ k0.toInt ∧ k0.toInt < (st 1).toInt ∧ TKok (ar 4) (lo 6) (ar 7) (st 3).toInt ∧ (k0.toInt < (st 1).toInt ∧ 97 ≤ ((ar 2) k0.toNatClampNeg).toInt ∧ ((ar 2) k0.toNatClampNeg).toInt ≤ 122)) (hi4 : k0.toInt ≤ y1.toInt ∧ y1.toInt ≤ (st 1).toInt ∧ 0 ≤ y2.toInt ∧ ((y1.toInt - k0.toInt = 0 ∧ y2.toInt = 0) ∨ (y1.toInt - k0.toInt = 1 ∧ y2.toInt ≤ 26) ∨ (y1.toInt - k0.toInt = 2 ∧ y2.toInt ≤ 728) ∨ (y1.toInt - k0.toInt = 3 ∧ y2.toInt ≤ 19682) ∨ (y1.toInt - k0.toInt = 4 ∧ y2.toInt ≤ 531440) ∨ (y1.toInt - k0.toInt = 5 ∧ y2.toInt ≤ 14348906) ∨ (6 ≤ y1.toInt - k0.toInt ∧ y2.toInt ≤ 387420488))) (hr3 : (r3.toInt = 0 ∧ ¬ (y1.toInt < (st 1).toInt ∧ 97 ≤ ((ar 2) y1.toNatClampNeg).toInt ∧ ((ar 2) y1.toNatClampNeg).toInt ≤ 122)) ∨ (r3.toInt = 1 ∧ (y1.toInt < (st 1).toInt ∧ 97 ≤ ((ar 2) y1.toNatClampNeg).toInt ∧ ((ar 2) y1.toNatClampNeg).toInt ≤ 122))) (c4 : r3.toInt = (0)) (ex5 : x5 = y1 - k0) (tx5 : x5.toInt = y1.toInt - k0.toInt) (c6 : (5) < x5.toInt) (hr9 : ((st 8).toInt = 0 → n10 = (1 : Int32)) ∧ (¬ (st 8).toInt = 0 → n10 = (st 8))) : k0.toInt < y1.toInt ∧ y1.toInt ≤ (st 1).toInt ∧ 0 ≤ (st 3).toInt ∧ (st 3).toInt ≤ y1.toInt ∧ TKok (ar 4) (lo 6) (ar 7) (st 3).toInt := by
  have q1 : (1 : Int32).toInt = 1 := by decide +kernel
  have hy : y1.toInt = k0.toInt → y1 = k0 := fun h => Int32.toInt_inj.mp h
  have hc : y1.toInt ≠ k0.toInt := by
    intro h; have h := hy h; subst h; omega
  have hz := hpre.2.2.2.2.2.1
  and_intros <;> first | omega | exact hz | exact tk_add hz (by omega) (clampZ (by omega)) (by omega) (by omega) (by omega)
theorem v_name_8 (st : Nat → Int32) (ar : Nat → Nat → Int32) (lo : Nat → Nat → Int64) (re : Nat → UInt64) (k0 : Int32) (y1 : Int32) (y2 : Int64) (r3 : Int32) (x12 : Int32) (hpre : 0 ≤ (st 1).toInt ∧ (st 1).toInt ≤ 40 ∧ 0 ≤ (st 3).toInt ∧ (st 3).toInt ≤ k0.toInt ∧ k0.toInt < (st 1).toInt ∧ TKok (ar 4) (lo 6) (ar 7) (st 3).toInt ∧ (k0.toInt < (st 1).toInt ∧ 97 ≤ ((ar 2) k0.toNatClampNeg).toInt ∧ ((ar 2) k0.toNatClampNeg).toInt ≤ 122)) (hi4 : k0.toInt ≤ y1.toInt ∧ y1.toInt ≤ (st 1).toInt ∧ 0 ≤ y2.toInt ∧ ((y1.toInt - k0.toInt = 0 ∧ y2.toInt = 0) ∨ (y1.toInt - k0.toInt = 1 ∧ y2.toInt ≤ 26) ∨ (y1.toInt - k0.toInt = 2 ∧ y2.toInt ≤ 728) ∨ (y1.toInt - k0.toInt = 3 ∧ y2.toInt ≤ 19682) ∨ (y1.toInt - k0.toInt = 4 ∧ y2.toInt ≤ 531440) ∨ (y1.toInt - k0.toInt = 5 ∧ y2.toInt ≤ 14348906) ∨ (6 ≤ y1.toInt - k0.toInt ∧ y2.toInt ≤ 387420488))) (hr3 : (r3.toInt = 0 ∧ ¬ (y1.toInt < (st 1).toInt ∧ 97 ≤ ((ar 2) y1.toNatClampNeg).toInt ∧ ((ar 2) y1.toNatClampNeg).toInt ≤ 122)) ∨ (r3.toInt = 1 ∧ (y1.toInt < (st 1).toInt ∧ 97 ≤ ((ar 2) y1.toNatClampNeg).toInt ∧ ((ar 2) y1.toNatClampNeg).toInt ≤ 122))) (c4 : ¬ r3.toInt = (0)) (ex12 : x12 = y1 - k0) : x12.toInt = y1.toInt - k0.toInt := by
  rw [ex12, z_sub (by omega) (by omega)]; first | done | omega
theorem v_name_9 (st : Nat → Int32) (ar : Nat → Nat → Int32) (lo : Nat → Nat → Int64) (re : Nat → UInt64) (k0 : Int32) (y1 : Int32) (y2 : Int64) (r3 : Int32) (x12 : Int32) (x14 : Int32) (hpre : 0 ≤ (st 1).toInt ∧ (st 1).toInt ≤ 40 ∧ 0 ≤ (st 3).toInt ∧ (st 3).toInt ≤ k0.toInt ∧ k0.toInt < (st 1).toInt ∧ TKok (ar 4) (lo 6) (ar 7) (st 3).toInt ∧ (k0.toInt < (st 1).toInt ∧ 97 ≤ ((ar 2) k0.toNatClampNeg).toInt ∧ ((ar 2) k0.toNatClampNeg).toInt ≤ 122)) (hi4 : k0.toInt ≤ y1.toInt ∧ y1.toInt ≤ (st 1).toInt ∧ 0 ≤ y2.toInt ∧ ((y1.toInt - k0.toInt = 0 ∧ y2.toInt = 0) ∨ (y1.toInt - k0.toInt = 1 ∧ y2.toInt ≤ 26) ∨ (y1.toInt - k0.toInt = 2 ∧ y2.toInt ≤ 728) ∨ (y1.toInt - k0.toInt = 3 ∧ y2.toInt ≤ 19682) ∨ (y1.toInt - k0.toInt = 4 ∧ y2.toInt ≤ 531440) ∨ (y1.toInt - k0.toInt = 5 ∧ y2.toInt ≤ 14348906) ∨ (6 ≤ y1.toInt - k0.toInt ∧ y2.toInt ≤ 387420488))) (hr3 : (r3.toInt = 0 ∧ ¬ (y1.toInt < (st 1).toInt ∧ 97 ≤ ((ar 2) y1.toNatClampNeg).toInt ∧ ((ar 2) y1.toNatClampNeg).toInt ≤ 122)) ∨ (r3.toInt = 1 ∧ (y1.toInt < (st 1).toInt ∧ 97 ≤ ((ar 2) y1.toNatClampNeg).toInt ∧ ((ar 2) y1.toNatClampNeg).toInt ≤ 122))) (c4 : ¬ r3.toInt = (0)) (ex12 : x12 = y1 - k0) (tx12 : x12.toInt = y1.toInt - k0.toInt) (c13 : (6) ≤ x12.toInt) (ex14 : x14 = y1 + 1) : x14.toInt = y1.toInt + (1) := by
  have z9 : (1 : Int32).toInt = 1 := by decide +kernel
  rw [ex14, z_add (by omega) (by omega)]; first | done | omega
theorem v_name_10 (st : Nat → Int32) (ar : Nat → Nat → Int32) (lo : Nat → Nat → Int64) (re : Nat → UInt64) (k0 : Int32) (y1 : Int32) (y2 : Int64) (r3 : Int32) (x12 : Int32) (x14 : Int32) (hpre : 0 ≤ (st 1).toInt ∧ (st 1).toInt ≤ 40 ∧ 0 ≤ (st 3).toInt ∧ (st 3).toInt ≤ k0.toInt ∧ k0.toInt < (st 1).toInt ∧ TKok (ar 4) (lo 6) (ar 7) (st 3).toInt ∧ (k0.toInt < (st 1).toInt ∧ 97 ≤ ((ar 2) k0.toNatClampNeg).toInt ∧ ((ar 2) k0.toNatClampNeg).toInt ≤ 122)) (hi4 : k0.toInt ≤ y1.toInt ∧ y1.toInt ≤ (st 1).toInt ∧ 0 ≤ y2.toInt ∧ ((y1.toInt - k0.toInt = 0 ∧ y2.toInt = 0) ∨ (y1.toInt - k0.toInt = 1 ∧ y2.toInt ≤ 26) ∨ (y1.toInt - k0.toInt = 2 ∧ y2.toInt ≤ 728) ∨ (y1.toInt - k0.toInt = 3 ∧ y2.toInt ≤ 19682) ∨ (y1.toInt - k0.toInt = 4 ∧ y2.toInt ≤ 531440) ∨ (y1.toInt - k0.toInt = 5 ∧ y2.toInt ≤ 14348906) ∨ (6 ≤ y1.toInt - k0.toInt ∧ y2.toInt ≤ 387420488))) (hr3 : (r3.toInt = 0 ∧ ¬ (y1.toInt < (st 1).toInt ∧ 97 ≤ ((ar 2) y1.toNatClampNeg).toInt ∧ ((ar 2) y1.toNatClampNeg).toInt ≤ 122)) ∨ (r3.toInt = 1 ∧ (y1.toInt < (st 1).toInt ∧ 97 ≤ ((ar 2) y1.toNatClampNeg).toInt ∧ ((ar 2) y1.toNatClampNeg).toInt ≤ 122))) (c4 : ¬ r3.toInt = (0)) (ex12 : x12 = y1 - k0) (tx12 : x12.toInt = y1.toInt - k0.toInt) (c13 : (6) ≤ x12.toInt) (ex14 : x14 = y1 + 1) (tx14 : x14.toInt = y1.toInt + (1)) : k0.toInt ≤ x14.toInt ∧ x14.toInt ≤ (st 1).toInt ∧ 0 ≤ y2.toInt ∧ ((x14.toInt - k0.toInt = 0 ∧ y2.toInt = 0) ∨ (x14.toInt - k0.toInt = 1 ∧ y2.toInt ≤ 26) ∨ (x14.toInt - k0.toInt = 2 ∧ y2.toInt ≤ 728) ∨ (x14.toInt - k0.toInt = 3 ∧ y2.toInt ≤ 19682) ∨ (x14.toInt - k0.toInt = 4 ∧ y2.toInt ≤ 531440) ∨ (x14.toInt - k0.toInt = 5 ∧ y2.toInt ≤ 14348906) ∨ (6 ≤ x14.toInt - k0.toInt ∧ y2.toInt ≤ 387420488)) := by
  first | trivial | omega | (simp; done) | (simp; omega) | (simp_all; done) | (simp_all; omega)
theorem v_name_11 (st : Nat → Int32) (ar : Nat → Nat → Int32) (lo : Nat → Nat → Int64) (re : Nat → UInt64) (k0 : Int32) (y1 : Int32) (y2 : Int64) (r3 : Int32) (x12 : Int32) (x14 : Int32) (hpre : 0 ≤ (st 1).toInt ∧ (st 1).toInt ≤ 40 ∧ 0 ≤ (st 3).toInt ∧ (st 3).toInt ≤ k0.toInt ∧ k0.toInt < (st 1).toInt ∧ TKok (ar 4) (lo 6) (ar 7) (st 3).toInt ∧ (k0.toInt < (st 1).toInt ∧ 97 ≤ ((ar 2) k0.toNatClampNeg).toInt ∧ ((ar 2) k0.toNatClampNeg).toInt ≤ 122)) (hi4 : k0.toInt ≤ y1.toInt ∧ y1.toInt ≤ (st 1).toInt ∧ 0 ≤ y2.toInt ∧ ((y1.toInt - k0.toInt = 0 ∧ y2.toInt = 0) ∨ (y1.toInt - k0.toInt = 1 ∧ y2.toInt ≤ 26) ∨ (y1.toInt - k0.toInt = 2 ∧ y2.toInt ≤ 728) ∨ (y1.toInt - k0.toInt = 3 ∧ y2.toInt ≤ 19682) ∨ (y1.toInt - k0.toInt = 4 ∧ y2.toInt ≤ 531440) ∨ (y1.toInt - k0.toInt = 5 ∧ y2.toInt ≤ 14348906) ∨ (6 ≤ y1.toInt - k0.toInt ∧ y2.toInt ≤ 387420488))) (hr3 : (r3.toInt = 0 ∧ ¬ (y1.toInt < (st 1).toInt ∧ 97 ≤ ((ar 2) y1.toNatClampNeg).toInt ∧ ((ar 2) y1.toNatClampNeg).toInt ≤ 122)) ∨ (r3.toInt = 1 ∧ (y1.toInt < (st 1).toInt ∧ 97 ≤ ((ar 2) y1.toNatClampNeg).toInt ∧ ((ar 2) y1.toNatClampNeg).toInt ≤ 122))) (c4 : ¬ r3.toInt = (0)) (ex12 : x12 = y1 - k0) (tx12 : x12.toInt = y1.toInt - k0.toInt) (c13 : (6) ≤ x12.toInt) (ex14 : x14 = y1 + 1) (tx14 : x14.toInt = y1.toInt + (1)) : ((st 1).toInt - x14.toInt).toNat < ((st 1).toInt - y1.toInt).toNat := by
  first | trivial | omega | (simp; done) | (simp; omega) | (simp_all; done) | (simp_all; omega)
theorem v_name_12 (st : Nat → Int32) (ar : Nat → Nat → Int32) (lo : Nat → Nat → Int64) (re : Nat → UInt64) (k0 : Int32) (y1 : Int32) (y2 : Int64) (r3 : Int32) (x12 : Int32) (x15 : Int64) (hpre : 0 ≤ (st 1).toInt ∧ (st 1).toInt ≤ 40 ∧ 0 ≤ (st 3).toInt ∧ (st 3).toInt ≤ k0.toInt ∧ k0.toInt < (st 1).toInt ∧ TKok (ar 4) (lo 6) (ar 7) (st 3).toInt ∧ (k0.toInt < (st 1).toInt ∧ 97 ≤ ((ar 2) k0.toNatClampNeg).toInt ∧ ((ar 2) k0.toNatClampNeg).toInt ≤ 122)) (hi4 : k0.toInt ≤ y1.toInt ∧ y1.toInt ≤ (st 1).toInt ∧ 0 ≤ y2.toInt ∧ ((y1.toInt - k0.toInt = 0 ∧ y2.toInt = 0) ∨ (y1.toInt - k0.toInt = 1 ∧ y2.toInt ≤ 26) ∨ (y1.toInt - k0.toInt = 2 ∧ y2.toInt ≤ 728) ∨ (y1.toInt - k0.toInt = 3 ∧ y2.toInt ≤ 19682) ∨ (y1.toInt - k0.toInt = 4 ∧ y2.toInt ≤ 531440) ∨ (y1.toInt - k0.toInt = 5 ∧ y2.toInt ≤ 14348906) ∨ (6 ≤ y1.toInt - k0.toInt ∧ y2.toInt ≤ 387420488))) (hr3 : (r3.toInt = 0 ∧ ¬ (y1.toInt < (st 1).toInt ∧ 97 ≤ ((ar 2) y1.toNatClampNeg).toInt ∧ ((ar 2) y1.toNatClampNeg).toInt ≤ 122)) ∨ (r3.toInt = 1 ∧ (y1.toInt < (st 1).toInt ∧ 97 ≤ ((ar 2) y1.toNatClampNeg).toInt ∧ ((ar 2) y1.toNatClampNeg).toInt ≤ 122))) (c4 : ¬ r3.toInt = (0)) (ex12 : x12 = y1 - k0) (tx12 : x12.toInt = y1.toInt - k0.toInt) (c13 : x12.toInt < (6)) (ex15 : x15 = y2 * 27) : x15.toInt = y2.toInt * 27 := by
  have w1 : (27 : Int64).toInt = 27 := by decide +kernel
  rw [ex15, Int64.mul_comm, zl_mul (c := 27) (by omega) (by omega) (by omega)]; omega
theorem v_name_13 (st : Nat → Int32) (ar : Nat → Nat → Int32) (lo : Nat → Nat → Int64) (re : Nat → UInt64) (k0 : Int32) (y1 : Int32) (y2 : Int64) (r3 : Int32) (x12 : Int32) (x15 : Int64) (hpre : 0 ≤ (st 1).toInt ∧ (st 1).toInt ≤ 40 ∧ 0 ≤ (st 3).toInt ∧ (st 3).toInt ≤ k0.toInt ∧ k0.toInt < (st 1).toInt ∧ TKok (ar 4) (lo 6) (ar 7) (st 3).toInt ∧ (k0.toInt < (st 1).toInt ∧ 97 ≤ ((ar 2) k0.toNatClampNeg).toInt ∧ ((ar 2) k0.toNatClampNeg).toInt ≤ 122)) (hi4 : k0.toInt ≤ y1.toInt ∧ y1.toInt ≤ (st 1).toInt ∧ 0 ≤ y2.toInt ∧ ((y1.toInt - k0.toInt = 0 ∧ y2.toInt = 0) ∨ (y1.toInt - k0.toInt = 1 ∧ y2.toInt ≤ 26) ∨ (y1.toInt - k0.toInt = 2 ∧ y2.toInt ≤ 728) ∨ (y1.toInt - k0.toInt = 3 ∧ y2.toInt ≤ 19682) ∨ (y1.toInt - k0.toInt = 4 ∧ y2.toInt ≤ 531440) ∨ (y1.toInt - k0.toInt = 5 ∧ y2.toInt ≤ 14348906) ∨ (6 ≤ y1.toInt - k0.toInt ∧ y2.toInt ≤ 387420488))) (hr3 : (r3.toInt = 0 ∧ ¬ (y1.toInt < (st 1).toInt ∧ 97 ≤ ((ar 2) y1.toNatClampNeg).toInt ∧ ((ar 2) y1.toNatClampNeg).toInt ≤ 122)) ∨ (r3.toInt = 1 ∧ (y1.toInt < (st 1).toInt ∧ 97 ≤ ((ar 2) y1.toNatClampNeg).toInt ∧ ((ar 2) y1.toNatClampNeg).toInt ≤ 122))) (c4 : ¬ r3.toInt = (0)) (ex12 : x12 = y1 - k0) (tx12 : x12.toInt = y1.toInt - k0.toInt) (c13 : x12.toInt < (6)) (ex15 : x15 = y2 * 27) (tx15 : x15.toInt = y2.toInt * 27) : 0 ≤ (st 1).toInt ∧ (st 1).toInt ≤ 40 ∧ 0 ≤ y1.toInt := by
  first | trivial | omega | (simp; done) | (simp; omega) | (simp_all; done) | (simp_all; omega)
theorem v_name_14 (st : Nat → Int32) (ar : Nat → Nat → Int32) (lo : Nat → Nat → Int64) (re : Nat → UInt64) (k0 : Int32) (y1 : Int32) (y2 : Int64) (r3 : Int32) (x12 : Int32) (x15 : Int64) (r16 : Int32) (x17 : Int64) (x18 : Int64) (hpre : 0 ≤ (st 1).toInt ∧ (st 1).toInt ≤ 40 ∧ 0 ≤ (st 3).toInt ∧ (st 3).toInt ≤ k0.toInt ∧ k0.toInt < (st 1).toInt ∧ TKok (ar 4) (lo 6) (ar 7) (st 3).toInt ∧ (k0.toInt < (st 1).toInt ∧ 97 ≤ ((ar 2) k0.toNatClampNeg).toInt ∧ ((ar 2) k0.toNatClampNeg).toInt ≤ 122)) (hi4 : k0.toInt ≤ y1.toInt ∧ y1.toInt ≤ (st 1).toInt ∧ 0 ≤ y2.toInt ∧ ((y1.toInt - k0.toInt = 0 ∧ y2.toInt = 0) ∨ (y1.toInt - k0.toInt = 1 ∧ y2.toInt ≤ 26) ∨ (y1.toInt - k0.toInt = 2 ∧ y2.toInt ≤ 728) ∨ (y1.toInt - k0.toInt = 3 ∧ y2.toInt ≤ 19682) ∨ (y1.toInt - k0.toInt = 4 ∧ y2.toInt ≤ 531440) ∨ (y1.toInt - k0.toInt = 5 ∧ y2.toInt ≤ 14348906) ∨ (6 ≤ y1.toInt - k0.toInt ∧ y2.toInt ≤ 387420488))) (hr3 : (r3.toInt = 0 ∧ ¬ (y1.toInt < (st 1).toInt ∧ 97 ≤ ((ar 2) y1.toNatClampNeg).toInt ∧ ((ar 2) y1.toNatClampNeg).toInt ≤ 122)) ∨ (r3.toInt = 1 ∧ (y1.toInt < (st 1).toInt ∧ 97 ≤ ((ar 2) y1.toNatClampNeg).toInt ∧ ((ar 2) y1.toNatClampNeg).toInt ≤ 122))) (c4 : ¬ r3.toInt = (0)) (ex12 : x12 = y1 - k0) (tx12 : x12.toInt = y1.toInt - k0.toInt) (c13 : x12.toInt < (6)) (ex15 : x15 = y2 * 27) (tx15 : x15.toInt = y2.toInt * 27) (hr16 : (y1.toInt < (st 1).toInt ∧ r16.toInt = ((ar 2) y1.toNatClampNeg).toInt) ∨ ((st 1).toInt ≤ y1.toInt ∧ r16.toInt = 0)) (ex17 : x17 = Int32.toInt64 r16) (tx17 : x17.toInt = r16.toInt) (ex18 : x18 = x15 + x17) : x18.toInt = x15.toInt + x17.toInt := by
  rw [ex18, zl_add (by omega) (by omega)]; first | done | omega
theorem v_name_15 (st : Nat → Int32) (ar : Nat → Nat → Int32) (lo : Nat → Nat → Int64) (re : Nat → UInt64) (k0 : Int32) (y1 : Int32) (y2 : Int64) (r3 : Int32) (x12 : Int32) (x15 : Int64) (r16 : Int32) (x17 : Int64) (x18 : Int64) (x19 : Int64) (hpre : 0 ≤ (st 1).toInt ∧ (st 1).toInt ≤ 40 ∧ 0 ≤ (st 3).toInt ∧ (st 3).toInt ≤ k0.toInt ∧ k0.toInt < (st 1).toInt ∧ TKok (ar 4) (lo 6) (ar 7) (st 3).toInt ∧ (k0.toInt < (st 1).toInt ∧ 97 ≤ ((ar 2) k0.toNatClampNeg).toInt ∧ ((ar 2) k0.toNatClampNeg).toInt ≤ 122)) (hi4 : k0.toInt ≤ y1.toInt ∧ y1.toInt ≤ (st 1).toInt ∧ 0 ≤ y2.toInt ∧ ((y1.toInt - k0.toInt = 0 ∧ y2.toInt = 0) ∨ (y1.toInt - k0.toInt = 1 ∧ y2.toInt ≤ 26) ∨ (y1.toInt - k0.toInt = 2 ∧ y2.toInt ≤ 728) ∨ (y1.toInt - k0.toInt = 3 ∧ y2.toInt ≤ 19682) ∨ (y1.toInt - k0.toInt = 4 ∧ y2.toInt ≤ 531440) ∨ (y1.toInt - k0.toInt = 5 ∧ y2.toInt ≤ 14348906) ∨ (6 ≤ y1.toInt - k0.toInt ∧ y2.toInt ≤ 387420488))) (hr3 : (r3.toInt = 0 ∧ ¬ (y1.toInt < (st 1).toInt ∧ 97 ≤ ((ar 2) y1.toNatClampNeg).toInt ∧ ((ar 2) y1.toNatClampNeg).toInt ≤ 122)) ∨ (r3.toInt = 1 ∧ (y1.toInt < (st 1).toInt ∧ 97 ≤ ((ar 2) y1.toNatClampNeg).toInt ∧ ((ar 2) y1.toNatClampNeg).toInt ≤ 122))) (c4 : ¬ r3.toInt = (0)) (ex12 : x12 = y1 - k0) (tx12 : x12.toInt = y1.toInt - k0.toInt) (c13 : x12.toInt < (6)) (ex15 : x15 = y2 * 27) (tx15 : x15.toInt = y2.toInt * 27) (hr16 : (y1.toInt < (st 1).toInt ∧ r16.toInt = ((ar 2) y1.toNatClampNeg).toInt) ∨ ((st 1).toInt ≤ y1.toInt ∧ r16.toInt = 0)) (ex17 : x17 = Int32.toInt64 r16) (tx17 : x17.toInt = r16.toInt) (ex18 : x18 = x15 + x17) (tx18 : x18.toInt = x15.toInt + x17.toInt) (ex19 : x19 = x18 - 97) : x19.toInt = x18.toInt - 97 := by
  have w1 : (97 : Int64).toInt = 97 := by decide +kernel
  rw [ex19, zl_sub (by omega) (by omega)]; first | done | omega
theorem v_name_16 (st : Nat → Int32) (ar : Nat → Nat → Int32) (lo : Nat → Nat → Int64) (re : Nat → UInt64) (k0 : Int32) (y1 : Int32) (y2 : Int64) (r3 : Int32) (x12 : Int32) (x15 : Int64) (r16 : Int32) (x17 : Int64) (x18 : Int64) (x19 : Int64) (x20 : Int64) (hpre : 0 ≤ (st 1).toInt ∧ (st 1).toInt ≤ 40 ∧ 0 ≤ (st 3).toInt ∧ (st 3).toInt ≤ k0.toInt ∧ k0.toInt < (st 1).toInt ∧ TKok (ar 4) (lo 6) (ar 7) (st 3).toInt ∧ (k0.toInt < (st 1).toInt ∧ 97 ≤ ((ar 2) k0.toNatClampNeg).toInt ∧ ((ar 2) k0.toNatClampNeg).toInt ≤ 122)) (hi4 : k0.toInt ≤ y1.toInt ∧ y1.toInt ≤ (st 1).toInt ∧ 0 ≤ y2.toInt ∧ ((y1.toInt - k0.toInt = 0 ∧ y2.toInt = 0) ∨ (y1.toInt - k0.toInt = 1 ∧ y2.toInt ≤ 26) ∨ (y1.toInt - k0.toInt = 2 ∧ y2.toInt ≤ 728) ∨ (y1.toInt - k0.toInt = 3 ∧ y2.toInt ≤ 19682) ∨ (y1.toInt - k0.toInt = 4 ∧ y2.toInt ≤ 531440) ∨ (y1.toInt - k0.toInt = 5 ∧ y2.toInt ≤ 14348906) ∨ (6 ≤ y1.toInt - k0.toInt ∧ y2.toInt ≤ 387420488))) (hr3 : (r3.toInt = 0 ∧ ¬ (y1.toInt < (st 1).toInt ∧ 97 ≤ ((ar 2) y1.toNatClampNeg).toInt ∧ ((ar 2) y1.toNatClampNeg).toInt ≤ 122)) ∨ (r3.toInt = 1 ∧ (y1.toInt < (st 1).toInt ∧ 97 ≤ ((ar 2) y1.toNatClampNeg).toInt ∧ ((ar 2) y1.toNatClampNeg).toInt ≤ 122))) (c4 : ¬ r3.toInt = (0)) (ex12 : x12 = y1 - k0) (tx12 : x12.toInt = y1.toInt - k0.toInt) (c13 : x12.toInt < (6)) (ex15 : x15 = y2 * 27) (tx15 : x15.toInt = y2.toInt * 27) (hr16 : (y1.toInt < (st 1).toInt ∧ r16.toInt = ((ar 2) y1.toNatClampNeg).toInt) ∨ ((st 1).toInt ≤ y1.toInt ∧ r16.toInt = 0)) (ex17 : x17 = Int32.toInt64 r16) (tx17 : x17.toInt = r16.toInt) (ex18 : x18 = x15 + x17) (tx18 : x18.toInt = x15.toInt + x17.toInt) (ex19 : x19 = x18 - 97) (tx19 : x19.toInt = x18.toInt - 97) (ex20 : x20 = x19 + 1) : x20.toInt = x19.toInt + 1 := by
  have w1 : (1 : Int64).toInt = 1 := by decide +kernel
  rw [ex20, zl_add (by omega) (by omega)]; first | done | omega
theorem v_name_17 (st : Nat → Int32) (ar : Nat → Nat → Int32) (lo : Nat → Nat → Int64) (re : Nat → UInt64) (k0 : Int32) (y1 : Int32) (y2 : Int64) (r3 : Int32) (x12 : Int32) (x15 : Int64) (r16 : Int32) (x17 : Int64) (x18 : Int64) (x19 : Int64) (x20 : Int64) (x21 : Int32) (hpre : 0 ≤ (st 1).toInt ∧ (st 1).toInt ≤ 40 ∧ 0 ≤ (st 3).toInt ∧ (st 3).toInt ≤ k0.toInt ∧ k0.toInt < (st 1).toInt ∧ TKok (ar 4) (lo 6) (ar 7) (st 3).toInt ∧ (k0.toInt < (st 1).toInt ∧ 97 ≤ ((ar 2) k0.toNatClampNeg).toInt ∧ ((ar 2) k0.toNatClampNeg).toInt ≤ 122)) (hi4 : k0.toInt ≤ y1.toInt ∧ y1.toInt ≤ (st 1).toInt ∧ 0 ≤ y2.toInt ∧ ((y1.toInt - k0.toInt = 0 ∧ y2.toInt = 0) ∨ (y1.toInt - k0.toInt = 1 ∧ y2.toInt ≤ 26) ∨ (y1.toInt - k0.toInt = 2 ∧ y2.toInt ≤ 728) ∨ (y1.toInt - k0.toInt = 3 ∧ y2.toInt ≤ 19682) ∨ (y1.toInt - k0.toInt = 4 ∧ y2.toInt ≤ 531440) ∨ (y1.toInt - k0.toInt = 5 ∧ y2.toInt ≤ 14348906) ∨ (6 ≤ y1.toInt - k0.toInt ∧ y2.toInt ≤ 387420488))) (hr3 : (r3.toInt = 0 ∧ ¬ (y1.toInt < (st 1).toInt ∧ 97 ≤ ((ar 2) y1.toNatClampNeg).toInt ∧ ((ar 2) y1.toNatClampNeg).toInt ≤ 122)) ∨ (r3.toInt = 1 ∧ (y1.toInt < (st 1).toInt ∧ 97 ≤ ((ar 2) y1.toNatClampNeg).toInt ∧ ((ar 2) y1.toNatClampNeg).toInt ≤ 122))) (c4 : ¬ r3.toInt = (0)) (ex12 : x12 = y1 - k0) (tx12 : x12.toInt = y1.toInt - k0.toInt) (c13 : x12.toInt < (6)) (ex15 : x15 = y2 * 27) (tx15 : x15.toInt = y2.toInt * 27) (hr16 : (y1.toInt < (st 1).toInt ∧ r16.toInt = ((ar 2) y1.toNatClampNeg).toInt) ∨ ((st 1).toInt ≤ y1.toInt ∧ r16.toInt = 0)) (ex17 : x17 = Int32.toInt64 r16) (tx17 : x17.toInt = r16.toInt) (ex18 : x18 = x15 + x17) (tx18 : x18.toInt = x15.toInt + x17.toInt) (ex19 : x19 = x18 - 97) (tx19 : x19.toInt = x18.toInt - 97) (ex20 : x20 = x19 + 1) (tx20 : x20.toInt = x19.toInt + 1) (ex21 : x21 = y1 + 1) : x21.toInt = y1.toInt + (1) := by
  have z9 : (1 : Int32).toInt = 1 := by decide +kernel
  rw [ex21, z_add (by omega) (by omega)]; first | done | omega
theorem v_name_18 (st : Nat → Int32) (ar : Nat → Nat → Int32) (lo : Nat → Nat → Int64) (re : Nat → UInt64) (k0 : Int32) (y1 : Int32) (y2 : Int64) (r3 : Int32) (x12 : Int32) (x15 : Int64) (r16 : Int32) (x17 : Int64) (x18 : Int64) (x19 : Int64) (x20 : Int64) (x21 : Int32) (hpre : 0 ≤ (st 1).toInt ∧ (st 1).toInt ≤ 40 ∧ 0 ≤ (st 3).toInt ∧ (st 3).toInt ≤ k0.toInt ∧ k0.toInt < (st 1).toInt ∧ TKok (ar 4) (lo 6) (ar 7) (st 3).toInt ∧ (k0.toInt < (st 1).toInt ∧ 97 ≤ ((ar 2) k0.toNatClampNeg).toInt ∧ ((ar 2) k0.toNatClampNeg).toInt ≤ 122)) (hi4 : k0.toInt ≤ y1.toInt ∧ y1.toInt ≤ (st 1).toInt ∧ 0 ≤ y2.toInt ∧ ((y1.toInt - k0.toInt = 0 ∧ y2.toInt = 0) ∨ (y1.toInt - k0.toInt = 1 ∧ y2.toInt ≤ 26) ∨ (y1.toInt - k0.toInt = 2 ∧ y2.toInt ≤ 728) ∨ (y1.toInt - k0.toInt = 3 ∧ y2.toInt ≤ 19682) ∨ (y1.toInt - k0.toInt = 4 ∧ y2.toInt ≤ 531440) ∨ (y1.toInt - k0.toInt = 5 ∧ y2.toInt ≤ 14348906) ∨ (6 ≤ y1.toInt - k0.toInt ∧ y2.toInt ≤ 387420488))) (hr3 : (r3.toInt = 0 ∧ ¬ (y1.toInt < (st 1).toInt ∧ 97 ≤ ((ar 2) y1.toNatClampNeg).toInt ∧ ((ar 2) y1.toNatClampNeg).toInt ≤ 122)) ∨ (r3.toInt = 1 ∧ (y1.toInt < (st 1).toInt ∧ 97 ≤ ((ar 2) y1.toNatClampNeg).toInt ∧ ((ar 2) y1.toNatClampNeg).toInt ≤ 122))) (c4 : ¬ r3.toInt = (0)) (ex12 : x12 = y1 - k0) (tx12 : x12.toInt = y1.toInt - k0.toInt) (c13 : x12.toInt < (6)) (ex15 : x15 = y2 * 27) (tx15 : x15.toInt = y2.toInt * 27) (hr16 : (y1.toInt < (st 1).toInt ∧ r16.toInt = ((ar 2) y1.toNatClampNeg).toInt) ∨ ((st 1).toInt ≤ y1.toInt ∧ r16.toInt = 0)) (ex17 : x17 = Int32.toInt64 r16) (tx17 : x17.toInt = r16.toInt) (ex18 : x18 = x15 + x17) (tx18 : x18.toInt = x15.toInt + x17.toInt) (ex19 : x19 = x18 - 97) (tx19 : x19.toInt = x18.toInt - 97) (ex20 : x20 = x19 + 1) (tx20 : x20.toInt = x19.toInt + 1) (ex21 : x21 = y1 + 1) (tx21 : x21.toInt = y1.toInt + (1)) : k0.toInt ≤ x21.toInt ∧ x21.toInt ≤ (st 1).toInt ∧ 0 ≤ x20.toInt ∧ ((x21.toInt - k0.toInt = 0 ∧ x20.toInt = 0) ∨ (x21.toInt - k0.toInt = 1 ∧ x20.toInt ≤ 26) ∨ (x21.toInt - k0.toInt = 2 ∧ x20.toInt ≤ 728) ∨ (x21.toInt - k0.toInt = 3 ∧ x20.toInt ≤ 19682) ∨ (x21.toInt - k0.toInt = 4 ∧ x20.toInt ≤ 531440) ∨ (x21.toInt - k0.toInt = 5 ∧ x20.toInt ≤ 14348906) ∨ (6 ≤ x21.toInt - k0.toInt ∧ x20.toInt ≤ 387420488)) := by
  first | trivial | omega | (simp; done) | (simp; omega) | (simp_all; done) | (simp_all; omega)
theorem v_name_19 (st : Nat → Int32) (ar : Nat → Nat → Int32) (lo : Nat → Nat → Int64) (re : Nat → UInt64) (k0 : Int32) (y1 : Int32) (y2 : Int64) (r3 : Int32) (x12 : Int32) (x15 : Int64) (r16 : Int32) (x17 : Int64) (x18 : Int64) (x19 : Int64) (x20 : Int64) (x21 : Int32) (hpre : 0 ≤ (st 1).toInt ∧ (st 1).toInt ≤ 40 ∧ 0 ≤ (st 3).toInt ∧ (st 3).toInt ≤ k0.toInt ∧ k0.toInt < (st 1).toInt ∧ TKok (ar 4) (lo 6) (ar 7) (st 3).toInt ∧ (k0.toInt < (st 1).toInt ∧ 97 ≤ ((ar 2) k0.toNatClampNeg).toInt ∧ ((ar 2) k0.toNatClampNeg).toInt ≤ 122)) (hi4 : k0.toInt ≤ y1.toInt ∧ y1.toInt ≤ (st 1).toInt ∧ 0 ≤ y2.toInt ∧ ((y1.toInt - k0.toInt = 0 ∧ y2.toInt = 0) ∨ (y1.toInt - k0.toInt = 1 ∧ y2.toInt ≤ 26) ∨ (y1.toInt - k0.toInt = 2 ∧ y2.toInt ≤ 728) ∨ (y1.toInt - k0.toInt = 3 ∧ y2.toInt ≤ 19682) ∨ (y1.toInt - k0.toInt = 4 ∧ y2.toInt ≤ 531440) ∨ (y1.toInt - k0.toInt = 5 ∧ y2.toInt ≤ 14348906) ∨ (6 ≤ y1.toInt - k0.toInt ∧ y2.toInt ≤ 387420488))) (hr3 : (r3.toInt = 0 ∧ ¬ (y1.toInt < (st 1).toInt ∧ 97 ≤ ((ar 2) y1.toNatClampNeg).toInt ∧ ((ar 2) y1.toNatClampNeg).toInt ≤ 122)) ∨ (r3.toInt = 1 ∧ (y1.toInt < (st 1).toInt ∧ 97 ≤ ((ar 2) y1.toNatClampNeg).toInt ∧ ((ar 2) y1.toNatClampNeg).toInt ≤ 122))) (c4 : ¬ r3.toInt = (0)) (ex12 : x12 = y1 - k0) (tx12 : x12.toInt = y1.toInt - k0.toInt) (c13 : x12.toInt < (6)) (ex15 : x15 = y2 * 27) (tx15 : x15.toInt = y2.toInt * 27) (hr16 : (y1.toInt < (st 1).toInt ∧ r16.toInt = ((ar 2) y1.toNatClampNeg).toInt) ∨ ((st 1).toInt ≤ y1.toInt ∧ r16.toInt = 0)) (ex17 : x17 = Int32.toInt64 r16) (tx17 : x17.toInt = r16.toInt) (ex18 : x18 = x15 + x17) (tx18 : x18.toInt = x15.toInt + x17.toInt) (ex19 : x19 = x18 - 97) (tx19 : x19.toInt = x18.toInt - 97) (ex20 : x20 = x19 + 1) (tx20 : x20.toInt = x19.toInt + 1) (ex21 : x21 = y1 + 1) (tx21 : x21.toInt = y1.toInt + (1)) : ((st 1).toInt - x21.toInt).toNat < ((st 1).toInt - y1.toInt).toNat := by
  first | trivial | omega | (simp; done) | (simp; omega) | (simp_all; done) | (simp_all; omega)
theorem v_number_1 (st : Nat → Int32) (ar : Nat → Nat → Int32) (lo : Nat → Nat → Int64) (re : Nat → UInt64) (k0 : Int32) (hpre : 0 ≤ (st 1).toInt ∧ (st 1).toInt ≤ 40 ∧ 0 ≤ (st 3).toInt ∧ (st 3).toInt ≤ k0.toInt ∧ k0.toInt < (st 1).toInt ∧ TKok (ar 4) (lo 6) (ar 7) (st 3).toInt ∧ (k0.toInt < (st 1).toInt ∧ 48 ≤ ((ar 2) k0.toNatClampNeg).toInt ∧ ((ar 2) k0.toNatClampNeg).toInt ≤ 57)) : k0.toInt ≤ k0.toInt ∧ k0.toInt ≤ (st 1).toInt := by
  first | trivial | omega | (simp; done) | (simp; omega) | (simp_all; done) | (simp_all; omega)
theorem v_number_2 (st : Nat → Int32) (ar : Nat → Nat → Int32) (lo : Nat → Nat → Int64) (re : Nat → UInt64) (k0 : Int32) (y1 : Int32) (y2 : Int64) (hpre : 0 ≤ (st 1).toInt ∧ (st 1).toInt ≤ 40 ∧ 0 ≤ (st 3).toInt ∧ (st 3).toInt ≤ k0.toInt ∧ k0.toInt < (st 1).toInt ∧ TKok (ar 4) (lo 6) (ar 7) (st 3).toInt ∧ (k0.toInt < (st 1).toInt ∧ 48 ≤ ((ar 2) k0.toNatClampNeg).toInt ∧ ((ar 2) k0.toNatClampNeg).toInt ≤ 57)) (hi4 : k0.toInt ≤ y1.toInt ∧ y1.toInt ≤ (st 1).toInt) : 0 ≤ (st 1).toInt ∧ (st 1).toInt ≤ 40 ∧ 0 ≤ y1.toInt := by
  first | trivial | omega | (simp; done) | (simp; omega) | (simp_all; done) | (simp_all; omega)
theorem v_number_3 (st : Nat → Int32) (ar : Nat → Nat → Int32) (lo : Nat → Nat → Int64) (re : Nat → UInt64) (k0 : Int32) (y1 : Int32) (y2 : Int64) (r3 : Int32) (x5 : Int32) (hpre : 0 ≤ (st 1).toInt ∧ (st 1).toInt ≤ 40 ∧ 0 ≤ (st 3).toInt ∧ (st 3).toInt ≤ k0.toInt ∧ k0.toInt < (st 1).toInt ∧ TKok (ar 4) (lo 6) (ar 7) (st 3).toInt ∧ (k0.toInt < (st 1).toInt ∧ 48 ≤ ((ar 2) k0.toNatClampNeg).toInt ∧ ((ar 2) k0.toNatClampNeg).toInt ≤ 57)) (hi4 : k0.toInt ≤ y1.toInt ∧ y1.toInt ≤ (st 1).toInt) (hr3 : (r3.toInt = 0 ∧ ¬ (y1.toInt < (st 1).toInt ∧ 48 ≤ ((ar 2) y1.toNatClampNeg).toInt ∧ ((ar 2) y1.toNatClampNeg).toInt ≤ 57)) ∨ (r3.toInt = 1 ∧ (y1.toInt < (st 1).toInt ∧ 48 ≤ ((ar 2) y1.toNatClampNeg).toInt ∧ ((ar 2) y1.toNatClampNeg).toInt ≤ 57))) (c4 : r3.toInt = (0)) (ex5 : x5 = y1 - k0) : x5.toInt = y1.toInt - k0.toInt := by
  rw [ex5, z_sub (by omega) (by omega)]; first | done | omega
theorem v_number_4 (st : Nat → Int32) (ar : Nat → Nat → Int32) (lo : Nat → Nat → Int64) (re : Nat → UInt64) (k0 : Int32) (y1 : Int32) (y2 : Int64) (r3 : Int32) (x5 : Int32) (hpre : 0 ≤ (st 1).toInt ∧ (st 1).toInt ≤ 40 ∧ 0 ≤ (st 3).toInt ∧ (st 3).toInt ≤ k0.toInt ∧ k0.toInt < (st 1).toInt ∧ TKok (ar 4) (lo 6) (ar 7) (st 3).toInt ∧ (k0.toInt < (st 1).toInt ∧ 48 ≤ ((ar 2) k0.toNatClampNeg).toInt ∧ ((ar 2) k0.toNatClampNeg).toInt ≤ 57)) (hi4 : k0.toInt ≤ y1.toInt ∧ y1.toInt ≤ (st 1).toInt) (hr3 : (r3.toInt = 0 ∧ ¬ (y1.toInt < (st 1).toInt ∧ 48 ≤ ((ar 2) y1.toNatClampNeg).toInt ∧ ((ar 2) y1.toNatClampNeg).toInt ≤ 57)) ∨ (r3.toInt = 1 ∧ (y1.toInt < (st 1).toInt ∧ 48 ≤ ((ar 2) y1.toNatClampNeg).toInt ∧ ((ar 2) y1.toNatClampNeg).toInt ≤ 57))) (c4 : r3.toInt = (0)) (ex5 : x5 = y1 - k0) (tx5 : x5.toInt = y1.toInt - k0.toInt) : 0 ≤ (st 1).toInt ∧ (st 1).toInt ≤ 40 ∧ 0 ≤ y1.toInt := by
  first | trivial | omega | (simp; done) | (simp; omega) | (simp_all; done) | (simp_all; omega)
theorem v_number_5 (st : Nat → Int32) (ar : Nat → Nat → Int32) (lo : Nat → Nat → Int64) (re : Nat → UInt64) (k0 : Int32) (y1 : Int32) (y2 : Int64) (r3 : Int32) (x5 : Int32) (r6 : Int32) (hpre : 0 ≤ (st 1).toInt ∧ (st 1).toInt ≤ 40 ∧ 0 ≤ (st 3).toInt ∧ (st 3).toInt ≤ k0.toInt ∧ k0.toInt < (st 1).toInt ∧ TKok (ar 4) (lo 6) (ar 7) (st 3).toInt ∧ (k0.toInt < (st 1).toInt ∧ 48 ≤ ((ar 2) k0.toNatClampNeg).toInt ∧ ((ar 2) k0.toNatClampNeg).toInt ≤ 57)) (hi4 : k0.toInt ≤ y1.toInt ∧ y1.toInt ≤ (st 1).toInt) (hr3 : (r3.toInt = 0 ∧ ¬ (y1.toInt < (st 1).toInt ∧ 48 ≤ ((ar 2) y1.toNatClampNeg).toInt ∧ ((ar 2) y1.toNatClampNeg).toInt ≤ 57)) ∨ (r3.toInt = 1 ∧ (y1.toInt < (st 1).toInt ∧ 48 ≤ ((ar 2) y1.toNatClampNeg).toInt ∧ ((ar 2) y1.toNatClampNeg).toInt ≤ 57))) (c4 : r3.toInt = (0)) (ex5 : x5 = y1 - k0) (tx5 : x5.toInt = y1.toInt - k0.toInt) (hr6 : (y1.toInt < (st 1).toInt ∧ r6.toInt = ((ar 2) y1.toNatClampNeg).toInt) ∨ ((st 1).toInt ≤ y1.toInt ∧ r6.toInt = 0)) (c7 : ¬ r6.toInt = (46)) (c8 : (6) < x5.toInt) : True := by
  first | trivial | omega | (simp; done) | (simp; omega) | (simp_all; done) | (simp_all; omega)
theorem v_number_6 (st : Nat → Int32) (ar : Nat → Nat → Int32) (lo : Nat → Nat → Int64) (re : Nat → UInt64) (k0 : Int32) (y1 : Int32) (y2 : Int64) (r3 : Int32) (x5 : Int32) (r6 : Int32) (n10 : Int32) (n11 : Int32) (hpre : 0 ≤ (st 1).toInt ∧ (st 1).toInt ≤ 40 ∧ 0 ≤ (st 3).toInt ∧ (st 3).toInt ≤ k0.toInt ∧ k0.toInt < (st 1).toInt ∧ TKok (ar 4) (lo 6) (ar 7) (st 3).toInt ∧ (k0.toInt < (st 1).toInt ∧ 48 ≤ ((ar 2) k0.toNatClampNeg).toInt ∧ ((ar 2) k0.toNatClampNeg).toInt ≤ 57)) (hi4 : k0.toInt ≤ y1.toInt ∧ y1.toInt ≤ (st 1).toInt) (hr3 : (r3.toInt = 0 ∧ ¬ (y1.toInt < (st 1).toInt ∧ 48 ≤ ((ar 2) y1.toNatClampNeg).toInt ∧ ((ar 2) y1.toNatClampNeg).toInt ≤ 57)) ∨ (r3.toInt = 1 ∧ (y1.toInt < (st 1).toInt ∧ 48 ≤ ((ar 2) y1.toNatClampNeg).toInt ∧ ((ar 2) y1.toNatClampNeg).toInt ≤ 57))) (c4 : r3.toInt = (0)) (ex5 : x5 = y1 - k0) (tx5 : x5.toInt = y1.toInt - k0.toInt) (hr6 : (y1.toInt < (st 1).toInt ∧ r6.toInt = ((ar 2) y1.toNatClampNeg).toInt) ∨ ((st 1).toInt ≤ y1.toInt ∧ r6.toInt = 0)) (c7 : ¬ r6.toInt = (46)) (c8 : (6) < x5.toInt) (hr9 : ((st 8).toInt = 0 → n10 = (1 : Int32)) ∧ (¬ (st 8).toInt = 0 → n10 = (st 8))) : k0.toInt < y1.toInt ∧ y1.toInt ≤ (st 1).toInt ∧ 0 ≤ (st 3).toInt ∧ (st 3).toInt ≤ y1.toInt ∧ TKok (ar 4) (lo 6) (ar 7) (st 3).toInt := by
  have q1 : (1 : Int32).toInt = 1 := by decide +kernel
  have hy : ∀ y : Int32, y.toInt = k0.toInt → y = k0 := fun y h => Int32.toInt_inj.mp h
  have hc : y1.toInt ≠ k0.toInt := by
    intro h; have h := hy _ h; subst h; omega
  have hz := hpre.2.2.2.2.2.1
  and_intros <;> first | omega | exact hz | exact tk_add hz (by omega) (clampZ (by omega)) (by omega) (by omega) (by omega) | exact tk_add2 hz (by omega) (clampZ (by omega)) ((clampZ (by omega)).trans (by omega)) (by omega) (by omega) (by omega)
theorem v_number_7 (st : Nat → Int32) (ar : Nat → Nat → Int32) (lo : Nat → Nat → Int64) (re : Nat → UInt64) (k0 : Int32) (y1 : Int32) (y2 : Int64) (r3 : Int32) (x5 : Int32) (r6 : Int32) (hpre : 0 ≤ (st 1).toInt ∧ (st 1).toInt ≤ 40 ∧ 0 ≤ (st 3).toInt ∧ (st 3).toInt ≤ k0.toInt ∧ k0.toInt < (st 1).toInt ∧ TKok (ar 4) (lo 6) (ar 7) (st 3).toInt ∧ (k0.toInt < (st 1).toInt ∧ 48 ≤ ((ar 2) k0.toNatClampNeg).toInt ∧ ((ar 2) k0.toNatClampNeg).toInt ≤ 57)) (hi4 : k0.toInt ≤ y1.toInt ∧ y1.toInt ≤ (st 1).toInt) (hr3 : (r3.toInt = 0 ∧ ¬ (y1.toInt < (st 1).toInt ∧ 48 ≤ ((ar 2) y1.toNatClampNeg).toInt ∧ ((ar 2) y1.toNatClampNeg).toInt ≤ 57)) ∨ (r3.toInt = 1 ∧ (y1.toInt < (st 1).toInt ∧ 48 ≤ ((ar 2) y1.toNatClampNeg).toInt ∧ ((ar 2) y1.toNatClampNeg).toInt ≤ 57))) (c4 : r3.toInt = (0)) (ex5 : x5 = y1 - k0) (tx5 : x5.toInt = y1.toInt - k0.toInt) (hr6 : (y1.toInt < (st 1).toInt ∧ r6.toInt = ((ar 2) y1.toNatClampNeg).toInt) ∨ ((st 1).toInt ≤ y1.toInt ∧ r6.toInt = 0)) (c7 : ¬ r6.toInt = (46)) (c8 : x5.toInt ≤ (6)) : 0 ≤ (st 3).toInt ∧ (st 3).toInt ≤ 41 := by
  first | trivial | omega | (simp; done) | (simp; omega) | (simp_all; done) | (simp_all; omega)
theorem v_number_8 (st : Nat → Int32) (ar : Nat → Nat → Int32) (lo : Nat → Nat → Int64) (re : Nat → UInt64) (k0 : Int32) (y1 : Int32) (y2 : Int64) (r3 : Int32) (x5 : Int32) (r6 : Int32) (n15 : Int32) (x16 : Int32) (hpre : 0 ≤ (st 1).toInt ∧ (st 1).toInt ≤ 40 ∧ 0 ≤ (st 3).toInt ∧ (st 3).toInt ≤ k0.toInt ∧ k0.toInt < (st 1).toInt ∧ TKok (ar 4) (lo 6) (ar 7) (st 3).toInt ∧ (k0.toInt < (st 1).toInt ∧ 48 ≤ ((ar 2) k0.toNatClampNeg).toInt ∧ ((ar 2) k0.toNatClampNeg).toInt ≤ 57)) (hi4 : k0.toInt ≤ y1.toInt ∧ y1.toInt ≤ (st 1).toInt) (hr3 : (r3.toInt = 0 ∧ ¬ (y1.toInt < (st 1).toInt ∧ 48 ≤ ((ar 2) y1.toNatClampNeg).toInt ∧ ((ar 2) y1.toNatClampNeg).toInt ≤ 57)) ∨ (r3.toInt = 1 ∧ (y1.toInt < (st 1).toInt ∧ 48 ≤ ((ar 2) y1.toNatClampNeg).toInt ∧ ((ar 2) y1.toNatClampNeg).toInt ≤ 57))) (c4 : r3.toInt = (0)) (ex5 : x5 = y1 - k0) (tx5 : x5.toInt = y1.toInt - k0.toInt) (hr6 : (y1.toInt < (st 1).toInt ∧ r6.toInt = ((ar 2) y1.toNatClampNeg).toInt) ∨ ((st 1).toInt ≤ y1.toInt ∧ r6.toInt = 0)) (c7 : ¬ r6.toInt = (46)) (c8 : x5.toInt ≤ (6)) (hr14 : n15.toInt = (st 3).toInt + 1) (ex16 : x16 = n15 - 1) : x16.toInt = n15.toInt - (1) := by
  have z1 : (1 : Int32).toInt = 1 := by decide +kernel
  rw [ex16, z_sub (by omega) (by omega)]; first | done | omega
theorem v_number_9 (st : Nat → Int32) (ar : Nat → Nat → Int32) (lo : Nat → Nat → Int64) (re : Nat → UInt64) (k0 : Int32) (y1 : Int32) (y2 : Int64) (r3 : Int32) (x5 : Int32) (r6 : Int32) (n15 : Int32) (x16 : Int32) (hpre : 0 ≤ (st 1).toInt ∧ (st 1).toInt ≤ 40 ∧ 0 ≤ (st 3).toInt ∧ (st 3).toInt ≤ k0.toInt ∧ k0.toInt < (st 1).toInt ∧ TKok (ar 4) (lo 6) (ar 7) (st 3).toInt ∧ (k0.toInt < (st 1).toInt ∧ 48 ≤ ((ar 2) k0.toNatClampNeg).toInt ∧ ((ar 2) k0.toNatClampNeg).toInt ≤ 57)) (hi4 : k0.toInt ≤ y1.toInt ∧ y1.toInt ≤ (st 1).toInt) (hr3 : (r3.toInt = 0 ∧ ¬ (y1.toInt < (st 1).toInt ∧ 48 ≤ ((ar 2) y1.toNatClampNeg).toInt ∧ ((ar 2) y1.toNatClampNeg).toInt ≤ 57)) ∨ (r3.toInt = 1 ∧ (y1.toInt < (st 1).toInt ∧ 48 ≤ ((ar 2) y1.toNatClampNeg).toInt ∧ ((ar 2) y1.toNatClampNeg).toInt ≤ 57))) (c4 : r3.toInt = (0)) (ex5 : x5 = y1 - k0) (tx5 : x5.toInt = y1.toInt - k0.toInt) (hr6 : (y1.toInt < (st 1).toInt ∧ r6.toInt = ((ar 2) y1.toNatClampNeg).toInt) ∨ ((st 1).toInt ≤ y1.toInt ∧ r6.toInt = 0)) (c7 : ¬ r6.toInt = (46)) (c8 : x5.toInt ≤ (6)) (hr14 : n15.toInt = (st 3).toInt + 1) (ex16 : x16 = n15 - 1) (tx16 : x16.toInt = n15.toInt - (1)) : vp_in x16 42 := by
  exact vp_in_iff.mpr ⟨by  omega, by  omega⟩
theorem v_number_10 (st : Nat → Int32) (ar : Nat → Nat → Int32) (lo : Nat → Nat → Int64) (re : Nat → UInt64) (k0 : Int32) (y1 : Int32) (y2 : Int64) (r3 : Int32) (x5 : Int32) (r6 : Int32) (n15 : Int32) (x16 : Int32) (hpre : 0 ≤ (st 1).toInt ∧ (st 1).toInt ≤ 40 ∧ 0 ≤ (st 3).toInt ∧ (st 3).toInt ≤ k0.toInt ∧ k0.toInt < (st 1).toInt ∧ TKok (ar 4) (lo 6) (ar 7) (st 3).toInt ∧ (k0.toInt < (st 1).toInt ∧ 48 ≤ ((ar 2) k0.toNatClampNeg).toInt ∧ ((ar 2) k0.toNatClampNeg).toInt ≤ 57)) (hi4 : k0.toInt ≤ y1.toInt ∧ y1.toInt ≤ (st 1).toInt) (hr3 : (r3.toInt = 0 ∧ ¬ (y1.toInt < (st 1).toInt ∧ 48 ≤ ((ar 2) y1.toNatClampNeg).toInt ∧ ((ar 2) y1.toNatClampNeg).toInt ≤ 57)) ∨ (r3.toInt = 1 ∧ (y1.toInt < (st 1).toInt ∧ 48 ≤ ((ar 2) y1.toNatClampNeg).toInt ∧ ((ar 2) y1.toNatClampNeg).toInt ≤ 57))) (c4 : r3.toInt = (0)) (ex5 : x5 = y1 - k0) (tx5 : x5.toInt = y1.toInt - k0.toInt) (hr6 : (y1.toInt < (st 1).toInt ∧ r6.toInt = ((ar 2) y1.toNatClampNeg).toInt) ∨ ((st 1).toInt ≤ y1.toInt ∧ r6.toInt = 0)) (c7 : ¬ r6.toInt = (46)) (c8 : x5.toInt ≤ (6)) (hr14 : n15.toInt = (st 3).toInt + 1) (ex16 : x16 = n15 - 1) (tx16 : x16.toInt = n15.toInt - (1)) : k0.toInt < y1.toInt ∧ y1.toInt ≤ (st 1).toInt ∧ 0 ≤ n15.toInt ∧ n15.toInt ≤ y1.toInt ∧ TKok (upd (ar 4) (st 3).toNatClampNeg (1 : Int32)) (vp_updL (lo 6) (st 3).toNatClampNeg y2) (upd (upd (ar 7) (st 3).toNatClampNeg 0) x16.toNatClampNeg 0) n15.toInt := by
  have q1 : (1 : Int32).toInt = 1 := by decide +kernel
  have hy : ∀ y : Int32, y.toInt = k0.toInt → y = k0 := fun y h => Int32.toInt_inj.mp h
  have hc : y1.toInt ≠ k0.toInt := by
    intro h; have h := hy _ h; subst h; omega
  have hz := hpre.2.2.2.2.2.1
  and_intros <;> first | omega | exact hz | exact tk_add hz (by omega) (clampZ (by omega)) (by omega) (by omega) (by omega) | exact tk_add2 hz (by omega) (clampZ (by omega)) ((clampZ (by omega)).trans (by omega)) (by omega) (by omega) (by omega)
theorem v_number_11 (st : Nat → Int32) (ar : Nat → Nat → Int32) (lo : Nat → Nat → Int64) (re : Nat → UInt64) (k0 : Int32) (y1 : Int32) (y2 : Int64) (r3 : Int32) (x5 : Int32) (r6 : Int32) (x17 : Int32) (hpre : 0 ≤ (st 1).toInt ∧ (st 1).toInt ≤ 40 ∧ 0 ≤ (st 3).toInt ∧ (st 3).toInt ≤ k0.toInt ∧ k0.toInt < (st 1).toInt ∧ TKok (ar 4) (lo 6) (ar 7) (st 3).toInt ∧ (k0.toInt < (st 1).toInt ∧ 48 ≤ ((ar 2) k0.toNatClampNeg).toInt ∧ ((ar 2) k0.toNatClampNeg).toInt ≤ 57)) (hi4 : k0.toInt ≤ y1.toInt ∧ y1.toInt ≤ (st 1).toInt) (hr3 : (r3.toInt = 0 ∧ ¬ (y1.toInt < (st 1).toInt ∧ 48 ≤ ((ar 2) y1.toNatClampNeg).toInt ∧ ((ar 2) y1.toNatClampNeg).toInt ≤ 57)) ∨ (r3.toInt = 1 ∧ (y1.toInt < (st 1).toInt ∧ 48 ≤ ((ar 2) y1.toNatClampNeg).toInt ∧ ((ar 2) y1.toNatClampNeg).toInt ≤ 57))) (c4 : r3.toInt = (0)) (ex5 : x5 = y1 - k0) (tx5 : x5.toInt = y1.toInt - k0.toInt) (hr6 : (y1.toInt < (st 1).toInt ∧ r6.toInt = ((ar 2) y1.toNatClampNeg).toInt) ∨ ((st 1).toInt ≤ y1.toInt ∧ r6.toInt = 0)) (c7 : r6.toInt = (46)) (ex17 : x17 = y1 + 1) : x17.toInt = y1.toInt + (1) := by
  have z1 : (1 : Int32).toInt = 1 := by decide +kernel
  rw [ex17, z_add (by omega) (by omega)]; first | done | omega
theorem v_number_12 (st : Nat → Int32) (ar : Nat → Nat → Int32) (lo : Nat → Nat → Int64) (re : Nat → UInt64) (k0 : Int32) (y1 : Int32) (y2 : Int64) (r3 : Int32) (x5 : Int32) (r6 : Int32) (x17 : Int32) (hpre : 0 ≤ (st 1).toInt ∧ (st 1).toInt ≤ 40 ∧ 0 ≤ (st 3).toInt ∧ (st 3).toInt ≤ k0.toInt ∧ k0.toInt < (st 1).toInt ∧ TKok (ar 4) (lo 6) (ar 7) (st 3).toInt ∧ (k0.toInt < (st 1).toInt ∧ 48 ≤ ((ar 2) k0.toNatClampNeg).toInt ∧ ((ar 2) k0.toNatClampNeg).toInt ≤ 57)) (hi4 : k0.toInt ≤ y1.toInt ∧ y1.toInt ≤ (st 1).toInt) (hr3 : (r3.toInt = 0 ∧ ¬ (y1.toInt < (st 1).toInt ∧ 48 ≤ ((ar 2) y1.toNatClampNeg).toInt ∧ ((ar 2) y1.toNatClampNeg).toInt ≤ 57)) ∨ (r3.toInt = 1 ∧ (y1.toInt < (st 1).toInt ∧ 48 ≤ ((ar 2) y1.toNatClampNeg).toInt ∧ ((ar 2) y1.toNatClampNeg).toInt ≤ 57))) (c4 : r3.toInt = (0)) (ex5 : x5 = y1 - k0) (tx5 : x5.toInt = y1.toInt - k0.toInt) (hr6 : (y1.toInt < (st 1).toInt ∧ r6.toInt = ((ar 2) y1.toNatClampNeg).toInt) ∨ ((st 1).toInt ≤ y1.toInt ∧ r6.toInt = 0)) (c7 : r6.toInt = (46)) (ex17 : x17 = y1 + 1) (tx17 : x17.toInt = y1.toInt + (1)) : 0 ≤ (st 1).toInt ∧ (st 1).toInt ≤ 40 ∧ 0 ≤ x17.toInt := by
  first | trivial | omega | (simp; done) | (simp; omega) | (simp_all; done) | (simp_all; omega)
theorem v_number_13 (st : Nat → Int32) (ar : Nat → Nat → Int32) (lo : Nat → Nat → Int64) (re : Nat → UInt64) (k0 : Int32) (y1 : Int32) (y2 : Int64) (r3 : Int32) (x5 : Int32) (r6 : Int32) (x17 : Int32) (r18 : Int32) (hpre : 0 ≤ (st 1).toInt ∧ (st 1).toInt ≤ 40 ∧ 0 ≤ (st 3).toInt ∧ (st 3).toInt ≤ k0.toInt ∧ k0.toInt < (st 1).toInt ∧ TKok (ar 4) (lo 6) (ar 7) (st 3).toInt ∧ (k0.toInt < (st 1).toInt ∧ 48 ≤ ((ar 2) k0.toNatClampNeg).toInt ∧ ((ar 2) k0.toNatClampNeg).toInt ≤ 57)) (hi4 : k0.toInt ≤ y1.toInt ∧ y1.toInt ≤ (st 1).toInt) (hr3 : (r3.toInt = 0 ∧ ¬ (y1.toInt < (st 1).toInt ∧ 48 ≤ ((ar 2) y1.toNatClampNeg).toInt ∧ ((ar 2) y1.toNatClampNeg).toInt ≤ 57)) ∨ (r3.toInt = 1 ∧ (y1.toInt < (st 1).toInt ∧ 48 ≤ ((ar 2) y1.toNatClampNeg).toInt ∧ ((ar 2) y1.toNatClampNeg).toInt ≤ 57))) (c4 : r3.toInt = (0)) (ex5 : x5 = y1 - k0) (tx5 : x5.toInt = y1.toInt - k0.toInt) (hr6 : (y1.toInt < (st 1).toInt ∧ r6.toInt = ((ar 2) y1.toNatClampNeg).toInt) ∨ ((st 1).toInt ≤ y1.toInt ∧ r6.toInt = 0)) (c7 : r6.toInt = (46)) (ex17 : x17 = y1 + 1) (tx17 : x17.toInt = y1.toInt + (1)) (hr18 : (r18.toInt = 0 ∧ ¬ (x17.toInt < (st 1).toInt ∧ 48 ≤ ((ar 2) x17.toNatClampNeg).toInt ∧ ((ar 2) x17.toNatClampNeg).toInt ≤ 57)) ∨ (r18.toInt = 1 ∧ (x17.toInt < (st 1).toInt ∧ 48 ≤ ((ar 2) x17.toNatClampNeg).toInt ∧ ((ar 2) x17.toNatClampNeg).toInt ≤ 57))) (c19 : r18.toInt = (0)) (c20 : (6) < x5.toInt) : True := by
  first | trivial | omega | (simp; done) | (simp; omega) | (simp_all; done) | (simp_all; omega)
theorem v_number_14 (st : Nat → Int32) (ar : Nat → Nat → Int32) (lo : Nat → Nat → Int64) (re : Nat → UInt64) (k0 : Int32) (y1 : Int32) (y2 : Int64) (r3 : Int32) (x5 : Int32) (r6 : Int32) (x17 : Int32) (r18 : Int32) (n22 : Int32) (n23 : Int32) (hpre : 0 ≤ (st 1).toInt ∧ (st 1).toInt ≤ 40 ∧ 0 ≤ (st 3).toInt ∧ (st 3).toInt ≤ k0.toInt ∧ k0.toInt < (st 1).toInt ∧ TKok (ar 4) (lo 6) (ar 7) (st 3).toInt ∧ (k0.toInt < (st 1).toInt ∧ 48 ≤ ((ar 2) k0.toNatClampNeg).toInt ∧ ((ar 2) k0.toNatClampNeg).toInt ≤ 57)) (hi4 : k0.toInt ≤ y1.toInt ∧ y1.toInt ≤ (st 1).toInt) (hr3 : (r3.toInt = 0 ∧ ¬ (y1.toInt < (st 1).toInt ∧ 48 ≤ ((ar 2) y1.toNatClampNeg).toInt ∧ ((ar 2) y1.toNatClampNeg).toInt ≤ 57)) ∨ (r3.toInt = 1 ∧ (y1.toInt < (st 1).toInt ∧ 48 ≤ ((ar 2) y1.toNatClampNeg).toInt ∧ ((ar 2) y1.toNatClampNeg).toInt ≤ 57))) (c4 : r3.toInt = (0)) (ex5 : x5 = y1 - k0) (tx5 : x5.toInt = y1.toInt - k0.toInt) (hr6 : (y1.toInt < (st 1).toInt ∧ r6.toInt = ((ar 2) y1.toNatClampNeg).toInt) ∨ ((st 1).toInt ≤ y1.toInt ∧ r6.toInt = 0)) (c7 : r6.toInt = (46)) (ex17 : x17 = y1 + 1) (tx17 : x17.toInt = y1.toInt + (1)) (hr18 : (r18.toInt = 0 ∧ ¬ (x17.toInt < (st 1).toInt ∧ 48 ≤ ((ar 2) x17.toNatClampNeg).toInt ∧ ((ar 2) x17.toNatClampNeg).toInt ≤ 57)) ∨ (r18.toInt = 1 ∧ (x17.toInt < (st 1).toInt ∧ 48 ≤ ((ar 2) x17.toNatClampNeg).toInt ∧ ((ar 2) x17.toNatClampNeg).toInt ≤ 57))) (c19 : r18.toInt = (0)) (c20 : (6) < x5.toInt) (hr21 : ((st 8).toInt = 0 → n22 = (1 : Int32)) ∧ (¬ (st 8).toInt = 0 → n22 = (st 8))) : k0.toInt < y1.toInt ∧ y1.toInt ≤ (st 1).toInt ∧ 0 ≤ (st 3).toInt ∧ (st 3).toInt ≤ y1.toInt ∧ TKok (ar 4) (lo 6) (ar 7) (st 3).toInt := by
  have q1 : (1 : Int32).toInt = 1 := by decide +kernel
  have hy : ∀ y : Int32, y.toInt = k0.toInt → y = k0 := fun y h => Int32.toInt_inj.mp h
  have hc : y1.toInt ≠ k0.toInt := by
    intro h; have h := hy _ h; subst h; omega
  have hz := hpre.2.2.2.2.2.1
  and_intros <;> first | omega | exact hz | exact tk_add hz (by omega) (clampZ (by omega)) (by omega) (by omega) (by omega) | exact tk_add2 hz (by omega) (clampZ (by omega)) ((clampZ (by omega)).trans (by omega)) (by omega) (by omega) (by omega)
theorem v_number_15 (st : Nat → Int32) (ar : Nat → Nat → Int32) (lo : Nat → Nat → Int64) (re : Nat → UInt64) (k0 : Int32) (y1 : Int32) (y2 : Int64) (r3 : Int32) (x5 : Int32) (r6 : Int32) (x17 : Int32) (r18 : Int32) (hpre : 0 ≤ (st 1).toInt ∧ (st 1).toInt ≤ 40 ∧ 0 ≤ (st 3).toInt ∧ (st 3).toInt ≤ k0.toInt ∧ k0.toInt < (st 1).toInt ∧ TKok (ar 4) (lo 6) (ar 7) (st 3).toInt ∧ (k0.toInt < (st 1).toInt ∧ 48 ≤ ((ar 2) k0.toNatClampNeg).toInt ∧ ((ar 2) k0.toNatClampNeg).toInt ≤ 57)) (hi4 : k0.toInt ≤ y1.toInt ∧ y1.toInt ≤ (st 1).toInt) (hr3 : (r3.toInt = 0 ∧ ¬ (y1.toInt < (st 1).toInt ∧ 48 ≤ ((ar 2) y1.toNatClampNeg).toInt ∧ ((ar 2) y1.toNatClampNeg).toInt ≤ 57)) ∨ (r3.toInt = 1 ∧ (y1.toInt < (st 1).toInt ∧ 48 ≤ ((ar 2) y1.toNatClampNeg).toInt ∧ ((ar 2) y1.toNatClampNeg).toInt ≤ 57))) (c4 : r3.toInt = (0)) (ex5 : x5 = y1 - k0) (tx5 : x5.toInt = y1.toInt - k0.toInt) (hr6 : (y1.toInt < (st 1).toInt ∧ r6.toInt = ((ar 2) y1.toNatClampNeg).toInt) ∨ ((st 1).toInt ≤ y1.toInt ∧ r6.toInt = 0)) (c7 : r6.toInt = (46)) (ex17 : x17 = y1 + 1) (tx17 : x17.toInt = y1.toInt + (1)) (hr18 : (r18.toInt = 0 ∧ ¬ (x17.toInt < (st 1).toInt ∧ 48 ≤ ((ar 2) x17.toNatClampNeg).toInt ∧ ((ar 2) x17.toNatClampNeg).toInt ≤ 57)) ∨ (r18.toInt = 1 ∧ (x17.toInt < (st 1).toInt ∧ 48 ≤ ((ar 2) x17.toNatClampNeg).toInt ∧ ((ar 2) x17.toNatClampNeg).toInt ≤ 57))) (c19 : r18.toInt = (0)) (c20 : x5.toInt ≤ (6)) : 0 ≤ (st 3).toInt ∧ (st 3).toInt ≤ 41 := by
  first | trivial | omega | (simp; done) | (simp; omega) | (simp_all; done) | (simp_all; omega)
theorem v_number_16 (st : Nat → Int32) (ar : Nat → Nat → Int32) (lo : Nat → Nat → Int64) (re : Nat → UInt64) (k0 : Int32) (y1 : Int32) (y2 : Int64) (r3 : Int32) (x5 : Int32) (r6 : Int32) (x17 : Int32) (r18 : Int32) (n27 : Int32) (x28 : Int32) (hpre : 0 ≤ (st 1).toInt ∧ (st 1).toInt ≤ 40 ∧ 0 ≤ (st 3).toInt ∧ (st 3).toInt ≤ k0.toInt ∧ k0.toInt < (st 1).toInt ∧ TKok (ar 4) (lo 6) (ar 7) (st 3).toInt ∧ (k0.toInt < (st 1).toInt ∧ 48 ≤ ((ar 2) k0.toNatClampNeg).toInt ∧ ((ar 2) k0.toNatClampNeg).toInt ≤ 57)) (hi4 : k0.toInt ≤ y1.toInt ∧ y1.toInt ≤ (st 1).toInt) (hr3 : (r3.toInt = 0 ∧ ¬ (y1.toInt < (st 1).toInt ∧ 48 ≤ ((ar 2) y1.toNatClampNeg).toInt ∧ ((ar 2) y1.toNatClampNeg).toInt ≤ 57)) ∨ (r3.toInt = 1 ∧ (y1.toInt < (st 1).toInt ∧ 48 ≤ ((ar 2) y1.toNatClampNeg).toInt ∧ ((ar 2) y1.toNatClampNeg).toInt ≤ 57))) (c4 : r3.toInt = (0)) (ex5 : x5 = y1 - k0) (tx5 : x5.toInt = y1.toInt - k0.toInt) (hr6 : (y1.toInt < (st 1).toInt ∧ r6.toInt = ((ar 2) y1.toNatClampNeg).toInt) ∨ ((st 1).toInt ≤ y1.toInt ∧ r6.toInt = 0)) (c7 : r6.toInt = (46)) (ex17 : x17 = y1 + 1) (tx17 : x17.toInt = y1.toInt + (1)) (hr18 : (r18.toInt = 0 ∧ ¬ (x17.toInt < (st 1).toInt ∧ 48 ≤ ((ar 2) x17.toNatClampNeg).toInt ∧ ((ar 2) x17.toNatClampNeg).toInt ≤ 57)) ∨ (r18.toInt = 1 ∧ (x17.toInt < (st 1).toInt ∧ 48 ≤ ((ar 2) x17.toNatClampNeg).toInt ∧ ((ar 2) x17.toNatClampNeg).toInt ≤ 57))) (c19 : r18.toInt = (0)) (c20 : x5.toInt ≤ (6)) (hr26 : n27.toInt = (st 3).toInt + 1) (ex28 : x28 = n27 - 1) : x28.toInt = n27.toInt - (1) := by
  have z1 : (1 : Int32).toInt = 1 := by decide +kernel
  rw [ex28, z_sub (by omega) (by omega)]; first | done | omega
theorem v_number_17 (st : Nat → Int32) (ar : Nat → Nat → Int32) (lo : Nat → Nat → Int64) (re : Nat → UInt64) (k0 : Int32) (y1 : Int32) (y2 : Int64) (r3 : Int32) (x5 : Int32) (r6 : Int32) (x17 : Int32) (r18 : Int32) (n27 : Int32) (x28 : Int32) (hpre : 0 ≤ (st 1).toInt ∧ (st 1).toInt ≤ 40 ∧ 0 ≤ (st 3).toInt ∧ (st 3).toInt ≤ k0.toInt ∧ k0.toInt < (st 1).toInt ∧ TKok (ar 4) (lo 6) (ar 7) (st 3).toInt ∧ (k0.toInt < (st 1).toInt ∧ 48 ≤ ((ar 2) k0.toNatClampNeg).toInt ∧ ((ar 2) k0.toNatClampNeg).toInt ≤ 57)) (hi4 : k0.toInt ≤ y1.toInt ∧ y1.toInt ≤ (st 1).toInt) (hr3 : (r3.toInt = 0 ∧ ¬ (y1.toInt < (st 1).toInt ∧ 48 ≤ ((ar 2) y1.toNatClampNeg).toInt ∧ ((ar 2) y1.toNatClampNeg).toInt ≤ 57)) ∨ (r3.toInt = 1 ∧ (y1.toInt < (st 1).toInt ∧ 48 ≤ ((ar 2) y1.toNatClampNeg).toInt ∧ ((ar 2) y1.toNatClampNeg).toInt ≤ 57))) (c4 : r3.toInt = (0)) (ex5 : x5 = y1 - k0) (tx5 : x5.toInt = y1.toInt - k0.toInt) (hr6 : (y1.toInt < (st 1).toInt ∧ r6.toInt = ((ar 2) y1.toNatClampNeg).toInt) ∨ ((st 1).toInt ≤ y1.toInt ∧ r6.toInt = 0)) (c7 : r6.toInt = (46)) (ex17 : x17 = y1 + 1) (tx17 : x17.toInt = y1.toInt + (1)) (hr18 : (r18.toInt = 0 ∧ ¬ (x17.toInt < (st 1).toInt ∧ 48 ≤ ((ar 2) x17.toNatClampNeg).toInt ∧ ((ar 2) x17.toNatClampNeg).toInt ≤ 57)) ∨ (r18.toInt = 1 ∧ (x17.toInt < (st 1).toInt ∧ 48 ≤ ((ar 2) x17.toNatClampNeg).toInt ∧ ((ar 2) x17.toNatClampNeg).toInt ≤ 57))) (c19 : r18.toInt = (0)) (c20 : x5.toInt ≤ (6)) (hr26 : n27.toInt = (st 3).toInt + 1) (ex28 : x28 = n27 - 1) (tx28 : x28.toInt = n27.toInt - (1)) : vp_in x28 42 := by
  exact vp_in_iff.mpr ⟨by  omega, by  omega⟩
theorem v_number_18 (st : Nat → Int32) (ar : Nat → Nat → Int32) (lo : Nat → Nat → Int64) (re : Nat → UInt64) (k0 : Int32) (y1 : Int32) (y2 : Int64) (r3 : Int32) (x5 : Int32) (r6 : Int32) (x17 : Int32) (r18 : Int32) (n27 : Int32) (x28 : Int32) (hpre : 0 ≤ (st 1).toInt ∧ (st 1).toInt ≤ 40 ∧ 0 ≤ (st 3).toInt ∧ (st 3).toInt ≤ k0.toInt ∧ k0.toInt < (st 1).toInt ∧ TKok (ar 4) (lo 6) (ar 7) (st 3).toInt ∧ (k0.toInt < (st 1).toInt ∧ 48 ≤ ((ar 2) k0.toNatClampNeg).toInt ∧ ((ar 2) k0.toNatClampNeg).toInt ≤ 57)) (hi4 : k0.toInt ≤ y1.toInt ∧ y1.toInt ≤ (st 1).toInt) (hr3 : (r3.toInt = 0 ∧ ¬ (y1.toInt < (st 1).toInt ∧ 48 ≤ ((ar 2) y1.toNatClampNeg).toInt ∧ ((ar 2) y1.toNatClampNeg).toInt ≤ 57)) ∨ (r3.toInt = 1 ∧ (y1.toInt < (st 1).toInt ∧ 48 ≤ ((ar 2) y1.toNatClampNeg).toInt ∧ ((ar 2) y1.toNatClampNeg).toInt ≤ 57))) (c4 : r3.toInt = (0)) (ex5 : x5 = y1 - k0) (tx5 : x5.toInt = y1.toInt - k0.toInt) (hr6 : (y1.toInt < (st 1).toInt ∧ r6.toInt = ((ar 2) y1.toNatClampNeg).toInt) ∨ ((st 1).toInt ≤ y1.toInt ∧ r6.toInt = 0)) (c7 : r6.toInt = (46)) (ex17 : x17 = y1 + 1) (tx17 : x17.toInt = y1.toInt + (1)) (hr18 : (r18.toInt = 0 ∧ ¬ (x17.toInt < (st 1).toInt ∧ 48 ≤ ((ar 2) x17.toNatClampNeg).toInt ∧ ((ar 2) x17.toNatClampNeg).toInt ≤ 57)) ∨ (r18.toInt = 1 ∧ (x17.toInt < (st 1).toInt ∧ 48 ≤ ((ar 2) x17.toNatClampNeg).toInt ∧ ((ar 2) x17.toNatClampNeg).toInt ≤ 57))) (c19 : r18.toInt = (0)) (c20 : x5.toInt ≤ (6)) (hr26 : n27.toInt = (st 3).toInt + 1) (ex28 : x28 = n27 - 1) (tx28 : x28.toInt = n27.toInt - (1)) : k0.toInt < y1.toInt ∧ y1.toInt ≤ (st 1).toInt ∧ 0 ≤ n27.toInt ∧ n27.toInt ≤ y1.toInt ∧ TKok (upd (ar 4) (st 3).toNatClampNeg (1 : Int32)) (vp_updL (lo 6) (st 3).toNatClampNeg y2) (upd (upd (ar 7) (st 3).toNatClampNeg 0) x28.toNatClampNeg 0) n27.toInt := by
  have q1 : (1 : Int32).toInt = 1 := by decide +kernel
  have hy : ∀ y : Int32, y.toInt = k0.toInt → y = k0 := fun y h => Int32.toInt_inj.mp h
  have hc : y1.toInt ≠ k0.toInt := by
    intro h; have h := hy _ h; subst h; omega
  have hz := hpre.2.2.2.2.2.1
  and_intros <;> first | omega | exact hz | exact tk_add hz (by omega) (clampZ (by omega)) (by omega) (by omega) (by omega) | exact tk_add2 hz (by omega) (clampZ (by omega)) ((clampZ (by omega)).trans (by omega)) (by omega) (by omega) (by omega)
theorem v_number_19 (st : Nat → Int32) (ar : Nat → Nat → Int32) (lo : Nat → Nat → Int64) (re : Nat → UInt64) (k0 : Int32) (y1 : Int32) (y2 : Int64) (r3 : Int32) (x5 : Int32) (r6 : Int32) (x17 : Int32) (r18 : Int32) (x29 : Int32) (hpre : 0 ≤ (st 1).toInt ∧ (st 1).toInt ≤ 40 ∧ 0 ≤ (st 3).toInt ∧ (st 3).toInt ≤ k0.toInt ∧ k0.toInt < (st 1).toInt ∧ TKok (ar 4) (lo 6) (ar 7) (st 3).toInt ∧ (k0.toInt < (st 1).toInt ∧ 48 ≤ ((ar 2) k0.toNatClampNeg).toInt ∧ ((ar 2) k0.toNatClampNeg).toInt ≤ 57)) (hi4 : k0.toInt ≤ y1.toInt ∧ y1.toInt ≤ (st 1).toInt) (hr3 : (r3.toInt = 0 ∧ ¬ (y1.toInt < (st 1).toInt ∧ 48 ≤ ((ar 2) y1.toNatClampNeg).toInt ∧ ((ar 2) y1.toNatClampNeg).toInt ≤ 57)) ∨ (r3.toInt = 1 ∧ (y1.toInt < (st 1).toInt ∧ 48 ≤ ((ar 2) y1.toNatClampNeg).toInt ∧ ((ar 2) y1.toNatClampNeg).toInt ≤ 57))) (c4 : r3.toInt = (0)) (ex5 : x5 = y1 - k0) (tx5 : x5.toInt = y1.toInt - k0.toInt) (hr6 : (y1.toInt < (st 1).toInt ∧ r6.toInt = ((ar 2) y1.toNatClampNeg).toInt) ∨ ((st 1).toInt ≤ y1.toInt ∧ r6.toInt = 0)) (c7 : r6.toInt = (46)) (ex17 : x17 = y1 + 1) (tx17 : x17.toInt = y1.toInt + (1)) (hr18 : (r18.toInt = 0 ∧ ¬ (x17.toInt < (st 1).toInt ∧ 48 ≤ ((ar 2) x17.toNatClampNeg).toInt ∧ ((ar 2) x17.toNatClampNeg).toInt ≤ 57)) ∨ (r18.toInt = 1 ∧ (x17.toInt < (st 1).toInt ∧ 48 ≤ ((ar 2) x17.toNatClampNeg).toInt ∧ ((ar 2) x17.toNatClampNeg).toInt ≤ 57))) (c19 : ¬ r18.toInt = (0)) (ex29 : x29 = y1 + 1) : x29.toInt = y1.toInt + (1) := by
  have z9 : (1 : Int32).toInt = 1 := by decide +kernel
  rw [ex29, z_add (by omega) (by omega)]; first | done | omega
theorem v_number_20 (st : Nat → Int32) (ar : Nat → Nat → Int32) (lo : Nat → Nat → Int64) (re : Nat → UInt64) (k0 : Int32) (y1 : Int32) (y2 : Int64) (r3 : Int32) (x5 : Int32) (r6 : Int32) (x17 : Int32) (r18 : Int32) (x29 : Int32) (hpre : 0 ≤ (st 1).toInt ∧ (st 1).toInt ≤ 40 ∧ 0 ≤ (st 3).toInt ∧ (st 3).toInt ≤ k0.toInt ∧ k0.toInt < (st 1).toInt ∧ TKok (ar 4) (lo 6) (ar 7) (st 3).toInt ∧ (k0.toInt < (st 1).toInt ∧ 48 ≤ ((ar 2) k0.toNatClampNeg).toInt ∧ ((ar 2) k0.toNatClampNeg).toInt ≤ 57)) (hi4 : k0.toInt ≤ y1.toInt ∧ y1.toInt ≤ (st 1).toInt) (hr3 : (r3.toInt = 0 ∧ ¬ (y1.toInt < (st 1).toInt ∧ 48 ≤ ((ar 2) y1.toNatClampNeg).toInt ∧ ((ar 2) y1.toNatClampNeg).toInt ≤ 57)) ∨ (r3.toInt = 1 ∧ (y1.toInt < (st 1).toInt ∧ 48 ≤ ((ar 2) y1.toNatClampNeg).toInt ∧ ((ar 2) y1.toNatClampNeg).toInt ≤ 57))) (c4 : r3.toInt = (0)) (ex5 : x5 = y1 - k0) (tx5 : x5.toInt = y1.toInt - k0.toInt) (hr6 : (y1.toInt < (st 1).toInt ∧ r6.toInt = ((ar 2) y1.toNatClampNeg).toInt) ∨ ((st 1).toInt ≤ y1.toInt ∧ r6.toInt = 0)) (c7 : r6.toInt = (46)) (ex17 : x17 = y1 + 1) (tx17 : x17.toInt = y1.toInt + (1)) (hr18 : (r18.toInt = 0 ∧ ¬ (x17.toInt < (st 1).toInt ∧ 48 ≤ ((ar 2) x17.toNatClampNeg).toInt ∧ ((ar 2) x17.toNatClampNeg).toInt ≤ 57)) ∨ (r18.toInt = 1 ∧ (x17.toInt < (st 1).toInt ∧ 48 ≤ ((ar 2) x17.toNatClampNeg).toInt ∧ ((ar 2) x17.toNatClampNeg).toInt ≤ 57))) (c19 : ¬ r18.toInt = (0)) (ex29 : x29 = y1 + 1) (tx29 : x29.toInt = y1.toInt + (1)) : k0.toInt < x29.toInt ∧ x29.toInt ≤ (st 1).toInt ∧ 0 ≤ (0 : Int32).toInt ∧ (0 : Int32).toInt ≤ x29.toInt := by
  have q0 : (0 : Int32).toInt = 0 := by decide +kernel
  first | trivial | omega | (simp; done) | (simp; omega) | (simp_all; done) | (simp_all; omega)
theorem v_number_21 (st : Nat → Int32) (ar : Nat → Nat → Int32) (lo : Nat → Nat → Int64) (re : Nat → UInt64) (k0 : Int32) (y1 : Int32) (y2 : Int64) (r3 : Int32) (x5 : Int32) (r6 : Int32) (x17 : Int32) (r18 : Int32) (x29 : Int32) (y30 : Int32) (y31 : Int64) (y32 : Int32) (hpre : 0 ≤ (st 1).toInt ∧ (st 1).toInt ≤ 40 ∧ 0 ≤ (st 3).toInt ∧ (st 3).toInt ≤ k0.toInt ∧ k0.toInt < (st 1).toInt ∧ TKok (ar 4) (lo 6) (ar 7) (st 3).toInt ∧ (k0.toInt < (st 1).toInt ∧ 48 ≤ ((ar 2) k0.toNatClampNeg).toInt ∧ ((ar 2) k0.toNatClampNeg).toInt ≤ 57)) (hi4 : k0.toInt ≤ y1.toInt ∧ y1.toInt ≤ (st 1).toInt) (hr3 : (r3.toInt = 0 ∧ ¬ (y1.toInt < (st 1).toInt ∧ 48 ≤ ((ar 2) y1.toNatClampNeg).toInt ∧ ((ar 2) y1.toNatClampNeg).toInt ≤ 57)) ∨ (r3.toInt = 1 ∧ (y1.toInt < (st 1).toInt ∧ 48 ≤ ((ar 2) y1.toNatClampNeg).toInt ∧ ((ar 2) y1.toNatClampNeg).toInt ≤ 57))) (c4 : r3.toInt = (0)) (ex5 : x5 = y1 - k0) (tx5 : x5.toInt = y1.toInt - k0.toInt) (hr6 : (y1.toInt < (st 1).toInt ∧ r6.toInt = ((ar 2) y1.toNatClampNeg).toInt) ∨ ((st 1).toInt ≤ y1.toInt ∧ r6.toInt = 0)) (c7 : r6.toInt = (46)) (ex17 : x17 = y1 + 1) (tx17 : x17.toInt = y1.toInt + (1)) (hr18 : (r18.toInt = 0 ∧ ¬ (x17.toInt < (st 1).toInt ∧ 48 ≤ ((ar 2) x17.toNatClampNeg).toInt ∧ ((ar 2) x17.toNatClampNeg).toInt ≤ 57)) ∨ (r18.toInt = 1 ∧ (x17.toInt < (st 1).toInt ∧ 48 ≤ ((ar 2) x17.toNatClampNeg).toInt ∧ ((ar 2) x17.toNatClampNeg).toInt ≤ 57))) (c19 : ¬ r18.toInt = (0)) (ex29 : x29 = y1 + 1) (tx29 : x29.toInt = y1.toInt + (1)) (hi66 : k0.toInt < y30.toInt ∧ y30.toInt ≤ (st 1).toInt ∧ 0 ≤ y32.toInt ∧ y32.toInt ≤ y30.toInt) : 0 ≤ (st 1).toInt ∧ (st 1).toInt ≤ 40 ∧ 0 ≤ y30.toInt := by
  first | trivial | omega | (simp; done) | (simp; omega) | (simp_all; done) | (simp_all; omega)
theorem v_number_22 (st : Nat → Int32) (ar : Nat → Nat → Int32) (lo : Nat → Nat → Int64) (re : Nat → UInt64) (k0 : Int32) (y1 : Int32) (y2 : Int64) (r3 : Int32) (x5 : Int32) (r6 : Int32) (x17 : Int32) (r18 : Int32) (x29 : Int32) (y30 : Int32) (y31 : Int64) (y32 : Int32) (r33 : Int32) (hpre : 0 ≤ (st 1).toInt ∧ (st 1).toInt ≤ 40 ∧ 0 ≤ (st 3).toInt ∧ (st 3).toInt ≤ k0.toInt ∧ k0.toInt < (st 1).toInt ∧ TKok (ar 4) (lo 6) (ar 7) (st 3).toInt ∧ (k0.toInt < (st 1).toInt ∧ 48 ≤ ((ar 2) k0.toNatClampNeg).toInt ∧ ((ar 2) k0.toNatClampNeg).toInt ≤ 57)) (hi4 : k0.toInt ≤ y1.toInt ∧ y1.toInt ≤ (st 1).toInt) (hr3 : (r3.toInt = 0 ∧ ¬ (y1.toInt < (st 1).toInt ∧ 48 ≤ ((ar 2) y1.toNatClampNeg).toInt ∧ ((ar 2) y1.toNatClampNeg).toInt ≤ 57)) ∨ (r3.toInt = 1 ∧ (y1.toInt < (st 1).toInt ∧ 48 ≤ ((ar 2) y1.toNatClampNeg).toInt ∧ ((ar 2) y1.toNatClampNeg).toInt ≤ 57))) (c4 : r3.toInt = (0)) (ex5 : x5 = y1 - k0) (tx5 : x5.toInt = y1.toInt - k0.toInt) (hr6 : (y1.toInt < (st 1).toInt ∧ r6.toInt = ((ar 2) y1.toNatClampNeg).toInt) ∨ ((st 1).toInt ≤ y1.toInt ∧ r6.toInt = 0)) (c7 : r6.toInt = (46)) (ex17 : x17 = y1 + 1) (tx17 : x17.toInt = y1.toInt + (1)) (hr18 : (r18.toInt = 0 ∧ ¬ (x17.toInt < (st 1).toInt ∧ 48 ≤ ((ar 2) x17.toNatClampNeg).toInt ∧ ((ar 2) x17.toNatClampNeg).toInt ≤ 57)) ∨ (r18.toInt = 1 ∧ (x17.toInt < (st 1).toInt ∧ 48 ≤ ((ar 2) x17.toNatClampNeg).toInt ∧ ((ar 2) x17.toNatClampNeg).toInt ≤ 57))) (c19 : ¬ r18.toInt = (0)) (ex29 : x29 = y1 + 1) (tx29 : x29.toInt = y1.toInt + (1)) (hi66 : k0.toInt < y30.toInt ∧ y30.toInt ≤ (st 1).toInt ∧ 0 ≤ y32.toInt ∧ y32.toInt ≤ y30.toInt) (hr33 : (r33.toInt = 0 ∧ ¬ (y30.toInt < (st 1).toInt ∧ 48 ≤ ((ar 2) y30.toNatClampNeg).toInt ∧ ((ar 2) y30.toNatClampNeg).toInt ≤ 57)) ∨ (r33.toInt = 1 ∧ (y30.toInt < (st 1).toInt ∧ 48 ≤ ((ar 2) y30.toNatClampNeg).toInt ∧ ((ar 2) y30.toNatClampNeg).toInt ≤ 57))) (c34 : r33.toInt = (0)) (c35 : (6) < x5.toInt) : True := by
  first | trivial | omega | (simp; done) | (simp; omega) | (simp_all; done) | (simp_all; omega)
theorem v_number_23 (st : Nat → Int32) (ar : Nat → Nat → Int32) (lo : Nat → Nat → Int64) (re : Nat → UInt64) (k0 : Int32) (y1 : Int32) (y2 : Int64) (r3 : Int32) (x5 : Int32) (r6 : Int32) (x17 : Int32) (r18 : Int32) (x29 : Int32) (y30 : Int32) (y31 : Int64) (y32 : Int32) (r33 : Int32) (n37 : Int32) (n38 : Int32) (hpre : 0 ≤ (st 1).toInt ∧ (st 1).toInt ≤ 40 ∧ 0 ≤ (st 3).toInt ∧ (st 3).toInt ≤ k0.toInt ∧ k0.toInt < (st 1).toInt ∧ TKok (ar 4) (lo 6) (ar 7) (st 3).toInt ∧ (k0.toInt < (st 1).toInt ∧ 48 ≤ ((ar 2) k0.toNatClampNeg).toInt ∧ ((ar 2) k0.toNatClampNeg).toInt ≤ 57)) (hi4 : k0.toInt ≤ y1.toInt ∧ y1.toInt ≤ (st 1).toInt) (hr3 : (r3.toInt = 0 ∧ ¬ (y1.toInt < (st 1).toInt ∧ 48 ≤ ((ar 2) y1.toNatClampNeg).toInt ∧ ((ar 2) y1.toNatClampNeg).toInt ≤ 57)) ∨ (r3.toInt = 1 ∧ (y1.toInt < (st 1).toInt ∧ 48 ≤ ((ar 2) y1.toNatClampNeg).toInt ∧ ((ar 2) y1.toNatClampNeg).toInt ≤ 57))) (c4 : r3.toInt = (0)) (ex5 : x5 = y1 - k0) (tx5 : x5.toInt = y1.toInt - k0.toInt) (hr6 : (y1.toInt < (st 1).toInt ∧ r6.toInt = ((ar 2) y1.toNatClampNeg).toInt) ∨ ((st 1).toInt ≤ y1.toInt ∧ r6.toInt = 0)) (c7 : r6.toInt = (46)) (ex17 : x17 = y1 + 1) (tx17 : x17.toInt = y1.toInt + (1)) (hr18 : (r18.toInt = 0 ∧ ¬ (x17.toInt < (st 1).toInt ∧ 48 ≤ ((ar 2) x17.toNatClampNeg).toInt ∧ ((ar 2) x17.toNatClampNeg).toInt ≤ 57)) ∨ (r18.toInt = 1 ∧ (x17.toInt < (st 1).toInt ∧ 48 ≤ ((ar 2) x17.toNatClampNeg).toInt ∧ ((ar 2) x17.toNatClampNeg).toInt ≤ 57))) (c19 : ¬ r18.toInt = (0)) (ex29 : x29 = y1 + 1) (tx29 : x29.toInt = y1.toInt + (1)) (hi66 : k0.toInt < y30.toInt ∧ y30.toInt ≤ (st 1).toInt ∧ 0 ≤ y32.toInt ∧ y32.toInt ≤ y30.toInt) (hr33 : (r33.toInt = 0 ∧ ¬ (y30.toInt < (st 1).toInt ∧ 48 ≤ ((ar 2) y30.toNatClampNeg).toInt ∧ ((ar 2) y30.toNatClampNeg).toInt ≤ 57)) ∨ (r33.toInt = 1 ∧ (y30.toInt < (st 1).toInt ∧ 48 ≤ ((ar 2) y30.toNatClampNeg).toInt ∧ ((ar 2) y30.toNatClampNeg).toInt ≤ 57))) (c34 : r33.toInt = (0)) (c35 : (6) < x5.toInt) (hr36 : ((st 8).toInt = 0 → n37 = (1 : Int32)) ∧ (¬ (st 8).toInt = 0 → n37 = (st 8))) : k0.toInt < y30.toInt ∧ y30.toInt ≤ (st 1).toInt ∧ 0 ≤ (st 3).toInt ∧ (st 3).toInt ≤ y30.toInt ∧ TKok (ar 4) (lo 6) (ar 7) (st 3).toInt := by
  have q1 : (1 : Int32).toInt = 1 := by decide +kernel
  have hy : ∀ y : Int32, y.toInt = k0.toInt → y = k0 := fun y h => Int32.toInt_inj.mp h
  have hc : y1.toInt ≠ k0.toInt := by
    intro h; have h := hy _ h; subst h; omega
  have hz := hpre.2.2.2.2.2.1
  and_intros <;> first | omega | exact hz | exact tk_add hz (by omega) (clampZ (by omega)) (by omega) (by omega) (by omega) | exact tk_add2 hz (by omega) (clampZ (by omega)) ((clampZ (by omega)).trans (by omega)) (by omega) (by omega) (by omega)
theorem v_number_24 (st : Nat → Int32) (ar : Nat → Nat → Int32) (lo : Nat → Nat → Int64) (re : Nat → UInt64) (k0 : Int32) (y1 : Int32) (y2 : Int64) (r3 : Int32) (x5 : Int32) (r6 : Int32) (x17 : Int32) (r18 : Int32) (x29 : Int32) (y30 : Int32) (y31 : Int64) (y32 : Int32) (r33 : Int32) (hpre : 0 ≤ (st 1).toInt ∧ (st 1).toInt ≤ 40 ∧ 0 ≤ (st 3).toInt ∧ (st 3).toInt ≤ k0.toInt ∧ k0.toInt < (st 1).toInt ∧ TKok (ar 4) (lo 6) (ar 7) (st 3).toInt ∧ (k0.toInt < (st 1).toInt ∧ 48 ≤ ((ar 2) k0.toNatClampNeg).toInt ∧ ((ar 2) k0.toNatClampNeg).toInt ≤ 57)) (hi4 : k0.toInt ≤ y1.toInt ∧ y1.toInt ≤ (st 1).toInt) (hr3 : (r3.toInt = 0 ∧ ¬ (y1.toInt < (st 1).toInt ∧ 48 ≤ ((ar 2) y1.toNatClampNeg).toInt ∧ ((ar 2) y1.toNatClampNeg).toInt ≤ 57)) ∨ (r3.toInt = 1 ∧ (y1.toInt < (st 1).toInt ∧ 48 ≤ ((ar 2) y1.toNatClampNeg).toInt ∧ ((ar 2) y1.toNatClampNeg).toInt ≤ 57))) (c4 : r3.toInt = (0)) (ex5 : x5 = y1 - k0) (tx5 : x5.toInt = y1.toInt - k0.toInt) (hr6 : (y1.toInt < (st 1).toInt ∧ r6.toInt = ((ar 2) y1.toNatClampNeg).toInt) ∨ ((st 1).toInt ≤ y1.toInt ∧ r6.toInt = 0)) (c7 : r6.toInt = (46)) (ex17 : x17 = y1 + 1) (tx17 : x17.toInt = y1.toInt + (1)) (hr18 : (r18.toInt = 0 ∧ ¬ (x17.toInt < (st 1).toInt ∧ 48 ≤ ((ar 2) x17.toNatClampNeg).toInt ∧ ((ar 2) x17.toNatClampNeg).toInt ≤ 57)) ∨ (r18.toInt = 1 ∧ (x17.toInt < (st 1).toInt ∧ 48 ≤ ((ar 2) x17.toNatClampNeg).toInt ∧ ((ar 2) x17.toNatClampNeg).toInt ≤ 57))) (c19 : ¬ r18.toInt = (0)) (ex29 : x29 = y1 + 1) (tx29 : x29.toInt = y1.toInt + (1)) (hi66 : k0.toInt < y30.toInt ∧ y30.toInt ≤ (st 1).toInt ∧ 0 ≤ y32.toInt ∧ y32.toInt ≤ y30.toInt) (hr33 : (r33.toInt = 0 ∧ ¬ (y30.toInt < (st 1).toInt ∧ 48 ≤ ((ar 2) y30.toNatClampNeg).toInt ∧ ((ar 2) y30.toNatClampNeg).toInt ≤ 57)) ∨ (r33.toInt = 1 ∧ (y30.toInt < (st 1).toInt ∧ 48 ≤ ((ar 2) y30.toNatClampNeg).toInt ∧ ((ar 2) y30.toNatClampNeg).toInt ≤ 57))) (c34 : r33.toInt = (0)) (c35 : x5.toInt ≤ (6)) (c39 : y32.toInt ≤ (3)) (c40 : y32.toInt ≤ (0)) : 0 ≤ (st 3).toInt ∧ (st 3).toInt ≤ 41 := by
  first | trivial | omega | (simp; done) | (simp; omega) | (simp_all; done) | (simp_all; omega)
theorem v_number_25 (st : Nat → Int32) (ar : Nat → Nat → Int32) (lo : Nat → Nat → Int64) (re : Nat → UInt64) (k0 : Int32) (y1 : Int32) (y2 : Int64) (r3 : Int32) (x5 : Int32) (r6 : Int32) (x17 : Int32) (r18 : Int32) (x29 : Int32) (y30 : Int32) (y31 : Int64) (y32 : Int32) (r33 : Int32) (n42 : Int32) (x43 : Int32) (hpre : 0 ≤ (st 1).toInt ∧ (st 1).toInt ≤ 40 ∧ 0 ≤ (st 3).toInt ∧ (st 3).toInt ≤ k0.toInt ∧ k0.toInt < (st 1).toInt ∧ TKok (ar 4) (lo 6) (ar 7) (st 3).toInt ∧ (k0.toInt < (st 1).toInt ∧ 48 ≤ ((ar 2) k0.toNatClampNeg).toInt ∧ ((ar 2) k0.toNatClampNeg).toInt ≤ 57)) (hi4 : k0.toInt ≤ y1.toInt ∧ y1.toInt ≤ (st 1).toInt) (hr3 : (r3.toInt = 0 ∧ ¬ (y1.toInt < (st 1).toInt ∧ 48 ≤ ((ar 2) y1.toNatClampNeg).toInt ∧ ((ar 2) y1.toNatClampNeg).toInt ≤ 57)) ∨ (r3.toInt = 1 ∧ (y1.toInt < (st 1).toInt ∧ 48 ≤ ((ar 2) y1.toNatClampNeg).toInt ∧ ((ar 2) y1.toNatClampNeg).toInt ≤ 57))) (c4 : r3.toInt = (0)) (ex5 : x5 = y1 - k0) (tx5 : x5.toInt = y1.toInt - k0.toInt) (hr6 : (y1.toInt < (st 1).toInt ∧ r6.toInt = ((ar 2) y1.toNatClampNeg).toInt) ∨ ((st 1).toInt ≤ y1.toInt ∧ r6.toInt = 0)) (c7 : r6.toInt = (46)) (ex17 : x17 = y1 + 1) (tx17 : x17.toInt = y1.toInt + (1)) (hr18 : (r18.toInt = 0 ∧ ¬ (x17.toInt < (st 1).toInt ∧ 48 ≤ ((ar 2) x17.toNatClampNeg).toInt ∧ ((ar 2) x17.toNatClampNeg).toInt ≤ 57)) ∨ (r18.toInt = 1 ∧ (x17.toInt < (st 1).toInt ∧ 48 ≤ ((ar 2) x17.toNatClampNeg).toInt ∧ ((ar 2) x17.toNatClampNeg).toInt ≤ 57))) (c19 : ¬ r18.toInt = (0)) (ex29 : x29 = y1 + 1) (tx29 : x29.toInt = y1.toInt + (1)) (hi66 : k0.toInt < y30.toInt ∧ y30.toInt ≤ (st 1).toInt ∧ 0 ≤ y32.toInt ∧ y32.toInt ≤ y30.toInt) (hr33 : (r33.toInt = 0 ∧ ¬ (y30.toInt < (st 1).toInt ∧ 48 ≤ ((ar 2) y30.toNatClampNeg).toInt ∧ ((ar 2) y30.toNatClampNeg).toInt ≤ 57)) ∨ (r33.toInt = 1 ∧ (y30.toInt < (st 1).toInt ∧ 48 ≤ ((ar 2) y30.toNatClampNeg).toInt ∧ ((ar 2) y30.toNatClampNeg).toInt ≤ 57))) (c34 : r33.toInt = (0)) (c35 : x5.toInt ≤ (6)) (c39 : y32.toInt ≤ (3)) (c40 : y32.toInt ≤ (0)) (hr41 : n42.toInt = (st 3).toInt + 1) (ex43 : x43 = n42 - 1) : x43.toInt = n42.toInt - (1) := by
  have z1 : (1 : Int32).toInt = 1 := by decide +kernel
  rw [ex43, z_sub (by omega) (by omega)]; first | done | omega
theorem v_number_26 (st : Nat → Int32) (ar : Nat → Nat → Int32) (lo : Nat → Nat → Int64) (re : Nat → UInt64) (k0 : Int32) (y1 : Int32) (y2 : Int64) (r3 : Int32) (x5 : Int32) (r6 : Int32) (x17 : Int32) (r18 : Int32) (x29 : Int32) (y30 : Int32) (y31 : Int64) (y32 : Int32) (r33 : Int32) (n42 : Int32) (x43 : Int32) (hpre : 0 ≤ (st 1).toInt ∧ (st 1).toInt ≤ 40 ∧ 0 ≤ (st 3).toInt ∧ (st 3).toInt ≤ k0.toInt ∧ k0.toInt < (st 1).toInt ∧ TKok (ar 4) (lo 6) (ar 7) (st 3).toInt ∧ (k0.toInt < (st 1).toInt ∧ 48 ≤ ((ar 2) k0.toNatClampNeg).toInt ∧ ((ar 2) k0.toNatClampNeg).toInt ≤ 57)) (hi4 : k0.toInt ≤ y1.toInt ∧ y1.toInt ≤ (st 1).toInt) (hr3 : (r3.toInt = 0 ∧ ¬ (y1.toInt < (st 1).toInt ∧ 48 ≤ ((ar 2) y1.toNatClampNeg).toInt ∧ ((ar 2) y1.toNatClampNeg).toInt ≤ 57)) ∨ (r3.toInt = 1 ∧ (y1.toInt < (st 1).toInt ∧ 48 ≤ ((ar 2) y1.toNatClampNeg).toInt ∧ ((ar 2) y1.toNatClampNeg).toInt ≤ 57))) (c4 : r3.toInt = (0)) (ex5 : x5 = y1 - k0) (tx5 : x5.toInt = y1.toInt - k0.toInt) (hr6 : (y1.toInt < (st 1).toInt ∧ r6.toInt = ((ar 2) y1.toNatClampNeg).toInt) ∨ ((st 1).toInt ≤ y1.toInt ∧ r6.toInt = 0)) (c7 : r6.toInt = (46)) (ex17 : x17 = y1 + 1) (tx17 : x17.toInt = y1.toInt + (1)) (hr18 : (r18.toInt = 0 ∧ ¬ (x17.toInt < (st 1).toInt ∧ 48 ≤ ((ar 2) x17.toNatClampNeg).toInt ∧ ((ar 2) x17.toNatClampNeg).toInt ≤ 57)) ∨ (r18.toInt = 1 ∧ (x17.toInt < (st 1).toInt ∧ 48 ≤ ((ar 2) x17.toNatClampNeg).toInt ∧ ((ar 2) x17.toNatClampNeg).toInt ≤ 57))) (c19 : ¬ r18.toInt = (0)) (ex29 : x29 = y1 + 1) (tx29 : x29.toInt = y1.toInt + (1)) (hi66 : k0.toInt < y30.toInt ∧ y30.toInt ≤ (st 1).toInt ∧ 0 ≤ y32.toInt ∧ y32.toInt ≤ y30.toInt) (hr33 : (r33.toInt = 0 ∧ ¬ (y30.toInt < (st 1).toInt ∧ 48 ≤ ((ar 2) y30.toNatClampNeg).toInt ∧ ((ar 2) y30.toNatClampNeg).toInt ≤ 57)) ∨ (r33.toInt = 1 ∧ (y30.toInt < (st 1).toInt ∧ 48 ≤ ((ar 2) y30.toNatClampNeg).toInt ∧ ((ar 2) y30.toNatClampNeg).toInt ≤ 57))) (c34 : r33.toInt = (0)) (c35 : x5.toInt ≤ (6)) (c39 : y32.toInt ≤ (3)) (c40 : y32.toInt ≤ (0)) (hr41 : n42.toInt = (st 3).toInt + 1) (ex43 : x43 = n42 - 1) (tx43 : x43.toInt = n42.toInt - (1)) : vp_in x43 42 := by
  exact vp_in_iff.mpr ⟨by  omega, by  omega⟩
theorem v_number_27 (st : Nat → Int32) (ar : Nat → Nat → Int32) (lo : Nat → Nat → Int64) (re : Nat → UInt64) (k0 : Int32) (y1 : Int32) (y2 : Int64) (r3 : Int32) (x5 : Int32) (r6 : Int32) (x17 : Int32) (r18 : Int32) (x29 : Int32) (y30 : Int32) (y31 : Int64) (y32 : Int32) (r33 : Int32) (n42 : Int32) (x43 : Int32) (hpre : 0 ≤ (st 1).toInt ∧ (st 1).toInt ≤ 40 ∧ 0 ≤ (st 3).toInt ∧ (st 3).toInt ≤ k0.toInt ∧ k0.toInt < (st 1).toInt ∧ TKok (ar 4) (lo 6) (ar 7) (st 3).toInt ∧ (k0.toInt < (st 1).toInt ∧ 48 ≤ ((ar 2) k0.toNatClampNeg).toInt ∧ ((ar 2) k0.toNatClampNeg).toInt ≤ 57)) (hi4 : k0.toInt ≤ y1.toInt ∧ y1.toInt ≤ (st 1).toInt) (hr3 : (r3.toInt = 0 ∧ ¬ (y1.toInt < (st 1).toInt ∧ 48 ≤ ((ar 2) y1.toNatClampNeg).toInt ∧ ((ar 2) y1.toNatClampNeg).toInt ≤ 57)) ∨ (r3.toInt = 1 ∧ (y1.toInt < (st 1).toInt ∧ 48 ≤ ((ar 2) y1.toNatClampNeg).toInt ∧ ((ar 2) y1.toNatClampNeg).toInt ≤ 57))) (c4 : r3.toInt = (0)) (ex5 : x5 = y1 - k0) (tx5 : x5.toInt = y1.toInt - k0.toInt) (hr6 : (y1.toInt < (st 1).toInt ∧ r6.toInt = ((ar 2) y1.toNatClampNeg).toInt) ∨ ((st 1).toInt ≤ y1.toInt ∧ r6.toInt = 0)) (c7 : r6.toInt = (46)) (ex17 : x17 = y1 + 1) (tx17 : x17.toInt = y1.toInt + (1)) (hr18 : (r18.toInt = 0 ∧ ¬ (x17.toInt < (st 1).toInt ∧ 48 ≤ ((ar 2) x17.toNatClampNeg).toInt ∧ ((ar 2) x17.toNatClampNeg).toInt ≤ 57)) ∨ (r18.toInt = 1 ∧ (x17.toInt < (st 1).toInt ∧ 48 ≤ ((ar 2) x17.toNatClampNeg).toInt ∧ ((ar 2) x17.toNatClampNeg).toInt ≤ 57))) (c19 : ¬ r18.toInt = (0)) (ex29 : x29 = y1 + 1) (tx29 : x29.toInt = y1.toInt + (1)) (hi66 : k0.toInt < y30.toInt ∧ y30.toInt ≤ (st 1).toInt ∧ 0 ≤ y32.toInt ∧ y32.toInt ≤ y30.toInt) (hr33 : (r33.toInt = 0 ∧ ¬ (y30.toInt < (st 1).toInt ∧ 48 ≤ ((ar 2) y30.toNatClampNeg).toInt ∧ ((ar 2) y30.toNatClampNeg).toInt ≤ 57)) ∨ (r33.toInt = 1 ∧ (y30.toInt < (st 1).toInt ∧ 48 ≤ ((ar 2) y30.toNatClampNeg).toInt ∧ ((ar 2) y30.toNatClampNeg).toInt ≤ 57))) (c34 : r33.toInt = (0)) (c35 : x5.toInt ≤ (6)) (c39 : y32.toInt ≤ (3)) (c40 : y32.toInt ≤ (0)) (hr41 : n42.toInt = (st 3).toInt + 1) (ex43 : x43 = n42 - 1) (tx43 : x43.toInt = n42.toInt - (1)) : k0.toInt < y30.toInt ∧ y30.toInt ≤ (st 1).toInt ∧ 0 ≤ n42.toInt ∧ n42.toInt ≤ y30.toInt ∧ TKok (upd (ar 4) (st 3).toNatClampNeg (1 : Int32)) (vp_updL (lo 6) (st 3).toNatClampNeg y31) (upd (upd (ar 7) (st 3).toNatClampNeg 0) x43.toNatClampNeg y32) n42.toInt := by
  have q1 : (1 : Int32).toInt = 1 := by decide +kernel
  have hy : ∀ y : Int32, y.toInt = k0.toInt → y = k0 := fun y h => Int32.toInt_inj.mp h
  have hc : y1.toInt ≠ k0.toInt := by
    intro h; have h := hy _ h; subst h; omega
  have hz := hpre.2.2.2.2.2.1
  and_intros <;> first | omega | exact hz | exact tk_add hz (by omega) (clampZ (by omega)) (by omega) (by omega) (by omega) | exact tk_add2 hz (by omega) (clampZ (by omega)) ((clampZ (by omega)).trans (by omega)) (by omega) (by omega) (by omega)
theorem v_number_28 (st : Nat → Int32) (ar : Nat → Nat → Int32) (lo : Nat → Nat → Int64) (re : Nat → UInt64) (k0 : Int32) (y1 : Int32) (y2 : Int64) (r3 : Int32) (x5 : Int32) (r6 : Int32) (x17 : Int32) (r18 : Int32) (x29 : Int32) (y30 : Int32) (y31 : Int64) (y32 : Int32) (r33 : Int32) (hpre : 0 ≤ (st 1).toInt ∧ (st 1).toInt ≤ 40 ∧ 0 ≤ (st 3).toInt ∧ (st 3).toInt ≤ k0.toInt ∧ k0.toInt < (st 1).toInt ∧ TKok (ar 4) (lo 6) (ar 7) (st 3).toInt ∧ (k0.toInt < (st 1).toInt ∧ 48 ≤ ((ar 2) k0.toNatClampNeg).toInt ∧ ((ar 2) k0.toNatClampNeg).toInt ≤ 57)) (hi4 : k0.toInt ≤ y1.toInt ∧ y1.toInt ≤ (st 1).toInt) (hr3 : (r3.toInt = 0 ∧ ¬ (y1.toInt < (st 1).toInt ∧ 48 ≤ ((ar 2) y1.toNatClampNeg).toInt ∧ ((ar 2) y1.toNatClampNeg).toInt ≤ 57)) ∨ (r3.toInt = 1 ∧ (y1.toInt < (st 1).toInt ∧ 48 ≤ ((ar 2) y1.toNatClampNeg).toInt ∧ ((ar 2) y1.toNatClampNeg).toInt ≤ 57))) (c4 : r3.toInt = (0)) (ex5 : x5 = y1 - k0) (tx5 : x5.toInt = y1.toInt - k0.toInt) (hr6 : (y1.toInt < (st 1).toInt ∧ r6.toInt = ((ar 2) y1.toNatClampNeg).toInt) ∨ ((st 1).toInt ≤ y1.toInt ∧ r6.toInt = 0)) (c7 : r6.toInt = (46)) (ex17 : x17 = y1 + 1) (tx17 : x17.toInt = y1.toInt + (1)) (hr18 : (r18.toInt = 0 ∧ ¬ (x17.toInt < (st 1).toInt ∧ 48 ≤ ((ar 2) x17.toNatClampNeg).toInt ∧ ((ar 2) x17.toNatClampNeg).toInt ≤ 57)) ∨ (r18.toInt = 1 ∧ (x17.toInt < (st 1).toInt ∧ 48 ≤ ((ar 2) x17.toNatClampNeg).toInt ∧ ((ar 2) x17.toNatClampNeg).toInt ≤ 57))) (c19 : ¬ r18.toInt = (0)) (ex29 : x29 = y1 + 1) (tx29 : x29.toInt = y1.toInt + (1)) (hi66 : k0.toInt < y30.toInt ∧ y30.toInt ≤ (st 1).toInt ∧ 0 ≤ y32.toInt ∧ y32.toInt ≤ y30.toInt) (hr33 : (r33.toInt = 0 ∧ ¬ (y30.toInt < (st 1).toInt ∧ 48 ≤ ((ar 2) y30.toNatClampNeg).toInt ∧ ((ar 2) y30.toNatClampNeg).toInt ≤ 57)) ∨ (r33.toInt = 1 ∧ (y30.toInt < (st 1).toInt ∧ 48 ≤ ((ar 2) y30.toNatClampNeg).toInt ∧ ((ar 2) y30.toNatClampNeg).toInt ≤ 57))) (c34 : r33.toInt = (0)) (c35 : x5.toInt ≤ (6)) (c39 : y32.toInt ≤ (3)) (c40 : (0) < y32.toInt) : 0 ≤ (st 3).toInt ∧ (st 3).toInt ≤ 41 := by
  first | trivial | omega | (simp; done) | (simp; omega) | (simp_all; done) | (simp_all; omega)
theorem v_number_29 (st : Nat → Int32) (ar : Nat → Nat → Int32) (lo : Nat → Nat → Int64) (re : Nat → UInt64) (k0 : Int32) (y1 : Int32) (y2 : Int64) (r3 : Int32) (x5 : Int32) (r6 : Int32) (x17 : Int32) (r18 : Int32) (x29 : Int32) (y30 : Int32) (y31 : Int64) (y32 : Int32) (r33 : Int32) (n45 : Int32) (x46 : Int32) (hpre : 0 ≤ (st 1).toInt ∧ (st 1).toInt ≤ 40 ∧ 0 ≤ (st 3).toInt ∧ (st 3).toInt ≤ k0.toInt ∧ k0.toInt < (st 1).toInt ∧ TKok (ar 4) (lo 6) (ar 7) (st 3).toInt ∧ (k0.toInt < (st 1).toInt ∧ 48 ≤ ((ar 2) k0.toNatClampNeg).toInt ∧ ((ar 2) k0.toNatClampNeg).toInt ≤ 57)) (hi4 : k0.toInt ≤ y1.toInt ∧ y1.toInt ≤ (st 1).toInt) (hr3 : (r3.toInt = 0 ∧ ¬ (y1.toInt < (st 1).toInt ∧ 48 ≤ ((ar 2) y1.toNatClampNeg).toInt ∧ ((ar 2) y1.toNatClampNeg).toInt ≤ 57)) ∨ (r3.toInt = 1 ∧ (y1.toInt < (st 1).toInt ∧ 48 ≤ ((ar 2) y1.toNatClampNeg).toInt ∧ ((ar 2) y1.toNatClampNeg).toInt ≤ 57))) (c4 : r3.toInt = (0)) (ex5 : x5 = y1 - k0) (tx5 : x5.toInt = y1.toInt - k0.toInt) (hr6 : (y1.toInt < (st 1).toInt ∧ r6.toInt = ((ar 2) y1.toNatClampNeg).toInt) ∨ ((st 1).toInt ≤ y1.toInt ∧ r6.toInt = 0)) (c7 : r6.toInt = (46)) (ex17 : x17 = y1 + 1) (tx17 : x17.toInt = y1.toInt + (1)) (hr18 : (r18.toInt = 0 ∧ ¬ (x17.toInt < (st 1).toInt ∧ 48 ≤ ((ar 2) x17.toNatClampNeg).toInt ∧ ((ar 2) x17.toNatClampNeg).toInt ≤ 57)) ∨ (r18.toInt = 1 ∧ (x17.toInt < (st 1).toInt ∧ 48 ≤ ((ar 2) x17.toNatClampNeg).toInt ∧ ((ar 2) x17.toNatClampNeg).toInt ≤ 57))) (c19 : ¬ r18.toInt = (0)) (ex29 : x29 = y1 + 1) (tx29 : x29.toInt = y1.toInt + (1)) (hi66 : k0.toInt < y30.toInt ∧ y30.toInt ≤ (st 1).toInt ∧ 0 ≤ y32.toInt ∧ y32.toInt ≤ y30.toInt) (hr33 : (r33.toInt = 0 ∧ ¬ (y30.toInt < (st 1).toInt ∧ 48 ≤ ((ar 2) y30.toNatClampNeg).toInt ∧ ((ar 2) y30.toNatClampNeg).toInt ≤ 57)) ∨ (r33.toInt = 1 ∧ (y30.toInt < (st 1).toInt ∧ 48 ≤ ((ar 2) y30.toNatClampNeg).toInt ∧ ((ar 2) y30.toNatClampNeg).toInt ≤ 57))) (c34 : r33.toInt = (0)) (c35 : x5.toInt ≤ (6)) (c39 : y32.toInt ≤ (3)) (c40 : (0) < y32.toInt) (hr44 : n45.toInt = (st 3).toInt + 1) (ex46 : x46 = n45 - 1) : x46.toInt = n45.toInt - (1) := by
  have z1 : (1 : Int32).toInt = 1 := by decide +kernel
  rw [ex46, z_sub (by omega) (by omega)]; first | done | omega
theorem v_number_30 (st : Nat → Int32) (ar : Nat → Nat → Int32) (lo : Nat → Nat → Int64) (re : Nat → UInt64) (k0 : Int32) (y1 : Int32) (y2 : Int64) (r3 : Int32) (x5 : Int32) (r6 : Int32) (x17 : Int32) (r18 : Int32) (x29 : Int32) (y30 : Int32) (y31 : Int64) (y32 : Int32) (r33 : Int32) (n45 : Int32) (x46 : Int32) (hpre : 0 ≤ (st 1).toInt ∧ (st 1).toInt ≤ 40 ∧ 0 ≤ (st 3).toInt ∧ (st 3).toInt ≤ k0.toInt ∧ k0.toInt < (st 1).toInt ∧ TKok (ar 4) (lo 6) (ar 7) (st 3).toInt ∧ (k0.toInt < (st 1).toInt ∧ 48 ≤ ((ar 2) k0.toNatClampNeg).toInt ∧ ((ar 2) k0.toNatClampNeg).toInt ≤ 57)) (hi4 : k0.toInt ≤ y1.toInt ∧ y1.toInt ≤ (st 1).toInt) (hr3 : (r3.toInt = 0 ∧ ¬ (y1.toInt < (st 1).toInt ∧ 48 ≤ ((ar 2) y1.toNatClampNeg).toInt ∧ ((ar 2) y1.toNatClampNeg).toInt ≤ 57)) ∨ (r3.toInt = 1 ∧ (y1.toInt < (st 1).toInt ∧ 48 ≤ ((ar 2) y1.toNatClampNeg).toInt ∧ ((ar 2) y1.toNatClampNeg).toInt ≤ 57))) (c4 : r3.toInt = (0)) (ex5 : x5 = y1 - k0) (tx5 : x5.toInt = y1.toInt - k0.toInt) (hr6 : (y1.toInt < (st 1).toInt ∧ r6.toInt = ((ar 2) y1.toNatClampNeg).toInt) ∨ ((st 1).toInt ≤ y1.toInt ∧ r6.toInt = 0)) (c7 : r6.toInt = (46)) (ex17 : x17 = y1 + 1) (tx17 : x17.toInt = y1.toInt + (1)) (hr18 : (r18.toInt = 0 ∧ ¬ (x17.toInt < (st 1).toInt ∧ 48 ≤ ((ar 2) x17.toNatClampNeg).toInt ∧ ((ar 2) x17.toNatClampNeg).toInt ≤ 57)) ∨ (r18.toInt = 1 ∧ (x17.toInt < (st 1).toInt ∧ 48 ≤ ((ar 2) x17.toNatClampNeg).toInt ∧ ((ar 2) x17.toNatClampNeg).toInt ≤ 57))) (c19 : ¬ r18.toInt = (0)) (ex29 : x29 = y1 + 1) (tx29 : x29.toInt = y1.toInt + (1)) (hi66 : k0.toInt < y30.toInt ∧ y30.toInt ≤ (st 1).toInt ∧ 0 ≤ y32.toInt ∧ y32.toInt ≤ y30.toInt) (hr33 : (r33.toInt = 0 ∧ ¬ (y30.toInt < (st 1).toInt ∧ 48 ≤ ((ar 2) y30.toNatClampNeg).toInt ∧ ((ar 2) y30.toNatClampNeg).toInt ≤ 57)) ∨ (r33.toInt = 1 ∧ (y30.toInt < (st 1).toInt ∧ 48 ≤ ((ar 2) y30.toNatClampNeg).toInt ∧ ((ar 2) y30.toNatClampNeg).toInt ≤ 57))) (c34 : r33.toInt = (0)) (c35 : x5.toInt ≤ (6)) (c39 : y32.toInt ≤ (3)) (c40 : (0) < y32.toInt) (hr44 : n45.toInt = (st 3).toInt + 1) (ex46 : x46 = n45 - 1) (tx46 : x46.toInt = n45.toInt - (1)) : vp_in x46 42 := by
  exact vp_in_iff.mpr ⟨by  omega, by  omega⟩
theorem v_number_31 (st : Nat → Int32) (ar : Nat → Nat → Int32) (lo : Nat → Nat → Int64) (re : Nat → UInt64) (k0 : Int32) (y1 : Int32) (y2 : Int64) (r3 : Int32) (x5 : Int32) (r6 : Int32) (x17 : Int32) (r18 : Int32) (x29 : Int32) (y30 : Int32) (y31 : Int64) (y32 : Int32) (r33 : Int32) (n45 : Int32) (x46 : Int32) (hpre : 0 ≤ (st 1).toInt ∧ (st 1).toInt ≤ 40 ∧ 0 ≤ (st 3).toInt ∧ (st 3).toInt ≤ k0.toInt ∧ k0.toInt < (st 1).toInt ∧ TKok (ar 4) (lo 6) (ar 7) (st 3).toInt ∧ (k0.toInt < (st 1).toInt ∧ 48 ≤ ((ar 2) k0.toNatClampNeg).toInt ∧ ((ar 2) k0.toNatClampNeg).toInt ≤ 57)) (hi4 : k0.toInt ≤ y1.toInt ∧ y1.toInt ≤ (st 1).toInt) (hr3 : (r3.toInt = 0 ∧ ¬ (y1.toInt < (st 1).toInt ∧ 48 ≤ ((ar 2) y1.toNatClampNeg).toInt ∧ ((ar 2) y1.toNatClampNeg).toInt ≤ 57)) ∨ (r3.toInt = 1 ∧ (y1.toInt < (st 1).toInt ∧ 48 ≤ ((ar 2) y1.toNatClampNeg).toInt ∧ ((ar 2) y1.toNatClampNeg).toInt ≤ 57))) (c4 : r3.toInt = (0)) (ex5 : x5 = y1 - k0) (tx5 : x5.toInt = y1.toInt - k0.toInt) (hr6 : (y1.toInt < (st 1).toInt ∧ r6.toInt = ((ar 2) y1.toNatClampNeg).toInt) ∨ ((st 1).toInt ≤ y1.toInt ∧ r6.toInt = 0)) (c7 : r6.toInt = (46)) (ex17 : x17 = y1 + 1) (tx17 : x17.toInt = y1.toInt + (1)) (hr18 : (r18.toInt = 0 ∧ ¬ (x17.toInt < (st 1).toInt ∧ 48 ≤ ((ar 2) x17.toNatClampNeg).toInt ∧ ((ar 2) x17.toNatClampNeg).toInt ≤ 57)) ∨ (r18.toInt = 1 ∧ (x17.toInt < (st 1).toInt ∧ 48 ≤ ((ar 2) x17.toNatClampNeg).toInt ∧ ((ar 2) x17.toNatClampNeg).toInt ≤ 57))) (c19 : ¬ r18.toInt = (0)) (ex29 : x29 = y1 + 1) (tx29 : x29.toInt = y1.toInt + (1)) (hi66 : k0.toInt < y30.toInt ∧ y30.toInt ≤ (st 1).toInt ∧ 0 ≤ y32.toInt ∧ y32.toInt ≤ y30.toInt) (hr33 : (r33.toInt = 0 ∧ ¬ (y30.toInt < (st 1).toInt ∧ 48 ≤ ((ar 2) y30.toNatClampNeg).toInt ∧ ((ar 2) y30.toNatClampNeg).toInt ≤ 57)) ∨ (r33.toInt = 1 ∧ (y30.toInt < (st 1).toInt ∧ 48 ≤ ((ar 2) y30.toNatClampNeg).toInt ∧ ((ar 2) y30.toNatClampNeg).toInt ≤ 57))) (c34 : r33.toInt = (0)) (c35 : x5.toInt ≤ (6)) (c39 : y32.toInt ≤ (3)) (c40 : (0) < y32.toInt) (hr44 : n45.toInt = (st 3).toInt + 1) (ex46 : x46 = n45 - 1) (tx46 : x46.toInt = n45.toInt - (1)) : k0.toInt < y30.toInt ∧ y30.toInt ≤ (st 1).toInt ∧ 0 ≤ n45.toInt ∧ n45.toInt ≤ y30.toInt ∧ TKok (upd (ar 4) (st 3).toNatClampNeg (2 : Int32)) (vp_updL (lo 6) (st 3).toNatClampNeg y31) (upd (upd (ar 7) (st 3).toNatClampNeg 0) x46.toNatClampNeg y32) n45.toInt := by
  have q2 : (2 : Int32).toInt = 2 := by decide +kernel
  have hy : ∀ y : Int32, y.toInt = k0.toInt → y = k0 := fun y h => Int32.toInt_inj.mp h
  have hc : y1.toInt ≠ k0.toInt := by
    intro h; have h := hy _ h; subst h; omega
  have hz := hpre.2.2.2.2.2.1
  and_intros <;> first | omega | exact hz | exact tk_add hz (by omega) (clampZ (by omega)) (by omega) (by omega) (by omega) | exact tk_add2 hz (by omega) (clampZ (by omega)) ((clampZ (by omega)).trans (by omega)) (by omega) (by omega) (by omega)
theorem v_number_32 (st : Nat → Int32) (ar : Nat → Nat → Int32) (lo : Nat → Nat → Int64) (re : Nat → UInt64) (k0 : Int32) (y1 : Int32) (y2 : Int64) (r3 : Int32) (x5 : Int32) (r6 : Int32) (x17 : Int32) (r18 : Int32) (x29 : Int32) (y30 : Int32) (y31 : Int64) (y32 : Int32) (r33 : Int32) (hpre : 0 ≤ (st 1).toInt ∧ (st 1).toInt ≤ 40 ∧ 0 ≤ (st 3).toInt ∧ (st 3).toInt ≤ k0.toInt ∧ k0.toInt < (st 1).toInt ∧ TKok (ar 4) (lo 6) (ar 7) (st 3).toInt ∧ (k0.toInt < (st 1).toInt ∧ 48 ≤ ((ar 2) k0.toNatClampNeg).toInt ∧ ((ar 2) k0.toNatClampNeg).toInt ≤ 57)) (hi4 : k0.toInt ≤ y1.toInt ∧ y1.toInt ≤ (st 1).toInt) (hr3 : (r3.toInt = 0 ∧ ¬ (y1.toInt < (st 1).toInt ∧ 48 ≤ ((ar 2) y1.toNatClampNeg).toInt ∧ ((ar 2) y1.toNatClampNeg).toInt ≤ 57)) ∨ (r3.toInt = 1 ∧ (y1.toInt < (st 1).toInt ∧ 48 ≤ ((ar 2) y1.toNatClampNeg).toInt ∧ ((ar 2) y1.toNatClampNeg).toInt ≤ 57))) (c4 : r3.toInt = (0)) (ex5 : x5 = y1 - k0) (tx5 : x5.toInt = y1.toInt - k0.toInt) (hr6 : (y1.toInt < (st 1).toInt ∧ r6.toInt = ((ar 2) y1.toNatClampNeg).toInt) ∨ ((st 1).toInt ≤ y1.toInt ∧ r6.toInt = 0)) (c7 : r6.toInt = (46)) (ex17 : x17 = y1 + 1) (tx17 : x17.toInt = y1.toInt + (1)) (hr18 : (r18.toInt = 0 ∧ ¬ (x17.toInt < (st 1).toInt ∧ 48 ≤ ((ar 2) x17.toNatClampNeg).toInt ∧ ((ar 2) x17.toNatClampNeg).toInt ≤ 57)) ∨ (r18.toInt = 1 ∧ (x17.toInt < (st 1).toInt ∧ 48 ≤ ((ar 2) x17.toNatClampNeg).toInt ∧ ((ar 2) x17.toNatClampNeg).toInt ≤ 57))) (c19 : ¬ r18.toInt = (0)) (ex29 : x29 = y1 + 1) (tx29 : x29.toInt = y1.toInt + (1)) (hi66 : k0.toInt < y30.toInt ∧ y30.toInt ≤ (st 1).toInt ∧ 0 ≤ y32.toInt ∧ y32.toInt ≤ y30.toInt) (hr33 : (r33.toInt = 0 ∧ ¬ (y30.toInt < (st 1).toInt ∧ 48 ≤ ((ar 2) y30.toNatClampNeg).toInt ∧ ((ar 2) y30.toNatClampNeg).toInt ≤ 57)) ∨ (r33.toInt = 1 ∧ (y30.toInt < (st 1).toInt ∧ 48 ≤ ((ar 2) y30.toNatClampNeg).toInt ∧ ((ar 2) y30.toNatClampNeg).toInt ≤ 57))) (c34 : r33.toInt = (0)) (c35 : x5.toInt ≤ (6)) (c39 : (3) < y32.toInt) : True := by
  first | trivial | omega | (simp; done) | (simp; omega) | (simp_all; done) | (simp_all; omega)
theorem v_number_33 (st : Nat → Int32) (ar : Nat → Nat → Int32) (lo : Nat → Nat → Int64) (re : Nat → UInt64) (k0 : Int32) (y1 : Int32) (y2 : Int64) (r3 : Int32) (x5 : Int32) (r6 : Int32) (x17 : Int32) (r18 : Int32) (x29 : Int32) (y30 : Int32) (y31 : Int64) (y32 : Int32) (r33 : Int32) (n48 : Int32) (n49 : Int32) (hpre : 0 ≤ (st 1).toInt ∧ (st 1).toInt ≤ 40 ∧ 0 ≤ (st 3).toInt ∧ (st 3).toInt ≤ k0.toInt ∧ k0.toInt < (st 1).toInt ∧ TKok (ar 4) (lo 6) (ar 7) (st 3).toInt ∧ (k0.toInt < (st 1).toInt ∧ 48 ≤ ((ar 2) k0.toNatClampNeg).toInt ∧ ((ar 2) k0.toNatClampNeg).toInt ≤ 57)) (hi4 : k0.toInt ≤ y1.toInt ∧ y1.toInt ≤ (st 1).toInt) (hr3 : (r3.toInt = 0 ∧ ¬ (y1.toInt < (st 1).toInt ∧ 48 ≤ ((ar 2) y1.toNatClampNeg).toInt ∧ ((ar 2) y1.toNatClampNeg).toInt ≤ 57)) ∨ (r3.toInt = 1 ∧ (y1.toInt < (st 1).toInt ∧ 48 ≤ ((ar 2) y1.toNatClampNeg).toInt ∧ ((ar 2) y1.toNatClampNeg).toInt ≤ 57))) (c4 : r3.toInt = (0)) (ex5 : x5 = y1 - k0) (tx5 : x5.toInt = y1.toInt - k0.toInt) (hr6 : (y1.toInt < (st 1).toInt ∧ r6.toInt = ((ar 2) y1.toNatClampNeg).toInt) ∨ ((st 1).toInt ≤ y1.toInt ∧ r6.toInt = 0)) (c7 : r6.toInt = (46)) (ex17 : x17 = y1 + 1) (tx17 : x17.toInt = y1.toInt + (1)) (hr18 : (r18.toInt = 0 ∧ ¬ (x17.toInt < (st 1).toInt ∧ 48 ≤ ((ar 2) x17.toNatClampNeg).toInt ∧ ((ar 2) x17.toNatClampNeg).toInt ≤ 57)) ∨ (r18.toInt = 1 ∧ (x17.toInt < (st 1).toInt ∧ 48 ≤ ((ar 2) x17.toNatClampNeg).toInt ∧ ((ar 2) x17.toNatClampNeg).toInt ≤ 57))) (c19 : ¬ r18.toInt = (0)) (ex29 : x29 = y1 + 1) (tx29 : x29.toInt = y1.toInt + (1)) (hi66 : k0.toInt < y30.toInt ∧ y30.toInt ≤ (st 1).toInt ∧ 0 ≤ y32.toInt ∧ y32.toInt ≤ y30.toInt) (hr33 : (r33.toInt = 0 ∧ ¬ (y30.toInt < (st 1).toInt ∧ 48 ≤ ((ar 2) y30.toNatClampNeg).toInt ∧ ((ar 2) y30.toNatClampNeg).toInt ≤ 57)) ∨ (r33.toInt = 1 ∧ (y30.toInt < (st 1).toInt ∧ 48 ≤ ((ar 2) y30.toNatClampNeg).toInt ∧ ((ar 2) y30.toNatClampNeg).toInt ≤ 57))) (c34 : r33.toInt = (0)) (c35 : x5.toInt ≤ (6)) (c39 : (3) < y32.toInt) (hr47 : ((st 8).toInt = 0 → n48 = (1 : Int32)) ∧ (¬ (st 8).toInt = 0 → n48 = (st 8))) : k0.toInt < y30.toInt ∧ y30.toInt ≤ (st 1).toInt ∧ 0 ≤ (st 3).toInt ∧ (st 3).toInt ≤ y30.toInt ∧ TKok (ar 4) (lo 6) (ar 7) (st 3).toInt := by
  have q1 : (1 : Int32).toInt = 1 := by decide +kernel
  have hy : ∀ y : Int32, y.toInt = k0.toInt → y = k0 := fun y h => Int32.toInt_inj.mp h
  have hc : y1.toInt ≠ k0.toInt := by
    intro h; have h := hy _ h; subst h; omega
  have hz := hpre.2.2.2.2.2.1
  and_intros <;> first | omega | exact hz | exact tk_add hz (by omega) (clampZ (by omega)) (by omega) (by omega) (by omega) | exact tk_add2 hz (by omega) (clampZ (by omega)) ((clampZ (by omega)).trans (by omega)) (by omega) (by omega) (by omega)
theorem v_number_34 (st : Nat → Int32) (ar : Nat → Nat → Int32) (lo : Nat → Nat → Int64) (re : Nat → UInt64) (k0 : Int32) (y1 : Int32) (y2 : Int64) (r3 : Int32) (x5 : Int32) (r6 : Int32) (x17 : Int32) (r18 : Int32) (x29 : Int32) (y30 : Int32) (y31 : Int64) (y32 : Int32) (r33 : Int32) (x50 : Int64) (hpre : 0 ≤ (st 1).toInt ∧ (st 1).toInt ≤ 40 ∧ 0 ≤ (st 3).toInt ∧ (st 3).toInt ≤ k0.toInt ∧ k0.toInt < (st 1).toInt ∧ TKok (ar 4) (lo 6) (ar 7) (st 3).toInt ∧ (k0.toInt < (st 1).toInt ∧ 48 ≤ ((ar 2) k0.toNatClampNeg).toInt ∧ ((ar 2) k0.toNatClampNeg).toInt ≤ 57)) (hi4 : k0.toInt ≤ y1.toInt ∧ y1.toInt ≤ (st 1).toInt) (hr3 : (r3.toInt = 0 ∧ ¬ (y1.toInt < (st 1).toInt ∧ 48 ≤ ((ar 2) y1.toNatClampNeg).toInt ∧ ((ar 2) y1.toNatClampNeg).toInt ≤ 57)) ∨ (r3.toInt = 1 ∧ (y1.toInt < (st 1).toInt ∧ 48 ≤ ((ar 2) y1.toNatClampNeg).toInt ∧ ((ar 2) y1.toNatClampNeg).toInt ≤ 57))) (c4 : r3.toInt = (0)) (ex5 : x5 = y1 - k0) (tx5 : x5.toInt = y1.toInt - k0.toInt) (hr6 : (y1.toInt < (st 1).toInt ∧ r6.toInt = ((ar 2) y1.toNatClampNeg).toInt) ∨ ((st 1).toInt ≤ y1.toInt ∧ r6.toInt = 0)) (c7 : r6.toInt = (46)) (ex17 : x17 = y1 + 1) (tx17 : x17.toInt = y1.toInt + (1)) (hr18 : (r18.toInt = 0 ∧ ¬ (x17.toInt < (st 1).toInt ∧ 48 ≤ ((ar 2) x17.toNatClampNeg).toInt ∧ ((ar 2) x17.toNatClampNeg).toInt ≤ 57)) ∨ (r18.toInt = 1 ∧ (x17.toInt < (st 1).toInt ∧ 48 ≤ ((ar 2) x17.toNatClampNeg).toInt ∧ ((ar 2) x17.toNatClampNeg).toInt ≤ 57))) (c19 : ¬ r18.toInt = (0)) (ex29 : x29 = y1 + 1) (tx29 : x29.toInt = y1.toInt + (1)) (hi66 : k0.toInt < y30.toInt ∧ y30.toInt ≤ (st 1).toInt ∧ 0 ≤ y32.toInt ∧ y32.toInt ≤ y30.toInt) (hr33 : (r33.toInt = 0 ∧ ¬ (y30.toInt < (st 1).toInt ∧ 48 ≤ ((ar 2) y30.toNatClampNeg).toInt ∧ ((ar 2) y30.toNatClampNeg).toInt ≤ 57)) ∨ (r33.toInt = 1 ∧ (y30.toInt < (st 1).toInt ∧ 48 ≤ ((ar 2) y30.toNatClampNeg).toInt ∧ ((ar 2) y30.toNatClampNeg).toInt ≤ 57))) (c34 : ¬ r33.toInt = (0)) (ex50 : x50 = y31 * 10) : 0 ≤ (st 1).toInt ∧ (st 1).toInt ≤ 40 ∧ 0 ≤ y30.toInt := by
  first | trivial | omega | (simp; done) | (simp; omega) | (simp_all; done) | (simp_all; omega)
theorem v_number_35 (st : Nat → Int32) (ar : Nat → Nat → Int32) (lo : Nat → Nat → Int64) (re : Nat → UInt64) (k0 : Int32) (y1 : Int32) (y2 : Int64) (r3 : Int32) (x5 : Int32) (r6 : Int32) (x17 : Int32) (r18 : Int32) (x29 : Int32) (y30 : Int32) (y31 : Int64) (y32 : Int32) (r33 : Int32) (x50 : Int64) (r51 : Int32) (x52 : Int64) (x53 : Int64) (x54 : Int64) (x55 : Int32) (hpre : 0 ≤ (st 1).toInt ∧ (st 1).toInt ≤ 40 ∧ 0 ≤ (st 3).toInt ∧ (st 3).toInt ≤ k0.toInt ∧ k0.toInt < (st 1).toInt ∧ TKok (ar 4) (lo 6) (ar 7) (st 3).toInt ∧ (k0.toInt < (st 1).toInt ∧ 48 ≤ ((ar 2) k0.toNatClampNeg).toInt ∧ ((ar 2) k0.toNatClampNeg).toInt ≤ 57)) (hi4 : k0.toInt ≤ y1.toInt ∧ y1.toInt ≤ (st 1).toInt) (hr3 : (r3.toInt = 0 ∧ ¬ (y1.toInt < (st 1).toInt ∧ 48 ≤ ((ar 2) y1.toNatClampNeg).toInt ∧ ((ar 2) y1.toNatClampNeg).toInt ≤ 57)) ∨ (r3.toInt = 1 ∧ (y1.toInt < (st 1).toInt ∧ 48 ≤ ((ar 2) y1.toNatClampNeg).toInt ∧ ((ar 2) y1.toNatClampNeg).toInt ≤ 57))) (c4 : r3.toInt = (0)) (ex5 : x5 = y1 - k0) (tx5 : x5.toInt = y1.toInt - k0.toInt) (hr6 : (y1.toInt < (st 1).toInt ∧ r6.toInt = ((ar 2) y1.toNatClampNeg).toInt) ∨ ((st 1).toInt ≤ y1.toInt ∧ r6.toInt = 0)) (c7 : r6.toInt = (46)) (ex17 : x17 = y1 + 1) (tx17 : x17.toInt = y1.toInt + (1)) (hr18 : (r18.toInt = 0 ∧ ¬ (x17.toInt < (st 1).toInt ∧ 48 ≤ ((ar 2) x17.toNatClampNeg).toInt ∧ ((ar 2) x17.toNatClampNeg).toInt ≤ 57)) ∨ (r18.toInt = 1 ∧ (x17.toInt < (st 1).toInt ∧ 48 ≤ ((ar 2) x17.toNatClampNeg).toInt ∧ ((ar 2) x17.toNatClampNeg).toInt ≤ 57))) (c19 : ¬ r18.toInt = (0)) (ex29 : x29 = y1 + 1) (tx29 : x29.toInt = y1.toInt + (1)) (hi66 : k0.toInt < y30.toInt ∧ y30.toInt ≤ (st 1).toInt ∧ 0 ≤ y32.toInt ∧ y32.toInt ≤ y30.toInt) (hr33 : (r33.toInt = 0 ∧ ¬ (y30.toInt < (st 1).toInt ∧ 48 ≤ ((ar 2) y30.toNatClampNeg).toInt ∧ ((ar 2) y30.toNatClampNeg).toInt ≤ 57)) ∨ (r33.toInt = 1 ∧ (y30.toInt < (st 1).toInt ∧ 48 ≤ ((ar 2) y30.toNatClampNeg).toInt ∧ ((ar 2) y30.toNatClampNeg).toInt ≤ 57))) (c34 : ¬ r33.toInt = (0)) (ex50 : x50 = y31 * 10) (hr51 : (y30.toInt < (st 1).toInt ∧ r51.toInt = ((ar 2) y30.toNatClampNeg).toInt) ∨ ((st 1).toInt ≤ y30.toInt ∧ r51.toInt = 0)) (ex52 : x52 = Int32.toInt64 r51) (tx52 : x52.toInt = r51.toInt) (ex53 : x53 = x50 + x52) (ex54 : x54 = x53 - 48) (ex55 : x55 = y30 + 1) : x55.toInt = y30.toInt + (1) := by
  have z9 : (1 : Int32).toInt = 1 := by decide +kernel
  rw [ex55, z_add (by omega) (by omega)]; first | done | omega
theorem v_number_36 (st : Nat → Int32) (ar : Nat → Nat → Int32) (lo : Nat → Nat → Int64) (re : Nat → UInt64) (k0 : Int32) (y1 : Int32) (y2 : Int64) (r3 : Int32) (x5 : Int32) (r6 : Int32) (x17 : Int32) (r18 : Int32) (x29 : Int32) (y30 : Int32) (y31 : Int64) (y32 : Int32) (r33 : Int32) (x50 : Int64) (r51 : Int32) (x52 : Int64) (x53 : Int64) (x54 : Int64) (x55 : Int32) (x56 : Int32) (hpre : 0 ≤ (st 1).toInt ∧ (st 1).toInt ≤ 40 ∧ 0 ≤ (st 3).toInt ∧ (st 3).toInt ≤ k0.toInt ∧ k0.toInt < (st 1).toInt ∧ TKok (ar 4) (lo 6) (ar 7) (st 3).toInt ∧ (k0.toInt < (st 1).toInt ∧ 48 ≤ ((ar 2) k0.toNatClampNeg).toInt ∧ ((ar 2) k0.toNatClampNeg).toInt ≤ 57)) (hi4 : k0.toInt ≤ y1.toInt ∧ y1.toInt ≤ (st 1).toInt) (hr3 : (r3.toInt = 0 ∧ ¬ (y1.toInt < (st 1).toInt ∧ 48 ≤ ((ar 2) y1.toNatClampNeg).toInt ∧ ((ar 2) y1.toNatClampNeg).toInt ≤ 57)) ∨ (r3.toInt = 1 ∧ (y1.toInt < (st 1).toInt ∧ 48 ≤ ((ar 2) y1.toNatClampNeg).toInt ∧ ((ar 2) y1.toNatClampNeg).toInt ≤ 57))) (c4 : r3.toInt = (0)) (ex5 : x5 = y1 - k0) (tx5 : x5.toInt = y1.toInt - k0.toInt) (hr6 : (y1.toInt < (st 1).toInt ∧ r6.toInt = ((ar 2) y1.toNatClampNeg).toInt) ∨ ((st 1).toInt ≤ y1.toInt ∧ r6.toInt = 0)) (c7 : r6.toInt = (46)) (ex17 : x17 = y1 + 1) (tx17 : x17.toInt = y1.toInt + (1)) (hr18 : (r18.toInt = 0 ∧ ¬ (x17.toInt < (st 1).toInt ∧ 48 ≤ ((ar 2) x17.toNatClampNeg).toInt ∧ ((ar 2) x17.toNatClampNeg).toInt ≤ 57)) ∨ (r18.toInt = 1 ∧ (x17.toInt < (st 1).toInt ∧ 48 ≤ ((ar 2) x17.toNatClampNeg).toInt ∧ ((ar 2) x17.toNatClampNeg).toInt ≤ 57))) (c19 : ¬ r18.toInt = (0)) (ex29 : x29 = y1 + 1) (tx29 : x29.toInt = y1.toInt + (1)) (hi66 : k0.toInt < y30.toInt ∧ y30.toInt ≤ (st 1).toInt ∧ 0 ≤ y32.toInt ∧ y32.toInt ≤ y30.toInt) (hr33 : (r33.toInt = 0 ∧ ¬ (y30.toInt < (st 1).toInt ∧ 48 ≤ ((ar 2) y30.toNatClampNeg).toInt ∧ ((ar 2) y30.toNatClampNeg).toInt ≤ 57)) ∨ (r33.toInt = 1 ∧ (y30.toInt < (st 1).toInt ∧ 48 ≤ ((ar 2) y30.toNatClampNeg).toInt ∧ ((ar 2) y30.toNatClampNeg).toInt ≤ 57))) (c34 : ¬ r33.toInt = (0)) (ex50 : x50 = y31 * 10) (hr51 : (y30.toInt < (st 1).toInt ∧ r51.toInt = ((ar 2) y30.toNatClampNeg).toInt) ∨ ((st 1).toInt ≤ y30.toInt ∧ r51.toInt = 0)) (ex52 : x52 = Int32.toInt64 r51) (tx52 : x52.toInt = r51.toInt) (ex53 : x53 = x50 + x52) (ex54 : x54 = x53 - 48) (ex55 : x55 = y30 + 1) (tx55 : x55.toInt = y30.toInt + (1)) (ex56 : x56 = y32 + 1) : x56.toInt = y32.toInt + (1) := by
  have z9 : (1 : Int32).toInt = 1 := by decide +kernel
  rw [ex56, z_add (by omega) (by omega)]; first | done | omega
theorem v_number_37 (st : Nat → Int32) (ar : Nat → Nat → Int32) (lo : Nat → Nat → Int64) (re : Nat → UInt64) (k0 : Int32) (y1 : Int32) (y2 : Int64) (r3 : Int32) (x5 : Int32) (r6 : Int32) (x17 : Int32) (r18 : Int32) (x29 : Int32) (y30 : Int32) (y31 : Int64) (y32 : Int32) (r33 : Int32) (x50 : Int64) (r51 : Int32) (x52 : Int64) (x53 : Int64) (x54 : Int64) (x55 : Int32) (x56 : Int32) (hpre : 0 ≤ (st 1).toInt ∧ (st 1).toInt ≤ 40 ∧ 0 ≤ (st 3).toInt ∧ (st 3).toInt ≤ k0.toInt ∧ k0.toInt < (st 1).toInt ∧ TKok (ar 4) (lo 6) (ar 7) (st 3).toInt ∧ (k0.toInt < (st 1).toInt ∧ 48 ≤ ((ar 2) k0.toNatClampNeg).toInt ∧ ((ar 2) k0.toNatClampNeg).toInt ≤ 57)) (hi4 : k0.toInt ≤ y1.toInt ∧ y1.toInt ≤ (st 1).toInt) (hr3 : (r3.toInt = 0 ∧ ¬ (y1.toInt < (st 1).toInt ∧ 48 ≤ ((ar 2) y1.toNatClampNeg).toInt ∧ ((ar 2) y1.toNatClampNeg).toInt ≤ 57)) ∨ (r3.toInt = 1 ∧ (y1.toInt < (st 1).toInt ∧ 48 ≤ ((ar 2) y1.toNatClampNeg).toInt ∧ ((ar 2) y1.toNatClampNeg).toInt ≤ 57))) (c4 : r3.toInt = (0)) (ex5 : x5 = y1 - k0) (tx5 : x5.toInt = y1.toInt - k0.toInt) (hr6 : (y1.toInt < (st 1).toInt ∧ r6.toInt = ((ar 2) y1.toNatClampNeg).toInt) ∨ ((st 1).toInt ≤ y1.toInt ∧ r6.toInt = 0)) (c7 : r6.toInt = (46)) (ex17 : x17 = y1 + 1) (tx17 : x17.toInt = y1.toInt + (1)) (hr18 : (r18.toInt = 0 ∧ ¬ (x17.toInt < (st 1).toInt ∧ 48 ≤ ((ar 2) x17.toNatClampNeg).toInt ∧ ((ar 2) x17.toNatClampNeg).toInt ≤ 57)) ∨ (r18.toInt = 1 ∧ (x17.toInt < (st 1).toInt ∧ 48 ≤ ((ar 2) x17.toNatClampNeg).toInt ∧ ((ar 2) x17.toNatClampNeg).toInt ≤ 57))) (c19 : ¬ r18.toInt = (0)) (ex29 : x29 = y1 + 1) (tx29 : x29.toInt = y1.toInt + (1)) (hi66 : k0.toInt < y30.toInt ∧ y30.toInt ≤ (st 1).toInt ∧ 0 ≤ y32.toInt ∧ y32.toInt ≤ y30.toInt) (hr33 : (r33.toInt = 0 ∧ ¬ (y30.toInt < (st 1).toInt ∧ 48 ≤ ((ar 2) y30.toNatClampNeg).toInt ∧ ((ar 2) y30.toNatClampNeg).toInt ≤ 57)) ∨ (r33.toInt = 1 ∧ (y30.toInt < (st 1).toInt ∧ 48 ≤ ((ar 2) y30.toNatClampNeg).toInt ∧ ((ar 2) y30.toNatClampNeg).toInt ≤ 57))) (c34 : ¬ r33.toInt = (0)) (ex50 : x50 = y31 * 10) (hr51 : (y30.toInt < (st 1).toInt ∧ r51.toInt = ((ar 2) y30.toNatClampNeg).toInt) ∨ ((st 1).toInt ≤ y30.toInt ∧ r51.toInt = 0)) (ex52 : x52 = Int32.toInt64 r51) (tx52 : x52.toInt = r51.toInt) (ex53 : x53 = x50 + x52) (ex54 : x54 = x53 - 48) (ex55 : x55 = y30 + 1) (tx55 : x55.toInt = y30.toInt + (1)) (ex56 : x56 = y32 + 1) (tx56 : x56.toInt = y32.toInt + (1)) : k0.toInt < x55.toInt ∧ x55.toInt ≤ (st 1).toInt ∧ 0 ≤ x56.toInt ∧ x56.toInt ≤ x55.toInt := by
  first | trivial | omega | (simp; done) | (simp; omega) | (simp_all; done) | (simp_all; omega)
theorem v_number_38 (st : Nat → Int32) (ar : Nat → Nat → Int32) (lo : Nat → Nat → Int64) (re : Nat → UInt64) (k0 : Int32) (y1 : Int32) (y2 : Int64) (r3 : Int32) (x5 : Int32) (r6 : Int32) (x17 : Int32) (r18 : Int32) (x29 : Int32) (y30 : Int32) (y31 : Int64) (y32 : Int32) (r33 : Int32) (x50 : Int64) (r51 : Int32) (x52 : Int64) (x53 : Int64) (x54 : Int64) (x55 : Int32) (x56 : Int32) (hpre : 0 ≤ (st 1).toInt ∧ (st 1).toInt ≤ 40 ∧ 0 ≤ (st 3).toInt ∧ (st 3).toInt ≤ k0.toInt ∧ k0.toInt < (st 1).toInt ∧ TKok (ar 4) (lo 6) (ar 7) (st 3).toInt ∧ (k0.toInt < (st 1).toInt ∧ 48 ≤ ((ar 2) k0.toNatClampNeg).toInt ∧ ((ar 2) k0.toNatClampNeg).toInt ≤ 57)) (hi4 : k0.toInt ≤ y1.toInt ∧ y1.toInt ≤ (st 1).toInt) (hr3 : (r3.toInt = 0 ∧ ¬ (y1.toInt < (st 1).toInt ∧ 48 ≤ ((ar 2) y1.toNatClampNeg).toInt ∧ ((ar 2) y1.toNatClampNeg).toInt ≤ 57)) ∨ (r3.toInt = 1 ∧ (y1.toInt < (st 1).toInt ∧ 48 ≤ ((ar 2) y1.toNatClampNeg).toInt ∧ ((ar 2) y1.toNatClampNeg).toInt ≤ 57))) (c4 : r3.toInt = (0)) (ex5 : x5 = y1 - k0) (tx5 : x5.toInt = y1.toInt - k0.toInt) (hr6 : (y1.toInt < (st 1).toInt ∧ r6.toInt = ((ar 2) y1.toNatClampNeg).toInt) ∨ ((st 1).toInt ≤ y1.toInt ∧ r6.toInt = 0)) (c7 : r6.toInt = (46)) (ex17 : x17 = y1 + 1) (tx17 : x17.toInt = y1.toInt + (1)) (hr18 : (r18.toInt = 0 ∧ ¬ (x17.toInt < (st 1).toInt ∧ 48 ≤ ((ar 2) x17.toNatClampNeg).toInt ∧ ((ar 2) x17.toNatClampNeg).toInt ≤ 57)) ∨ (r18.toInt = 1 ∧ (x17.toInt < (st 1).toInt ∧ 48 ≤ ((ar 2) x17.toNatClampNeg).toInt ∧ ((ar 2) x17.toNatClampNeg).toInt ≤ 57))) (c19 : ¬ r18.toInt = (0)) (ex29 : x29 = y1 + 1) (tx29 : x29.toInt = y1.toInt + (1)) (hi66 : k0.toInt < y30.toInt ∧ y30.toInt ≤ (st 1).toInt ∧ 0 ≤ y32.toInt ∧ y32.toInt ≤ y30.toInt) (hr33 : (r33.toInt = 0 ∧ ¬ (y30.toInt < (st 1).toInt ∧ 48 ≤ ((ar 2) y30.toNatClampNeg).toInt ∧ ((ar 2) y30.toNatClampNeg).toInt ≤ 57)) ∨ (r33.toInt = 1 ∧ (y30.toInt < (st 1).toInt ∧ 48 ≤ ((ar 2) y30.toNatClampNeg).toInt ∧ ((ar 2) y30.toNatClampNeg).toInt ≤ 57))) (c34 : ¬ r33.toInt = (0)) (ex50 : x50 = y31 * 10) (hr51 : (y30.toInt < (st 1).toInt ∧ r51.toInt = ((ar 2) y30.toNatClampNeg).toInt) ∨ ((st 1).toInt ≤ y30.toInt ∧ r51.toInt = 0)) (ex52 : x52 = Int32.toInt64 r51) (tx52 : x52.toInt = r51.toInt) (ex53 : x53 = x50 + x52) (ex54 : x54 = x53 - 48) (ex55 : x55 = y30 + 1) (tx55 : x55.toInt = y30.toInt + (1)) (ex56 : x56 = y32 + 1) (tx56 : x56.toInt = y32.toInt + (1)) : ((st 1).toInt - x55.toInt).toNat < ((st 1).toInt - y30.toInt).toNat := by
  first | trivial | omega | (simp; done) | (simp; omega) | (simp_all; done) | (simp_all; omega)
theorem v_number_39 (st : Nat → Int32) (ar : Nat → Nat → Int32) (lo : Nat → Nat → Int64) (re : Nat → UInt64) (k0 : Int32) (y1 : Int32) (y2 : Int64) (r3 : Int32) (x57 : Int64) (hpre : 0 ≤ (st 1).toInt ∧ (st 1).toInt ≤ 40 ∧ 0 ≤ (st 3).toInt ∧ (st 3).toInt ≤ k0.toInt ∧ k0.toInt < (st 1).toInt ∧ TKok (ar 4) (lo 6) (ar 7) (st 3).toInt ∧ (k0.toInt < (st 1).toInt ∧ 48 ≤ ((ar 2) k0.toNatClampNeg).toInt ∧ ((ar 2) k0.toNatClampNeg).toInt ≤ 57)) (hi4 : k0.toInt ≤ y1.toInt ∧ y1.toInt ≤ (st 1).toInt) (hr3 : (r3.toInt = 0 ∧ ¬ (y1.toInt < (st 1).toInt ∧ 48 ≤ ((ar 2) y1.toNatClampNeg).toInt ∧ ((ar 2) y1.toNatClampNeg).toInt ≤ 57)) ∨ (r3.toInt = 1 ∧ (y1.toInt < (st 1).toInt ∧ 48 ≤ ((ar 2) y1.toNatClampNeg).toInt ∧ ((ar 2) y1.toNatClampNeg).toInt ≤ 57))) (c4 : ¬ r3.toInt = (0)) (ex57 : x57 = y2 * 10) : 0 ≤ (st 1).toInt ∧ (st 1).toInt ≤ 40 ∧ 0 ≤ y1.toInt := by
  first | trivial | omega | (simp; done) | (simp; omega) | (simp_all; done) | (simp_all; omega)
theorem v_number_40 (st : Nat → Int32) (ar : Nat → Nat → Int32) (lo : Nat → Nat → Int64) (re : Nat → UInt64) (k0 : Int32) (y1 : Int32) (y2 : Int64) (r3 : Int32) (x57 : Int64) (r58 : Int32) (x59 : Int64) (x60 : Int64) (x61 : Int64) (x62 : Int32) (hpre : 0 ≤ (st 1).toInt ∧ (st 1).toInt ≤ 40 ∧ 0 ≤ (st 3).toInt ∧ (st 3).toInt ≤ k0.toInt ∧ k0.toInt < (st 1).toInt ∧ TKok (ar 4) (lo 6) (ar 7) (st 3).toInt ∧ (k0.toInt < (st 1).toInt ∧ 48 ≤ ((ar 2) k0.toNatClampNeg).toInt ∧ ((ar 2) k0.toNatClampNeg).toInt ≤ 57)) (hi4 : k0.toInt ≤ y1.toInt ∧ y1.toInt ≤ (st 1).toInt) (hr3 : (r3.toInt = 0 ∧ ¬ (y1.toInt < (st 1).toInt ∧ 48 ≤ ((ar 2) y1.toNatClampNeg).toInt ∧ ((ar 2) y1.toNatClampNeg).toInt ≤ 57)) ∨ (r3.toInt = 1 ∧ (y1.toInt < (st 1).toInt ∧ 48 ≤ ((ar 2) y1.toNatClampNeg).toInt ∧ ((ar 2) y1.toNatClampNeg).toInt ≤ 57))) (c4 : ¬ r3.toInt = (0)) (ex57 : x57 = y2 * 10) (hr58 : (y1.toInt < (st 1).toInt ∧ r58.toInt = ((ar 2) y1.toNatClampNeg).toInt) ∨ ((st 1).toInt ≤ y1.toInt ∧ r58.toInt = 0)) (ex59 : x59 = Int32.toInt64 r58) (tx59 : x59.toInt = r58.toInt) (ex60 : x60 = x57 + x59) (ex61 : x61 = x60 - 48) (ex62 : x62 = y1 + 1) : x62.toInt = y1.toInt + (1) := by
  have z9 : (1 : Int32).toInt = 1 := by decide +kernel
  rw [ex62, z_add (by omega) (by omega)]; first | done | omega
theorem v_number_41 (st : Nat → Int32) (ar : Nat → Nat → Int32) (lo : Nat → Nat → Int64) (re : Nat → UInt64) (k0 : Int32) (y1 : Int32) (y2 : Int64) (r3 : Int32) (x57 : Int64) (r58 : Int32) (x59 : Int64) (x60 : Int64) (x61 : Int64) (x62 : Int32) (hpre : 0 ≤ (st 1).toInt ∧ (st 1).toInt ≤ 40 ∧ 0 ≤ (st 3).toInt ∧ (st 3).toInt ≤ k0.toInt ∧ k0.toInt < (st 1).toInt ∧ TKok (ar 4) (lo 6) (ar 7) (st 3).toInt ∧ (k0.toInt < (st 1).toInt ∧ 48 ≤ ((ar 2) k0.toNatClampNeg).toInt ∧ ((ar 2) k0.toNatClampNeg).toInt ≤ 57)) (hi4 : k0.toInt ≤ y1.toInt ∧ y1.toInt ≤ (st 1).toInt) (hr3 : (r3.toInt = 0 ∧ ¬ (y1.toInt < (st 1).toInt ∧ 48 ≤ ((ar 2) y1.toNatClampNeg).toInt ∧ ((ar 2) y1.toNatClampNeg).toInt ≤ 57)) ∨ (r3.toInt = 1 ∧ (y1.toInt < (st 1).toInt ∧ 48 ≤ ((ar 2) y1.toNatClampNeg).toInt ∧ ((ar 2) y1.toNatClampNeg).toInt ≤ 57))) (c4 : ¬ r3.toInt = (0)) (ex57 : x57 = y2 * 10) (hr58 : (y1.toInt < (st 1).toInt ∧ r58.toInt = ((ar 2) y1.toNatClampNeg).toInt) ∨ ((st 1).toInt ≤ y1.toInt ∧ r58.toInt = 0)) (ex59 : x59 = Int32.toInt64 r58) (tx59 : x59.toInt = r58.toInt) (ex60 : x60 = x57 + x59) (ex61 : x61 = x60 - 48) (ex62 : x62 = y1 + 1) (tx62 : x62.toInt = y1.toInt + (1)) : k0.toInt ≤ x62.toInt ∧ x62.toInt ≤ (st 1).toInt := by
  first | trivial | omega | (simp; done) | (simp; omega) | (simp_all; done) | (simp_all; omega)
theorem v_number_42 (st : Nat → Int32) (ar : Nat → Nat → Int32) (lo : Nat → Nat → Int64) (re : Nat → UInt64) (k0 : Int32) (y1 : Int32) (y2 : Int64) (r3 : Int32) (x57 : Int64) (r58 : Int32) (x59 : Int64) (x60 : Int64) (x61 : Int64) (x62 : Int32) (hpre : 0 ≤ (st 1).toInt ∧ (st 1).toInt ≤ 40 ∧ 0 ≤ (st 3).toInt ∧ (st 3).toInt ≤ k0.toInt ∧ k0.toInt < (st 1).toInt ∧ TKok (ar 4) (lo 6) (ar 7) (st 3).toInt ∧ (k0.toInt < (st 1).toInt ∧ 48 ≤ ((ar 2) k0.toNatClampNeg).toInt ∧ ((ar 2) k0.toNatClampNeg).toInt ≤ 57)) (hi4 : k0.toInt ≤ y1.toInt ∧ y1.toInt ≤ (st 1).toInt) (hr3 : (r3.toInt = 0 ∧ ¬ (y1.toInt < (st 1).toInt ∧ 48 ≤ ((ar 2) y1.toNatClampNeg).toInt ∧ ((ar 2) y1.toNatClampNeg).toInt ≤ 57)) ∨ (r3.toInt = 1 ∧ (y1.toInt < (st 1).toInt ∧ 48 ≤ ((ar 2) y1.toNatClampNeg).toInt ∧ ((ar 2) y1.toNatClampNeg).toInt ≤ 57))) (c4 : ¬ r3.toInt = (0)) (ex57 : x57 = y2 * 10) (hr58 : (y1.toInt < (st 1).toInt ∧ r58.toInt = ((ar 2) y1.toNatClampNeg).toInt) ∨ ((st 1).toInt ≤ y1.toInt ∧ r58.toInt = 0)) (ex59 : x59 = Int32.toInt64 r58) (tx59 : x59.toInt = r58.toInt) (ex60 : x60 = x57 + x59) (ex61 : x61 = x60 - 48) (ex62 : x62 = y1 + 1) (tx62 : x62.toInt = y1.toInt + (1)) : ((st 1).toInt - x62.toInt).toNat < ((st 1).toInt - y1.toInt).toNat := by
  first | trivial | omega | (simp; done) | (simp; omega) | (simp_all; done) | (simp_all; omega)
theorem v_quoted_1 (st : Nat → Int32) (ar : Nat → Nat → Int32) (lo : Nat → Nat → Int64) (re : Nat → UInt64) (k0 : Int32) (x1 : Int32) (hpre : 0 ≤ (st 1).toInt ∧ (st 1).toInt ≤ 40 ∧ 0 ≤ (st 3).toInt ∧ (st 3).toInt ≤ k0.toInt ∧ k0.toInt < (st 1).toInt ∧ TKok (ar 4) (lo 6) (ar 7) (st 3).toInt) (ex1 : x1 = k0 + 1) : x1.toInt = k0.toInt + (1) := by
  have z1 : (1 : Int32).toInt = 1 := by decide +kernel
  rw [ex1, z_add (by omega) (by omega)]; first | done | omega
theorem v_quoted_2 (st : Nat → Int32) (ar : Nat → Nat → Int32) (lo : Nat → Nat → Int64) (re : Nat → UInt64) (k0 : Int32) (x1 : Int32) (hpre : 0 ≤ (st 1).toInt ∧ (st 1).toInt ≤ 40 ∧ 0 ≤ (st 3).toInt ∧ (st 3).toInt ≤ k0.toInt ∧ k0.toInt < (st 1).toInt ∧ TKok (ar 4) (lo 6) (ar 7) (st 3).toInt) (ex1 : x1 = k0 + 1) (tx1 : x1.toInt = k0.toInt + (1)) : k0.toInt < x1.toInt ∧ x1.toInt ≤ (st 1).toInt := by
  first | trivial | omega | (simp; done) | (simp; omega) | (simp_all; done) | (simp_all; omega)
theorem v_quoted_3 (st : Nat → Int32) (ar : Nat → Nat → Int32) (lo : Nat → Nat → Int64) (re : Nat → UInt64) (k0 : Int32) (x1 : Int32) (y2 : Int32) (y3 : Int64) (hpre : 0 ≤ (st 1).toInt ∧ (st 1).toInt ≤ 40 ∧ 0 ≤ (st 3).toInt ∧ (st 3).toInt ≤ k0.toInt ∧ k0.toInt < (st 1).toInt ∧ TKok (ar 4) (lo 6) (ar 7) (st 3).toInt) (ex1 : x1 = k0 + 1) (tx1 : x1.toInt = k0.toInt + (1)) (hi6 : k0.toInt < y2.toInt ∧ y2.toInt ≤ (st 1).toInt) (c4 : (st 1).toInt ≤ y2.toInt) : 0 ≤ (st 1).toInt ∧ (st 1).toInt ≤ 40 ∧ 0 ≤ y2.toInt := by
  first | trivial | omega | (simp; done) | (simp; omega) | (simp_all; done) | (simp_all; omega)
theorem v_quoted_4 (st : Nat → Int32) (ar : Nat → Nat → Int32) (lo : Nat → Nat → Int64) (re : Nat → UInt64) (k0 : Int32) (x1 : Int32) (y2 : Int32) (y3 : Int64) (r5 : Int32) (x7 : Int32) (hpre : 0 ≤ (st 1).toInt ∧ (st 1).toInt ≤ 40 ∧ 0 ≤ (st 3).toInt ∧ (st 3).toInt ≤ k0.toInt ∧ k0.toInt < (st 1).toInt ∧ TKok (ar 4) (lo 6) (ar 7) (st 3).toInt) (ex1 : x1 = k0 + 1) (tx1 : x1.toInt = k0.toInt + (1)) (hi6 : k0.toInt < y2.toInt ∧ y2.toInt ≤ (st 1).toInt) (c4 : (st 1).toInt ≤ y2.toInt) (hr5 : (y2.toInt < (st 1).toInt ∧ r5.toInt = ((ar 2) y2.toNatClampNeg).toInt) ∨ ((st 1).toInt ≤ y2.toInt ∧ r5.toInt = 0)) (c6 : r5.toInt = (39)) (ex7 : x7 = y2 - k0) : x7.toInt = y2.toInt - k0.toInt := by
  rw [ex7, z_sub (by omega) (by omega)]; first | done | omega
theorem v_quoted_5 (st : Nat → Int32) (ar : Nat → Nat → Int32) (lo : Nat → Nat → Int64) (re : Nat → UInt64) (k0 : Int32) (x1 : Int32) (y2 : Int32) (y3 : Int64) (r5 : Int32) (x7 : Int32) (x8 : Int32) (hpre : 0 ≤ (st 1).toInt ∧ (st 1).toInt ≤ 40 ∧ 0 ≤ (st 3).toInt ∧ (st 3).toInt ≤ k0.toInt ∧ k0.toInt < (st 1).toInt ∧ TKok (ar 4) (lo 6) (ar 7) (st 3).toInt) (ex1 : x1 = k0 + 1) (tx1 : x1.toInt = k0.toInt + (1)) (hi6 : k0.toInt < y2.toInt ∧ y2.toInt ≤ (st 1).toInt) (c4 : (st 1).toInt ≤ y2.toInt) (hr5 : (y2.toInt < (st 1).toInt ∧ r5.toInt = ((ar 2) y2.toNatClampNeg).toInt) ∨ ((st 1).toInt ≤ y2.toInt ∧ r5.toInt = 0)) (c6 : r5.toInt = (39)) (ex7 : x7 = y2 - k0) (tx7 : x7.toInt = y2.toInt - k0.toInt) (ex8 : x8 = x7 - 1) : x8.toInt = x7.toInt - (1) := by
  have z1 : (1 : Int32).toInt = 1 := by decide +kernel
  rw [ex8, z_sub (by omega) (by omega)]; first | done | omega
theorem v_quoted_6 (st : Nat → Int32) (ar : Nat → Nat → Int32) (lo : Nat → Nat → Int64) (re : Nat → UInt64) (k0 : Int32) (x1 : Int32) (y2 : Int32) (y3 : Int64) (r5 : Int32) (x7 : Int32) (x8 : Int32) (x9 : Int64) (x10 : Int64) (x11 : Int64) (hpre : 0 ≤ (st 1).toInt ∧ (st 1).toInt ≤ 40 ∧ 0 ≤ (st 3).toInt ∧ (st 3).toInt ≤ k0.toInt ∧ k0.toInt < (st 1).toInt ∧ TKok (ar 4) (lo 6) (ar 7) (st 3).toInt) (ex1 : x1 = k0 + 1) (tx1 : x1.toInt = k0.toInt + (1)) (hi6 : k0.toInt < y2.toInt ∧ y2.toInt ≤ (st 1).toInt) (c4 : (st 1).toInt ≤ y2.toInt) (hr5 : (y2.toInt < (st 1).toInt ∧ r5.toInt = ((ar 2) y2.toNatClampNeg).toInt) ∨ ((st 1).toInt ≤ y2.toInt ∧ r5.toInt = 0)) (c6 : r5.toInt = (39)) (ex7 : x7 = y2 - k0) (tx7 : x7.toInt = y2.toInt - k0.toInt) (ex8 : x8 = x7 - 1) (tx8 : x8.toInt = x7.toInt - (1)) (ex9 : x9 = Int32.toInt64 x8) (tx9 : x9.toInt = x8.toInt) (ex10 : x10 = x9 <<< (Int32.toInt64 (56 : Int32) &&& 63)) (ex11 : x11 = y3 ||| x10) : 0 ≤ (st 3).toInt ∧ (st 3).toInt ≤ 41 := by
  have q56 : (56 : Int32).toInt = 56 := by decide +kernel
  first | trivial | omega | (simp; done) | (simp; omega) | (simp_all; done) | (simp_all; omega)
theorem v_quoted_7 (st : Nat → Int32) (ar : Nat → Nat → Int32) (lo : Nat → Nat → Int64) (re : Nat → UInt64) (k0 : Int32) (x1 : Int32) (y2 : Int32) (y3 : Int64) (r5 : Int32) (x7 : Int32) (x8 : Int32) (x9 : Int64) (x10 : Int64) (x11 : Int64) (n13 : Int32) (x14 : Int32) (hpre : 0 ≤ (st 1).toInt ∧ (st 1).toInt ≤ 40 ∧ 0 ≤ (st 3).toInt ∧ (st 3).toInt ≤ k0.toInt ∧ k0.toInt < (st 1).toInt ∧ TKok (ar 4) (lo 6) (ar 7) (st 3).toInt) (ex1 : x1 = k0 + 1) (tx1 : x1.toInt = k0.toInt + (1)) (hi6 : k0.toInt < y2.toInt ∧ y2.toInt ≤ (st 1).toInt) (c4 : (st 1).toInt ≤ y2.toInt) (hr5 : (y2.toInt < (st 1).toInt ∧ r5.toInt = ((ar 2) y2.toNatClampNeg).toInt) ∨ ((st 1).toInt ≤ y2.toInt ∧ r5.toInt = 0)) (c6 : r5.toInt = (39)) (ex7 : x7 = y2 - k0) (tx7 : x7.toInt = y2.toInt - k0.toInt) (ex8 : x8 = x7 - 1) (tx8 : x8.toInt = x7.toInt - (1)) (ex9 : x9 = Int32.toInt64 x8) (tx9 : x9.toInt = x8.toInt) (ex10 : x10 = x9 <<< (Int32.toInt64 (56 : Int32) &&& 63)) (ex11 : x11 = y3 ||| x10) (hr12 : n13.toInt = (st 3).toInt + 1) (ex14 : x14 = y2 + 1) : x14.toInt = y2.toInt + (1) := by
  have q56 : (56 : Int32).toInt = 56 := by decide +kernel
  have z1 : (1 : Int32).toInt = 1 := by decide +kernel
  rw [ex14, z_add (by omega) (by omega)]; first | done | omega
theorem v_quoted_8 (st : Nat → Int32) (ar : Nat → Nat → Int32) (lo : Nat → Nat → Int64) (re : Nat → UInt64) (k0 : Int32) (x1 : Int32) (y2 : Int32) (y3 : Int64) (r5 : Int32) (x7 : Int32) (x8 : Int32) (x9 : Int64) (x10 : Int64) (x11 : Int64) (n13 : Int32) (x14 : Int32) (hpre : 0 ≤ (st 1).toInt ∧ (st 1).toInt ≤ 40 ∧ 0 ≤ (st 3).toInt ∧ (st 3).toInt ≤ k0.toInt ∧ k0.toInt < (st 1).toInt ∧ TKok (ar 4) (lo 6) (ar 7) (st 3).toInt) (ex1 : x1 = k0 + 1) (tx1 : x1.toInt = k0.toInt + (1)) (hi6 : k0.toInt < y2.toInt ∧ y2.toInt ≤ (st 1).toInt) (c4 : (st 1).toInt ≤ y2.toInt) (hr5 : (y2.toInt < (st 1).toInt ∧ r5.toInt = ((ar 2) y2.toNatClampNeg).toInt) ∨ ((st 1).toInt ≤ y2.toInt ∧ r5.toInt = 0)) (c6 : r5.toInt = (39)) (ex7 : x7 = y2 - k0) (tx7 : x7.toInt = y2.toInt - k0.toInt) (ex8 : x8 = x7 - 1) (tx8 : x8.toInt = x7.toInt - (1)) (ex9 : x9 = Int32.toInt64 x8) (tx9 : x9.toInt = x8.toInt) (ex10 : x10 = x9 <<< (Int32.toInt64 (56 : Int32) &&& 63)) (ex11 : x11 = y3 ||| x10) (hr12 : n13.toInt = (st 3).toInt + 1) (ex14 : x14 = y2 + 1) (tx14 : x14.toInt = y2.toInt + (1)) : k0.toInt < x14.toInt ∧ x14.toInt ≤ (st 1).toInt ∧ 0 ≤ n13.toInt ∧ n13.toInt ≤ x14.toInt ∧ TKok (upd (ar 4) (st 3).toNatClampNeg (4 : Int32)) (vp_updL (lo 6) (st 3).toNatClampNeg x11) (upd (ar 7) (st 3).toNatClampNeg 0) n13.toInt := by
  have q4 : (4 : Int32).toInt = 4 := by decide +kernel
  have q56 : (56 : Int32).toInt = 56 := by decide +kernel
  have hz := hpre.2.2.2.2.2
  and_intros <;> first | omega | exact hz | exact tk_add hz (by omega) (clampZ (by omega)) (by omega) (by omega) (by omega)
theorem v_quoted_9 (st : Nat → Int32) (ar : Nat → Nat → Int32) (lo : Nat → Nat → Int64) (re : Nat → UInt64) (k0 : Int32) (x1 : Int32) (y2 : Int32) (y3 : Int64) (r5 : Int32) (hpre : 0 ≤ (st 1).toInt ∧ (st 1).toInt ≤ 40 ∧ 0 ≤ (st 3).toInt ∧ (st 3).toInt ≤ k0.toInt ∧ k0.toInt < (st 1).toInt ∧ TKok (ar 4) (lo 6) (ar 7) (st 3).toInt) (ex1 : x1 = k0 + 1) (tx1 : x1.toInt = k0.toInt + (1)) (hi6 : k0.toInt < y2.toInt ∧ y2.toInt ≤ (st 1).toInt) (c4 : (st 1).toInt ≤ y2.toInt) (hr5 : (y2.toInt < (st 1).toInt ∧ r5.toInt = ((ar 2) y2.toNatClampNeg).toInt) ∨ ((st 1).toInt ≤ y2.toInt ∧ r5.toInt = 0)) (c6 : ¬ r5.toInt = (39)) : True := by
  first | trivial | omega | (simp; done) | (simp; omega) | (simp_all; done) | (simp_all; omega)
theorem v_quoted_10 (st : Nat → Int32) (ar : Nat → Nat → Int32) (lo : Nat → Nat → Int64) (re : Nat → UInt64) (k0 : Int32) (x1 : Int32) (y2 : Int32) (y3 : Int64) (r5 : Int32) (n16 : Int32) (n17 : Int32) (hpre : 0 ≤ (st 1).toInt ∧ (st 1).toInt ≤ 40 ∧ 0 ≤ (st 3).toInt ∧ (st 3).toInt ≤ k0.toInt ∧ k0.toInt < (st 1).toInt ∧ TKok (ar 4) (lo 6) (ar 7) (st 3).toInt) (ex1 : x1 = k0 + 1) (tx1 : x1.toInt = k0.toInt + (1)) (hi6 : k0.toInt < y2.toInt ∧ y2.toInt ≤ (st 1).toInt) (c4 : (st 1).toInt ≤ y2.toInt) (hr5 : (y2.toInt < (st 1).toInt ∧ r5.toInt = ((ar 2) y2.toNatClampNeg).toInt) ∨ ((st 1).toInt ≤ y2.toInt ∧ r5.toInt = 0)) (c6 : ¬ r5.toInt = (39)) (hr15 : ((st 8).toInt = 0 → n16 = (1 : Int32)) ∧ (¬ (st 8).toInt = 0 → n16 = (st 8))) : k0.toInt < (st 1).toInt ∧ (st 1).toInt ≤ (st 1).toInt ∧ 0 ≤ (st 3).toInt ∧ (st 3).toInt ≤ (st 1).toInt ∧ TKok (ar 4) (lo 6) (ar 7) (st 3).toInt := by
  have q1 : (1 : Int32).toInt = 1 := by decide +kernel
  have hz := hpre.2.2.2.2.2
  and_intros <;> first | omega | exact hz | exact tk_add hz (by omega) (clampZ (by omega)) (by omega) (by omega) (by omega)
theorem v_quoted_11 (st : Nat → Int32) (ar : Nat → Nat → Int32) (lo : Nat → Nat → Int64) (re : Nat → UInt64) (k0 : Int32) (x1 : Int32) (y2 : Int32) (y3 : Int64) (hpre : 0 ≤ (st 1).toInt ∧ (st 1).toInt ≤ 40 ∧ 0 ≤ (st 3).toInt ∧ (st 3).toInt ≤ k0.toInt ∧ k0.toInt < (st 1).toInt ∧ TKok (ar 4) (lo 6) (ar 7) (st 3).toInt) (ex1 : x1 = k0 + 1) (tx1 : x1.toInt = k0.toInt + (1)) (hi6 : k0.toInt < y2.toInt ∧ y2.toInt ≤ (st 1).toInt) (c4 : y2.toInt < (st 1).toInt) : 0 ≤ (st 1).toInt ∧ (st 1).toInt ≤ 40 ∧ 0 ≤ y2.toInt := by
  first | trivial | omega | (simp; done) | (simp; omega) | (simp_all; done) | (simp_all; omega)
theorem v_quoted_12 (st : Nat → Int32) (ar : Nat → Nat → Int32) (lo : Nat → Nat → Int64) (re : Nat → UInt64) (k0 : Int32) (x1 : Int32) (y2 : Int32) (y3 : Int64) (r18 : Int32) (hpre : 0 ≤ (st 1).toInt ∧ (st 1).toInt ≤ 40 ∧ 0 ≤ (st 3).toInt ∧ (st 3).toInt ≤ k0.toInt ∧ k0.toInt < (st 1).toInt ∧ TKok (ar 4) (lo 6) (ar 7) (st 3).toInt) (ex1 : x1 = k0 + 1) (tx1 : x1.toInt = k0.toInt + (1)) (hi6 : k0.toInt < y2.toInt ∧ y2.toInt ≤ (st 1).toInt) (c4 : y2.toInt < (st 1).toInt) (hr18 : (y2.toInt < (st 1).toInt ∧ r18.toInt = ((ar 2) y2.toNatClampNeg).toInt) ∨ ((st 1).toInt ≤ y2.toInt ∧ r18.toInt = 0)) (c19 : r18.toInt = (39)) : 0 ≤ (st 1).toInt ∧ (st 1).toInt ≤ 40 ∧ 0 ≤ y2.toInt := by
  first | trivial | omega | (simp; done) | (simp; omega) | (simp_all; done) | (simp_all; omega)
theorem v_quoted_13 (st : Nat → Int32) (ar : Nat → Nat → Int32) (lo : Nat → Nat → Int64) (re : Nat → UInt64) (k0 : Int32) (x1 : Int32) (y2 : Int32) (y3 : Int64) (r18 : Int32) (r20 : Int32) (x22 : Int32) (hpre : 0 ≤ (st 1).toInt ∧ (st 1).toInt ≤ 40 ∧ 0 ≤ (st 3).toInt ∧ (st 3).toInt ≤ k0.toInt ∧ k0.toInt < (st 1).toInt ∧ TKok (ar 4) (lo 6) (ar 7) (st 3).toInt) (ex1 : x1 = k0 + 1) (tx1 : x1.toInt = k0.toInt + (1)) (hi6 : k0.toInt < y2.toInt ∧ y2.toInt ≤ (st 1).toInt) (c4 : y2.toInt < (st 1).toInt) (hr18 : (y2.toInt < (st 1).toInt ∧ r18.toInt = ((ar 2) y2.toNatClampNeg).toInt) ∨ ((st 1).toInt ≤ y2.toInt ∧ r18.toInt = 0)) (c19 : r18.toInt = (39)) (hr20 : (y2.toInt < (st 1).toInt ∧ r20.toInt = ((ar 2) y2.toNatClampNeg).toInt) ∨ ((st 1).toInt ≤ y2.toInt ∧ r20.toInt = 0)) (c21 : r20.toInt = (39)) (ex22 : x22 = y2 - k0) : x22.toInt = y2.toInt - k0.toInt := by
  rw [ex22, z_sub (by omega) (by omega)]; first | done | omega
theorem v_quoted_14 (st : Nat → Int32) (ar : Nat → Nat → Int32) (lo : Nat → Nat → Int64) (re : Nat → UInt64) (k0 : Int32) (x1 : Int32) (y2 : Int32) (y3 : Int64) (r18 : Int32) (r20 : Int32) (x22 : Int32) (x23 : Int32) (hpre : 0 ≤ (st 1).toInt ∧ (st 1).toInt ≤ 40 ∧ 0 ≤ (st 3).toInt ∧ (st 3).toInt ≤ k0.toInt ∧ k0.toInt < (st 1).toInt ∧ TKok (ar 4) (lo 6) (ar 7) (st 3).toInt) (ex1 : x1 = k0 + 1) (tx1 : x1.toInt = k0.toInt + (1)) (hi6 : k0.toInt < y2.toInt ∧ y2.toInt ≤ (st 1).toInt) (c4 : y2.toInt < (st 1).toInt) (hr18 : (y2.toInt < (st 1).toInt ∧ r18.toInt = ((ar 2) y2.toNatClampNeg).toInt) ∨ ((st 1).toInt ≤ y2.toInt ∧ r18.toInt = 0)) (c19 : r18.toInt = (39)) (hr20 : (y2.toInt < (st 1).toInt ∧ r20.toInt = ((ar 2) y2.toNatClampNeg).toInt) ∨ ((st 1).toInt ≤ y2.toInt ∧ r20.toInt = 0)) (c21 : r20.toInt = (39)) (ex22 : x22 = y2 - k0) (tx22 : x22.toInt = y2.toInt - k0.toInt) (ex23 : x23 = x22 - 1) : x23.toInt = x22.toInt - (1) := by
  have z1 : (1 : Int32).toInt = 1 := by decide +kernel
  rw [ex23, z_sub (by omega) (by omega)]; first | done | omega
theorem v_quoted_15 (st : Nat → Int32) (ar : Nat → Nat → Int32) (lo : Nat → Nat → Int64) (re : Nat → UInt64) (k0 : Int32) (x1 : Int32) (y2 : Int32) (y3 : Int64) (r18 : Int32) (r20 : Int32) (x22 : Int32) (x23 : Int32) (x24 : Int64) (x25 : Int64) (x26 : Int64) (hpre : 0 ≤ (st 1).toInt ∧ (st 1).toInt ≤ 40 ∧ 0 ≤ (st 3).toInt ∧ (st 3).toInt ≤ k0.toInt ∧ k0.toInt < (st 1).toInt ∧ TKok (ar 4) (lo 6) (ar 7) (st 3).toInt) (ex1 : x1 = k0 + 1) (tx1 : x1.toInt = k0.toInt + (1)) (hi6 : k0.toInt < y2.toInt ∧ y2.toInt ≤ (st 1).toInt) (c4 : y2.toInt < (st 1).toInt) (hr18 : (y2.toInt < (st 1).toInt ∧ r18.toInt = ((ar 2) y2.toNatClampNeg).toInt) ∨ ((st 1).toInt ≤ y2.toInt ∧ r18.toInt = 0)) (c19 : r18.toInt = (39)) (hr20 : (y2.toInt < (st 1).toInt ∧ r20.toInt = ((ar 2) y2.toNatClampNeg).toInt) ∨ ((st 1).toInt ≤ y2.toInt ∧ r20.toInt = 0)) (c21 : r20.toInt = (39)) (ex22 : x22 = y2 - k0) (tx22 : x22.toInt = y2.toInt - k0.toInt) (ex23 : x23 = x22 - 1) (tx23 : x23.toInt = x22.toInt - (1)) (ex24 : x24 = Int32.toInt64 x23) (tx24 : x24.toInt = x23.toInt) (ex25 : x25 = x24 <<< (Int32.toInt64 (56 : Int32) &&& 63)) (ex26 : x26 = y3 ||| x25) : 0 ≤ (st 3).toInt ∧ (st 3).toInt ≤ 41 := by
  have q56 : (56 : Int32).toInt = 56 := by decide +kernel
  first | trivial | omega | (simp; done) | (simp; omega) | (simp_all; done) | (simp_all; omega)
theorem v_quoted_16 (st : Nat → Int32) (ar : Nat → Nat → Int32) (lo : Nat → Nat → Int64) (re : Nat → UInt64) (k0 : Int32) (x1 : Int32) (y2 : Int32) (y3 : Int64) (r18 : Int32) (r20 : Int32) (x22 : Int32) (x23 : Int32) (x24 : Int64) (x25 : Int64) (x26 : Int64) (n28 : Int32) (x29 : Int32) (hpre : 0 ≤ (st 1).toInt ∧ (st 1).toInt ≤ 40 ∧ 0 ≤ (st 3).toInt ∧ (st 3).toInt ≤ k0.toInt ∧ k0.toInt < (st 1).toInt ∧ TKok (ar 4) (lo 6) (ar 7) (st 3).toInt) (ex1 : x1 = k0 + 1) (tx1 : x1.toInt = k0.toInt + (1)) (hi6 : k0.toInt < y2.toInt ∧ y2.toInt ≤ (st 1).toInt) (c4 : y2.toInt < (st 1).toInt) (hr18 : (y2.toInt < (st 1).toInt ∧ r18.toInt = ((ar 2) y2.toNatClampNeg).toInt) ∨ ((st 1).toInt ≤ y2.toInt ∧ r18.toInt = 0)) (c19 : r18.toInt = (39)) (hr20 : (y2.toInt < (st 1).toInt ∧ r20.toInt = ((ar 2) y2.toNatClampNeg).toInt) ∨ ((st 1).toInt ≤ y2.toInt ∧ r20.toInt = 0)) (c21 : r20.toInt = (39)) (ex22 : x22 = y2 - k0) (tx22 : x22.toInt = y2.toInt - k0.toInt) (ex23 : x23 = x22 - 1) (tx23 : x23.toInt = x22.toInt - (1)) (ex24 : x24 = Int32.toInt64 x23) (tx24 : x24.toInt = x23.toInt) (ex25 : x25 = x24 <<< (Int32.toInt64 (56 : Int32) &&& 63)) (ex26 : x26 = y3 ||| x25) (hr27 : n28.toInt = (st 3).toInt + 1) (ex29 : x29 = y2 + 1) : x29.toInt = y2.toInt + (1) := by
  have q56 : (56 : Int32).toInt = 56 := by decide +kernel
  have z1 : (1 : Int32).toInt = 1 := by decide +kernel
  rw [ex29, z_add (by omega) (by omega)]; first | done | omega
theorem v_quoted_17 (st : Nat → Int32) (ar : Nat → Nat → Int32) (lo : Nat → Nat → Int64) (re : Nat → UInt64) (k0 : Int32) (x1 : Int32) (y2 : Int32) (y3 : Int64) (r18 : Int32) (r20 : Int32) (x22 : Int32) (x23 : Int32) (x24 : Int64) (x25 : Int64) (x26 : Int64) (n28 : Int32) (x29 : Int32) (hpre : 0 ≤ (st 1).toInt ∧ (st 1).toInt ≤ 40 ∧ 0 ≤ (st 3).toInt ∧ (st 3).toInt ≤ k0.toInt ∧ k0.toInt < (st 1).toInt ∧ TKok (ar 4) (lo 6) (ar 7) (st 3).toInt) (ex1 : x1 = k0 + 1) (tx1 : x1.toInt = k0.toInt + (1)) (hi6 : k0.toInt < y2.toInt ∧ y2.toInt ≤ (st 1).toInt) (c4 : y2.toInt < (st 1).toInt) (hr18 : (y2.toInt < (st 1).toInt ∧ r18.toInt = ((ar 2) y2.toNatClampNeg).toInt) ∨ ((st 1).toInt ≤ y2.toInt ∧ r18.toInt = 0)) (c19 : r18.toInt = (39)) (hr20 : (y2.toInt < (st 1).toInt ∧ r20.toInt = ((ar 2) y2.toNatClampNeg).toInt) ∨ ((st 1).toInt ≤ y2.toInt ∧ r20.toInt = 0)) (c21 : r20.toInt = (39)) (ex22 : x22 = y2 - k0) (tx22 : x22.toInt = y2.toInt - k0.toInt) (ex23 : x23 = x22 - 1) (tx23 : x23.toInt = x22.toInt - (1)) (ex24 : x24 = Int32.toInt64 x23) (tx24 : x24.toInt = x23.toInt) (ex25 : x25 = x24 <<< (Int32.toInt64 (56 : Int32) &&& 63)) (ex26 : x26 = y3 ||| x25) (hr27 : n28.toInt = (st 3).toInt + 1) (ex29 : x29 = y2 + 1) (tx29 : x29.toInt = y2.toInt + (1)) : k0.toInt < x29.toInt ∧ x29.toInt ≤ (st 1).toInt ∧ 0 ≤ n28.toInt ∧ n28.toInt ≤ x29.toInt ∧ TKok (upd (ar 4) (st 3).toNatClampNeg (4 : Int32)) (vp_updL (lo 6) (st 3).toNatClampNeg x26) (upd (ar 7) (st 3).toNatClampNeg 0) n28.toInt := by
  have q4 : (4 : Int32).toInt = 4 := by decide +kernel
  have q56 : (56 : Int32).toInt = 56 := by decide +kernel
  have hz := hpre.2.2.2.2.2
  and_intros <;> first | omega | exact hz | exact tk_add hz (by omega) (clampZ (by omega)) (by omega) (by omega) (by omega)
theorem v_quoted_18 (st : Nat → Int32) (ar : Nat → Nat → Int32) (lo : Nat → Nat → Int64) (re : Nat → UInt64) (k0 : Int32) (x1 : Int32) (y2 : Int32) (y3 : Int64) (r18 : Int32) (r20 : Int32) (hpre : 0 ≤ (st 1).toInt ∧ (st 1).toInt ≤ 40 ∧ 0 ≤ (st 3).toInt ∧ (st 3).toInt ≤ k0.toInt ∧ k0.toInt < (st 1).toInt ∧ TKok (ar 4) (lo 6) (ar 7) (st 3).toInt) (ex1 : x1 = k0 + 1) (tx1 : x1.toInt = k0.toInt + (1)) (hi6 : k0.toInt < y2.toInt ∧ y2.toInt ≤ (st 1).toInt) (c4 : y2.toInt < (st 1).toInt) (hr18 : (y2.toInt < (st 1).toInt ∧ r18.toInt = ((ar 2) y2.toNatClampNeg).toInt) ∨ ((st 1).toInt ≤ y2.toInt ∧ r18.toInt = 0)) (c19 : r18.toInt = (39)) (hr20 : (y2.toInt < (st 1).toInt ∧ r20.toInt = ((ar 2) y2.toNatClampNeg).toInt) ∨ ((st 1).toInt ≤ y2.toInt ∧ r20.toInt = 0)) (c21 : ¬ r20.toInt = (39)) : True := by
  first | trivial | omega | (simp; done) | (simp; omega) | (simp_all; done) | (simp_all; omega)
theorem v_quoted_19 (st : Nat → Int32) (ar : Nat → Nat → Int32) (lo : Nat → Nat → Int64) (re : Nat → UInt64) (k0 : Int32) (x1 : Int32) (y2 : Int32) (y3 : Int64) (r18 : Int32) (r20 : Int32) (n31 : Int32) (n32 : Int32) (hpre : 0 ≤ (st 1).toInt ∧ (st 1).toInt ≤ 40 ∧ 0 ≤ (st 3).toInt ∧ (st 3).toInt ≤ k0.toInt ∧ k0.toInt < (st 1).toInt ∧ TKok (ar 4) (lo 6) (ar 7) (st 3).toInt) (ex1 : x1 = k0 + 1) (tx1 : x1.toInt = k0.toInt + (1)) (hi6 : k0.toInt < y2.toInt ∧ y2.toInt ≤ (st 1).toInt) (c4 : y2.toInt < (st 1).toInt) (hr18 : (y2.toInt < (st 1).toInt ∧ r18.toInt = ((ar 2) y2.toNatClampNeg).toInt) ∨ ((st 1).toInt ≤ y2.toInt ∧ r18.toInt = 0)) (c19 : r18.toInt = (39)) (hr20 : (y2.toInt < (st 1).toInt ∧ r20.toInt = ((ar 2) y2.toNatClampNeg).toInt) ∨ ((st 1).toInt ≤ y2.toInt ∧ r20.toInt = 0)) (c21 : ¬ r20.toInt = (39)) (hr30 : ((st 8).toInt = 0 → n31 = (1 : Int32)) ∧ (¬ (st 8).toInt = 0 → n31 = (st 8))) : k0.toInt < (st 1).toInt ∧ (st 1).toInt ≤ (st 1).toInt ∧ 0 ≤ (st 3).toInt ∧ (st 3).toInt ≤ (st 1).toInt ∧ TKok (ar 4) (lo 6) (ar 7) (st 3).toInt := by
  have q1 : (1 : Int32).toInt = 1 := by decide +kernel
  have hz := hpre.2.2.2.2.2
  and_intros <;> first | omega | exact hz | exact tk_add hz (by omega) (clampZ (by omega)) (by omega) (by omega) (by omega)
theorem v_quoted_20 (st : Nat → Int32) (ar : Nat → Nat → Int32) (lo : Nat → Nat → Int64) (re : Nat → UInt64) (k0 : Int32) (x1 : Int32) (y2 : Int32) (y3 : Int64) (r18 : Int32) (x33 : Int32) (hpre : 0 ≤ (st 1).toInt ∧ (st 1).toInt ≤ 40 ∧ 0 ≤ (st 3).toInt ∧ (st 3).toInt ≤ k0.toInt ∧ k0.toInt < (st 1).toInt ∧ TKok (ar 4) (lo 6) (ar 7) (st 3).toInt) (ex1 : x1 = k0 + 1) (tx1 : x1.toInt = k0.toInt + (1)) (hi6 : k0.toInt < y2.toInt ∧ y2.toInt ≤ (st 1).toInt) (c4 : y2.toInt < (st 1).toInt) (hr18 : (y2.toInt < (st 1).toInt ∧ r18.toInt = ((ar 2) y2.toNatClampNeg).toInt) ∨ ((st 1).toInt ≤ y2.toInt ∧ r18.toInt = 0)) (c19 : ¬ r18.toInt = (39)) (ex33 : x33 = y2 - k0) : x33.toInt = y2.toInt - k0.toInt := by
  rw [ex33, z_sub (by omega) (by omega)]; first | done | omega
theorem v_quoted_21 (st : Nat → Int32) (ar : Nat → Nat → Int32) (lo : Nat → Nat → Int64) (re : Nat → UInt64) (k0 : Int32) (x1 : Int32) (y2 : Int32) (y3 : Int64) (r18 : Int32) (x33 : Int32) (hpre : 0 ≤ (st 1).toInt ∧ (st 1).toInt ≤ 40 ∧ 0 ≤ (st 3).toInt ∧ (st 3).toInt ≤ k0.toInt ∧ k0.toInt < (st 1).toInt ∧ TKok (ar 4) (lo 6) (ar 7) (st 3).toInt) (ex1 : x1 = k0 + 1) (tx1 : x1.toInt = k0.toInt + (1)) (hi6 : k0.toInt < y2.toInt ∧ y2.toInt ≤ (st 1).toInt) (c4 : y2.toInt < (st 1).toInt) (hr18 : (y2.toInt < (st 1).toInt ∧ r18.toInt = ((ar 2) y2.toNatClampNeg).toInt) ∨ ((st 1).toInt ≤ y2.toInt ∧ r18.toInt = 0)) (c19 : ¬ r18.toInt = (39)) (ex33 : x33 = y2 - k0) (tx33 : x33.toInt = y2.toInt - k0.toInt) (c34 : (8) < x33.toInt) : 0 ≤ (st 1).toInt ∧ (st 1).toInt ≤ 40 ∧ 0 ≤ y2.toInt := by
  first | trivial | omega | (simp; done) | (simp; omega) | (simp_all; done) | (simp_all; omega)
theorem v_quoted_22 (st : Nat → Int32) (ar : Nat → Nat → Int32) (lo : Nat → Nat → Int64) (re : Nat → UInt64) (k0 : Int32) (x1 : Int32) (y2 : Int32) (y3 : Int64) (r18 : Int32) (x33 : Int32) (r35 : Int32) (x37 : Int32) (hpre : 0 ≤ (st 1).toInt ∧ (st 1).toInt ≤ 40 ∧ 0 ≤ (st 3).toInt ∧ (st 3).toInt ≤ k0.toInt ∧ k0.toInt < (st 1).toInt ∧ TKok (ar 4) (lo 6) (ar 7) (st 3).toInt) (ex1 : x1 = k0 + 1) (tx1 : x1.toInt = k0.toInt + (1)) (hi6 : k0.toInt < y2.toInt ∧ y2.toInt ≤ (st 1).toInt) (c4 : y2.toInt < (st 1).toInt) (hr18 : (y2.toInt < (st 1).toInt ∧ r18.toInt = ((ar 2) y2.toNatClampNeg).toInt) ∨ ((st 1).toInt ≤ y2.toInt ∧ r18.toInt = 0)) (c19 : ¬ r18.toInt = (39)) (ex33 : x33 = y2 - k0) (tx33 : x33.toInt = y2.toInt - k0.toInt) (c34 : (8) < x33.toInt) (hr35 : (y2.toInt < (st 1).toInt ∧ r35.toInt = ((ar 2) y2.toNatClampNeg).toInt) ∨ ((st 1).toInt ≤ y2.toInt ∧ r35.toInt = 0)) (c36 : r35.toInt = (39)) (ex37 : x37 = y2 - k0) : x37.toInt = y2.toInt - k0.toInt := by
  rw [ex37, z_sub (by omega) (by omega)]; first | done | omega
theorem v_quoted_23 (st : Nat → Int32) (ar : Nat → Nat → Int32) (lo : Nat → Nat → Int64) (re : Nat → UInt64) (k0 : Int32) (x1 : Int32) (y2 : Int32) (y3 : Int64) (r18 : Int32) (x33 : Int32) (r35 : Int32) (x37 : Int32) (x38 : Int32) (hpre : 0 ≤ (st 1).toInt ∧ (st 1).toInt ≤ 40 ∧ 0 ≤ (st 3).toInt ∧ (st 3).toInt ≤ k0.toInt ∧ k0.toInt < (st 1).toInt ∧ TKok (ar 4) (lo 6) (ar 7) (st 3).toInt) (ex1 : x1 = k0 + 1) (tx1 : x1.toInt = k0.toInt + (1)) (hi6 : k0.toInt < y2.toInt ∧ y2.toInt ≤ (st 1).toInt) (c4 : y2.toInt < (st 1).toInt) (hr18 : (y2.toInt < (st 1).toInt ∧ r18.toInt = ((ar 2) y2.toNatClampNeg).toInt) ∨ ((st 1).toInt ≤ y2.toInt ∧ r18.toInt = 0)) (c19 : ¬ r18.toInt = (39)) (ex33 : x33 = y2 - k0) (tx33 : x33.toInt = y2.toInt - k0.toInt) (c34 : (8) < x33.toInt) (hr35 : (y2.toInt < (st 1).toInt ∧ r35.toInt = ((ar 2) y2.toNatClampNeg).toInt) ∨ ((st 1).toInt ≤ y2.toInt ∧ r35.toInt = 0)) (c36 : r35.toInt = (39)) (ex37 : x37 = y2 - k0) (tx37 : x37.toInt = y2.toInt - k0.toInt) (ex38 : x38 = x37 - 1) : x38.toInt = x37.toInt - (1) := by
  have z1 : (1 : Int32).toInt = 1 := by decide +kernel
  rw [ex38, z_sub (by omega) (by omega)]; first | done | omega
theorem v_quoted_24 (st : Nat → Int32) (ar : Nat → Nat → Int32) (lo : Nat → Nat → Int64) (re : Nat → UInt64) (k0 : Int32) (x1 : Int32) (y2 : Int32) (y3 : Int64) (r18 : Int32) (x33 : Int32) (r35 : Int32) (x37 : Int32) (x38 : Int32) (x39 : Int64) (x40 : Int64) (x41 : Int64) (hpre : 0 ≤ (st 1).toInt ∧ (st 1).toInt ≤ 40 ∧ 0 ≤ (st 3).toInt ∧ (st 3).toInt ≤ k0.toInt ∧ k0.toInt < (st 1).toInt ∧ TKok (ar 4) (lo 6) (ar 7) (st 3).toInt) (ex1 : x1 = k0 + 1) (tx1 : x1.toInt = k0.toInt + (1)) (hi6 : k0.toInt < y2.toInt ∧ y2.toInt ≤ (st 1).toInt) (c4 : y2.toInt < (st 1).toInt) (hr18 : (y2.toInt < (st 1).toInt ∧ r18.toInt = ((ar 2) y2.toNatClampNeg).toInt) ∨ ((st 1).toInt ≤ y2.toInt ∧ r18.toInt = 0)) (c19 : ¬ r18.toInt = (39)) (ex33 : x33 = y2 - k0) (tx33 : x33.toInt = y2.toInt - k0.toInt) (c34 : (8) < x33.toInt) (hr35 : (y2.toInt < (st 1).toInt ∧ r35.toInt = ((ar 2) y2.toNatClampNeg).toInt) ∨ ((st 1).toInt ≤ y2.toInt ∧ r35.toInt = 0)) (c36 : r35.toInt = (39)) (ex37 : x37 = y2 - k0) (tx37 : x37.toInt = y2.toInt - k0.toInt) (ex38 : x38 = x37 - 1) (tx38 : x38.toInt = x37.toInt - (1)) (ex39 : x39 = Int32.toInt64 x38) (tx39 : x39.toInt = x38.toInt) (ex40 : x40 = x39 <<< (Int32.toInt64 (56 : Int32) &&& 63)) (ex41 : x41 = y3 ||| x40) : 0 ≤ (st 3).toInt ∧ (st 3).toInt ≤ 41 := by
  have q56 : (56 : Int32).toInt = 56 := by decide +kernel
  first | trivial | omega | (simp; done) | (simp; omega) | (simp_all; done) | (simp_all; omega)
theorem v_quoted_25 (st : Nat → Int32) (ar : Nat → Nat → Int32) (lo : Nat → Nat → Int64) (re : Nat → UInt64) (k0 : Int32) (x1 : Int32) (y2 : Int32) (y3 : Int64) (r18 : Int32) (x33 : Int32) (r35 : Int32) (x37 : Int32) (x38 : Int32) (x39 : Int64) (x40 : Int64) (x41 : Int64) (n43 : Int32) (x44 : Int32) (hpre : 0 ≤ (st 1).toInt ∧ (st 1).toInt ≤ 40 ∧ 0 ≤ (st 3).toInt ∧ (st 3).toInt ≤ k0.toInt ∧ k0.toInt < (st 1).toInt ∧ TKok (ar 4) (lo 6) (ar 7) (st 3).toInt) (ex1 : x1 = k0 + 1) (tx1 : x1.toInt = k0.toInt + (1)) (hi6 : k0.toInt < y2.toInt ∧ y2.toInt ≤ (st 1).toInt) (c4 : y2.toInt < (st 1).toInt) (hr18 : (y2.toInt < (st 1).toInt ∧ r18.toInt = ((ar 2) y2.toNatClampNeg).toInt) ∨ ((st 1).toInt ≤ y2.toInt ∧ r18.toInt = 0)) (c19 : ¬ r18.toInt = (39)) (ex33 : x33 = y2 - k0) (tx33 : x33.toInt = y2.toInt - k0.toInt) (c34 : (8) < x33.toInt) (hr35 : (y2.toInt < (st 1).toInt ∧ r35.toInt = ((ar 2) y2.toNatClampNeg).toInt) ∨ ((st 1).toInt ≤ y2.toInt ∧ r35.toInt = 0)) (c36 : r35.toInt = (39)) (ex37 : x37 = y2 - k0) (tx37 : x37.toInt = y2.toInt - k0.toInt) (ex38 : x38 = x37 - 1) (tx38 : x38.toInt = x37.toInt - (1)) (ex39 : x39 = Int32.toInt64 x38) (tx39 : x39.toInt = x38.toInt) (ex40 : x40 = x39 <<< (Int32.toInt64 (56 : Int32) &&& 63)) (ex41 : x41 = y3 ||| x40) (hr42 : n43.toInt = (st 3).toInt + 1) (ex44 : x44 = y2 + 1) : x44.toInt = y2.toInt + (1) := by
  have q56 : (56 : Int32).toInt = 56 := by decide +kernel
  have z1 : (1 : Int32).toInt = 1 := by decide +kernel
  rw [ex44, z_add (by omega) (by omega)]; first | done | omega
theorem v_quoted_26 (st : Nat → Int32) (ar : Nat → Nat → Int32) (lo : Nat → Nat → Int64) (re : Nat → UInt64) (k0 : Int32) (x1 : Int32) (y2 : Int32) (y3 : Int64) (r18 : Int32) (x33 : Int32) (r35 : Int32) (x37 : Int32) (x38 : Int32) (x39 : Int64) (x40 : Int64) (x41 : Int64) (n43 : Int32) (x44 : Int32) (hpre : 0 ≤ (st 1).toInt ∧ (st 1).toInt ≤ 40 ∧ 0 ≤ (st 3).toInt ∧ (st 3).toInt ≤ k0.toInt ∧ k0.toInt < (st 1).toInt ∧ TKok (ar 4) (lo 6) (ar 7) (st 3).toInt) (ex1 : x1 = k0 + 1) (tx1 : x1.toInt = k0.toInt + (1)) (hi6 : k0.toInt < y2.toInt ∧ y2.toInt ≤ (st 1).toInt) (c4 : y2.toInt < (st 1).toInt) (hr18 : (y2.toInt < (st 1).toInt ∧ r18.toInt = ((ar 2) y2.toNatClampNeg).toInt) ∨ ((st 1).toInt ≤ y2.toInt ∧ r18.toInt = 0)) (c19 : ¬ r18.toInt = (39)) (ex33 : x33 = y2 - k0) (tx33 : x33.toInt = y2.toInt - k0.toInt) (c34 : (8) < x33.toInt) (hr35 : (y2.toInt < (st 1).toInt ∧ r35.toInt = ((ar 2) y2.toNatClampNeg).toInt) ∨ ((st 1).toInt ≤ y2.toInt ∧ r35.toInt = 0)) (c36 : r35.toInt = (39)) (ex37 : x37 = y2 - k0) (tx37 : x37.toInt = y2.toInt - k0.toInt) (ex38 : x38 = x37 - 1) (tx38 : x38.toInt = x37.toInt - (1)) (ex39 : x39 = Int32.toInt64 x38) (tx39 : x39.toInt = x38.toInt) (ex40 : x40 = x39 <<< (Int32.toInt64 (56 : Int32) &&& 63)) (ex41 : x41 = y3 ||| x40) (hr42 : n43.toInt = (st 3).toInt + 1) (ex44 : x44 = y2 + 1) (tx44 : x44.toInt = y2.toInt + (1)) : k0.toInt < x44.toInt ∧ x44.toInt ≤ (st 1).toInt ∧ 0 ≤ n43.toInt ∧ n43.toInt ≤ x44.toInt ∧ TKok (upd (ar 4) (st 3).toNatClampNeg (4 : Int32)) (vp_updL (lo 6) (st 3).toNatClampNeg x41) (upd (ar 7) (st 3).toNatClampNeg 0) n43.toInt := by
  have q4 : (4 : Int32).toInt = 4 := by decide +kernel
  have q56 : (56 : Int32).toInt = 56 := by decide +kernel
  have hz := hpre.2.2.2.2.2
  and_intros <;> first | omega | exact hz | exact tk_add hz (by omega) (clampZ (by omega)) (by omega) (by omega) (by omega)
theorem v_quoted_27 (st : Nat → Int32) (ar : Nat → Nat → Int32) (lo : Nat → Nat → Int64) (re : Nat → UInt64) (k0 : Int32) (x1 : Int32) (y2 : Int32) (y3 : Int64) (r18 : Int32) (x33 : Int32) (r35 : Int32) (hpre : 0 ≤ (st 1).toInt ∧ (st 1).toInt ≤ 40 ∧ 0 ≤ (st 3).toInt ∧ (st 3).toInt ≤ k0.toInt ∧ k0.toInt < (st 1).toInt ∧ TKok (ar 4) (lo 6) (ar 7) (st 3).toInt) (ex1 : x1 = k0 + 1) (tx1 : x1.toInt = k0.toInt + (1)) (hi6 : k0.toInt < y2.toInt ∧ y2.toInt ≤ (st 1).toInt) (c4 : y2.toInt < (st 1).toInt) (hr18 : (y2.toInt < (st 1).toInt ∧ r18.toInt = ((ar 2) y2.toNatClampNeg).toInt) ∨ ((st 1).toInt ≤ y2.toInt ∧ r18.toInt = 0)) (c19 : ¬ r18.toInt = (39)) (ex33 : x33 = y2 - k0) (tx33 : x33.toInt = y2.toInt - k0.toInt) (c34 : (8) < x33.toInt) (hr35 : (y2.toInt < (st 1).toInt ∧ r35.toInt = ((ar 2) y2.toNatClampNeg).toInt) ∨ ((st 1).toInt ≤ y2.toInt ∧ r35.toInt = 0)) (c36 : ¬ r35.toInt = (39)) : True := by
  first | trivial | omega | (simp; done) | (simp; omega) | (simp_all; done) | (simp_all; omega)
theorem v_quoted_28 (st : Nat → Int32) (ar : Nat → Nat → Int32) (lo : Nat → Nat → Int64) (re : Nat → UInt64) (k0 : Int32) (x1 : Int32) (y2 : Int32) (y3 : Int64) (r18 : Int32) (x33 : Int32) (r35 : Int32) (n46 : Int32) (n47 : Int32) (hpre : 0 ≤ (st 1).toInt ∧ (st 1).toInt ≤ 40 ∧ 0 ≤ (st 3).toInt ∧ (st 3).toInt ≤ k0.toInt ∧ k0.toInt < (st 1).toInt ∧ TKok (ar 4) (lo 6) (ar 7) (st 3).toInt) (ex1 : x1 = k0 + 1) (tx1 : x1.toInt = k0.toInt + (1)) (hi6 : k0.toInt < y2.toInt ∧ y2.toInt ≤ (st 1).toInt) (c4 : y2.toInt < (st 1).toInt) (hr18 : (y2.toInt < (st 1).toInt ∧ r18.toInt = ((ar 2) y2.toNatClampNeg).toInt) ∨ ((st 1).toInt ≤ y2.toInt ∧ r18.toInt = 0)) (c19 : ¬ r18.toInt = (39)) (ex33 : x33 = y2 - k0) (tx33 : x33.toInt = y2.toInt - k0.toInt) (c34 : (8) < x33.toInt) (hr35 : (y2.toInt < (st 1).toInt ∧ r35.toInt = ((ar 2) y2.toNatClampNeg).toInt) ∨ ((st 1).toInt ≤ y2.toInt ∧ r35.toInt = 0)) (c36 : ¬ r35.toInt = (39)) (hr45 : ((st 8).toInt = 0 → n46 = (1 : Int32)) ∧ (¬ (st 8).toInt = 0 → n46 = (st 8))) : k0.toInt < (st 1).toInt ∧ (st 1).toInt ≤ (st 1).toInt ∧ 0 ≤ (st 3).toInt ∧ (st 3).toInt ≤ (st 1).toInt ∧ TKok (ar 4) (lo 6) (ar 7) (st 3).toInt := by
  have q1 : (1 : Int32).toInt = 1 := by decide +kernel
  have hz := hpre.2.2.2.2.2
  and_intros <;> first | omega | exact hz | exact tk_add hz (by omega) (clampZ (by omega)) (by omega) (by omega) (by omega)
theorem v_quoted_29 (st : Nat → Int32) (ar : Nat → Nat → Int32) (lo : Nat → Nat → Int64) (re : Nat → UInt64) (k0 : Int32) (x1 : Int32) (y2 : Int32) (y3 : Int64) (r18 : Int32) (x33 : Int32) (hpre : 0 ≤ (st 1).toInt ∧ (st 1).toInt ≤ 40 ∧ 0 ≤ (st 3).toInt ∧ (st 3).toInt ≤ k0.toInt ∧ k0.toInt < (st 1).toInt ∧ TKok (ar 4) (lo 6) (ar 7) (st 3).toInt) (ex1 : x1 = k0 + 1) (tx1 : x1.toInt = k0.toInt + (1)) (hi6 : k0.toInt < y2.toInt ∧ y2.toInt ≤ (st 1).toInt) (c4 : y2.toInt < (st 1).toInt) (hr18 : (y2.toInt < (st 1).toInt ∧ r18.toInt = ((ar 2) y2.toNatClampNeg).toInt) ∨ ((st 1).toInt ≤ y2.toInt ∧ r18.toInt = 0)) (c19 : ¬ r18.toInt = (39)) (ex33 : x33 = y2 - k0) (tx33 : x33.toInt = y2.toInt - k0.toInt) (c34 : x33.toInt ≤ (8)) : 0 ≤ (st 1).toInt ∧ (st 1).toInt ≤ 40 ∧ 0 ≤ y2.toInt := by
  first | trivial | omega | (simp; done) | (simp; omega) | (simp_all; done) | (simp_all; omega)
theorem v_quoted_30 (st : Nat → Int32) (ar : Nat → Nat → Int32) (lo : Nat → Nat → Int64) (re : Nat → UInt64) (k0 : Int32) (x1 : Int32) (y2 : Int32) (y3 : Int64) (r18 : Int32) (x33 : Int32) (r48 : Int32) (x49 : Int64) (x50 : Int32) (hpre : 0 ≤ (st 1).toInt ∧ (st 1).toInt ≤ 40 ∧ 0 ≤ (st 3).toInt ∧ (st 3).toInt ≤ k0.toInt ∧ k0.toInt < (st 1).toInt ∧ TKok (ar 4) (lo 6) (ar 7) (st 3).toInt) (ex1 : x1 = k0 + 1) (tx1 : x1.toInt = k0.toInt + (1)) (hi6 : k0.toInt < y2.toInt ∧ y2.toInt ≤ (st 1).toInt) (c4 : y2.toInt < (st 1).toInt) (hr18 : (y2.toInt < (st 1).toInt ∧ r18.toInt = ((ar 2) y2.toNatClampNeg).toInt) ∨ ((st 1).toInt ≤ y2.toInt ∧ r18.toInt = 0)) (c19 : ¬ r18.toInt = (39)) (ex33 : x33 = y2 - k0) (tx33 : x33.toInt = y2.toInt - k0.toInt) (c34 : x33.toInt ≤ (8)) (hr48 : (y2.toInt < (st 1).toInt ∧ r48.toInt = ((ar 2) y2.toNatClampNeg).toInt) ∨ ((st 1).toInt ≤ y2.toInt ∧ r48.toInt = 0)) (ex49 : x49 = Int32.toInt64 r48) (tx49 : x49.toInt = r48.toInt) (ex50 : x50 = y2 - k0) : x50.toInt = y2.toInt - k0.toInt := by
  rw [ex50, z_sub (by omega) (by omega)]; first | done | omega
theorem v_quoted_31 (st : Nat → Int32) (ar : Nat → Nat → Int32) (lo : Nat → Nat → Int64) (re : Nat → UInt64) (k0 : Int32) (x1 : Int32) (y2 : Int32) (y3 : Int64) (r18 : Int32) (x33 : Int32) (r48 : Int32) (x49 : Int64) (x50 : Int32) (x51 : Int32) (hpre : 0 ≤ (st 1).toInt ∧ (st 1).toInt ≤ 40 ∧ 0 ≤ (st 3).toInt ∧ (st 3).toInt ≤ k0.toInt ∧ k0.toInt < (st 1).toInt ∧ TKok (ar 4) (lo 6) (ar 7) (st 3).toInt) (ex1 : x1 = k0 + 1) (tx1 : x1.toInt = k0.toInt + (1)) (hi6 : k0.toInt < y2.toInt ∧ y2.toInt ≤ (st 1).toInt) (c4 : y2.toInt < (st 1).toInt) (hr18 : (y2.toInt < (st 1).toInt ∧ r18.toInt = ((ar 2) y2.toNatClampNeg).toInt) ∨ ((st 1).toInt ≤ y2.toInt ∧ r18.toInt = 0)) (c19 : ¬ r18.toInt = (39)) (ex33 : x33 = y2 - k0) (tx33 : x33.toInt = y2.toInt - k0.toInt) (c34 : x33.toInt ≤ (8)) (hr48 : (y2.toInt < (st 1).toInt ∧ r48.toInt = ((ar 2) y2.toNatClampNeg).toInt) ∨ ((st 1).toInt ≤ y2.toInt ∧ r48.toInt = 0)) (ex49 : x49 = Int32.toInt64 r48) (tx49 : x49.toInt = r48.toInt) (ex50 : x50 = y2 - k0) (tx50 : x50.toInt = y2.toInt - k0.toInt) (ex51 : x51 = x50 - 1) : x51.toInt = x50.toInt - (1) := by
  have z1 : (1 : Int32).toInt = 1 := by decide +kernel
  rw [ex51, z_sub (by omega) (by omega)]; first | done | omega
theorem v_quoted_32 (st : Nat → Int32) (ar : Nat → Nat → Int32) (lo : Nat → Nat → Int64) (re : Nat → UInt64) (k0 : Int32) (x1 : Int32) (y2 : Int32) (y3 : Int64) (r18 : Int32) (x33 : Int32) (r48 : Int32) (x49 : Int64) (x50 : Int32) (x51 : Int32) (x52 : Int32) (hpre : 0 ≤ (st 1).toInt ∧ (st 1).toInt ≤ 40 ∧ 0 ≤ (st 3).toInt ∧ (st 3).toInt ≤ k0.toInt ∧ k0.toInt < (st 1).toInt ∧ TKok (ar 4) (lo 6) (ar 7) (st 3).toInt) (ex1 : x1 = k0 + 1) (tx1 : x1.toInt = k0.toInt + (1)) (hi6 : k0.toInt < y2.toInt ∧ y2.toInt ≤ (st 1).toInt) (c4 : y2.toInt < (st 1).toInt) (hr18 : (y2.toInt < (st 1).toInt ∧ r18.toInt = ((ar 2) y2.toNatClampNeg).toInt) ∨ ((st 1).toInt ≤ y2.toInt ∧ r18.toInt = 0)) (c19 : ¬ r18.toInt = (39)) (ex33 : x33 = y2 - k0) (tx33 : x33.toInt = y2.toInt - k0.toInt) (c34 : x33.toInt ≤ (8)) (hr48 : (y2.toInt < (st 1).toInt ∧ r48.toInt = ((ar 2) y2.toNatClampNeg).toInt) ∨ ((st 1).toInt ≤ y2.toInt ∧ r48.toInt = 0)) (ex49 : x49 = Int32.toInt64 r48) (tx49 : x49.toInt = r48.toInt) (ex50 : x50 = y2 - k0) (tx50 : x50.toInt = y2.toInt - k0.toInt) (ex51 : x51 = x50 - 1) (tx51 : x51.toInt = x50.toInt - (1)) (ex52 : x52 = 7 * x51) : x52.toInt = 7 * x51.toInt := by
  rw [ex52]; exact z_mulc (7) (by decide +kernel) (by omega) (by omega)
theorem v_quoted_33 (st : Nat → Int32) (ar : Nat → Nat → Int32) (lo : Nat → Nat → Int64) (re : Nat → UInt64) (k0 : Int32) (x1 : Int32) (y2 : Int32) (y3 : Int64) (r18 : Int32) (x33 : Int32) (r48 : Int32) (x49 : Int64) (x50 : Int32) (x51 : Int32) (x52 : Int32) (x53 : Int64) (x54 : Int64) (x55 : Int32) (hpre : 0 ≤ (st 1).toInt ∧ (st 1).toInt ≤ 40 ∧ 0 ≤ (st 3).toInt ∧ (st 3).toInt ≤ k0.toInt ∧ k0.toInt < (st 1).toInt ∧ TKok (ar 4) (lo 6) (ar 7) (st 3).toInt) (ex1 : x1 = k0 + 1) (tx1 : x1.toInt = k0.toInt + (1)) (hi6 : k0.toInt < y2.toInt ∧ y2.toInt ≤ (st 1).toInt) (c4 : y2.toInt < (st 1).toInt) (hr18 : (y2.toInt < (st 1).toInt ∧ r18.toInt = ((ar 2) y2.toNatClampNeg).toInt) ∨ ((st 1).toInt ≤ y2.toInt ∧ r18.toInt = 0)) (c19 : ¬ r18.toInt = (39)) (ex33 : x33 = y2 - k0) (tx33 : x33.toInt = y2.toInt - k0.toInt) (c34 : x33.toInt ≤ (8)) (hr48 : (y2.toInt < (st 1).toInt ∧ r48.toInt = ((ar 2) y2.toNatClampNeg).toInt) ∨ ((st 1).toInt ≤ y2.toInt ∧ r48.toInt = 0)) (ex49 : x49 = Int32.toInt64 r48) (tx49 : x49.toInt = r48.toInt) (ex50 : x50 = y2 - k0) (tx50 : x50.toInt = y2.toInt - k0.toInt) (ex51 : x51 = x50 - 1) (tx51 : x51.toInt = x50.toInt - (1)) (ex52 : x52 = 7 * x51) (tx52 : x52.toInt = 7 * x51.toInt) (ex53 : x53 = x49 <<< (Int32.toInt64 x52 &&& 63)) (ex54 : x54 = y3 ||| x53) (ex55 : x55 = y2 + 1) : x55.toInt = y2.toInt + (1) := by
  have z9 : (1 : Int32).toInt = 1 := by decide +kernel
  rw [ex55, z_add (by omega) (by omega)]; first | done | omega
theorem v_quoted_34 (st : Nat → Int32) (ar : Nat → Nat → Int32) (lo : Nat → Nat → Int64) (re : Nat → UInt64) (k0 : Int32) (x1 : Int32) (y2 : Int32) (y3 : Int64) (r18 : Int32) (x33 : Int32) (r48 : Int32) (x49 : Int64) (x50 : Int32) (x51 : Int32) (x52 : Int32) (x53 : Int64) (x54 : Int64) (x55 : Int32) (hpre : 0 ≤ (st 1).toInt ∧ (st 1).toInt ≤ 40 ∧ 0 ≤ (st 3).toInt ∧ (st 3).toInt ≤ k0.toInt ∧ k0.toInt < (st 1).toInt ∧ TKok (ar 4) (lo 6) (ar 7) (st 3).toInt) (ex1 : x1 = k0 + 1) (tx1 : x1.toInt = k0.toInt + (1)) (hi6 : k0.toInt < y2.toInt ∧ y2.toInt ≤ (st 1).toInt) (c4 : y2.toInt < (st 1).toInt) (hr18 : (y2.toInt < (st 1).toInt ∧ r18.toInt = ((ar 2) y2.toNatClampNeg).toInt) ∨ ((st 1).toInt ≤ y2.toInt ∧ r18.toInt = 0)) (c19 : ¬ r18.toInt = (39)) (ex33 : x33 = y2 - k0) (tx33 : x33.toInt = y2.toInt - k0.toInt) (c34 : x33.toInt ≤ (8)) (hr48 : (y2.toInt < (st 1).toInt ∧ r48.toInt = ((ar 2) y2.toNatClampNeg).toInt) ∨ ((st 1).toInt ≤ y2.toInt ∧ r48.toInt = 0)) (ex49 : x49 = Int32.toInt64 r48) (tx49 : x49.toInt = r48.toInt) (ex50 : x50 = y2 - k0) (tx50 : x50.toInt = y2.toInt - k0.toInt) (ex51 : x51 = x50 - 1) (tx51 : x51.toInt = x50.toInt - (1)) (ex52 : x52 = 7 * x51) (tx52 : x52.toInt = 7 * x51.toInt) (ex53 : x53 = x49 <<< (Int32.toInt64 x52 &&& 63)) (ex54 : x54 = y3 ||| x53) (ex55 : x55 = y2 + 1) (tx55 : x55.toInt = y2.toInt + (1)) : k0.toInt < x55.toInt ∧ x55.toInt ≤ (st 1).toInt := by
  first | trivial | omega | (simp; done) | (simp; omega) | (simp_all; done) | (simp_all; omega)
theorem v_quoted_35 (st : Nat → Int32) (ar : Nat → Nat → Int32) (lo : Nat → Nat → Int64) (re : Nat → UInt64) (k0 : Int32) (x1 : Int32) (y2 : Int32) (y3 : Int64) (r18 : Int32) (x33 : Int32) (r48 : Int32) (x49 : Int64) (x50 : Int32) (x51 : Int32) (x52 : Int32) (x53 : Int64) (x54 : Int64) (x55 : Int32) (hpre : 0 ≤ (st 1).toInt ∧ (st 1).toInt ≤ 40 ∧ 0 ≤ (st 3).toInt ∧ (st 3).toInt ≤ k0.toInt ∧ k0.toInt < (st 1).toInt ∧ TKok (ar 4) (lo 6) (ar 7) (st 3).toInt) (ex1 : x1 = k0 + 1) (tx1 : x1.toInt = k0.toInt + (1)) (hi6 : k0.toInt < y2.toInt ∧ y2.toInt ≤ (st 1).toInt) (c4 : y2.toInt < (st 1).toInt) (hr18 : (y2.toInt < (st 1).toInt ∧ r18.toInt = ((ar 2) y2.toNatClampNeg).toInt) ∨ ((st 1).toInt ≤ y2.toInt ∧ r18.toInt = 0)) (c19 : ¬ r18.toInt = (39)) (ex33 : x33 = y2 - k0) (tx33 : x33.toInt = y2.toInt - k0.toInt) (c34 : x33.toInt ≤ (8)) (hr48 : (y2.toInt < (st 1).toInt ∧ r48.toInt = ((ar 2) y2.toNatClampNeg).toInt) ∨ ((st 1).toInt ≤ y2.toInt ∧ r48.toInt = 0)) (ex49 : x49 = Int32.toInt64 r48) (tx49 : x49.toInt = r48.toInt) (ex50 : x50 = y2 - k0) (tx50 : x50.toInt = y2.toInt - k0.toInt) (ex51 : x51 = x50 - 1) (tx51 : x51.toInt = x50.toInt - (1)) (ex52 : x52 = 7 * x51) (tx52 : x52.toInt = 7 * x51.toInt) (ex53 : x53 = x49 <<< (Int32.toInt64 x52 &&& 63)) (ex54 : x54 = y3 ||| x53) (ex55 : x55 = y2 + 1) (tx55 : x55.toInt = y2.toInt + (1)) : ((st 1).toInt - x55.toInt).toNat < ((st 1).toInt - y2.toInt).toNat := by
  first | trivial | omega | (simp; done) | (simp; omega) | (simp_all; done) | (simp_all; omega)
theorem v_single_1 (st : Nat → Int32) (ar : Nat → Nat → Int32) (lo : Nat → Nat → Int64) (re : Nat → UInt64) (k0 : Int32) (hpre : True) (c1 : k0.toInt = (43)) : (1 : Int32).toInt = 0 ∨ (1 : Int32).toInt = 1 := by
  have q1 : (1 : Int32).toInt = 1 := by decide +kernel
  first | trivial | omega | (simp; done) | (simp; omega) | (simp_all; done) | (simp_all; omega)
theorem v_single_2 (st : Nat → Int32) (ar : Nat → Nat → Int32) (lo : Nat → Nat → Int64) (re : Nat → UInt64) (k0 : Int32) (hpre : True) (c1 : ¬ k0.toInt = (43)) (c2 : k0.toInt = (45)) : (1 : Int32).toInt = 0 ∨ (1 : Int32).toInt = 1 := by
  have q1 : (1 : Int32).toInt = 1 := by decide +kernel
  first | trivial | omega | (simp; done) | (simp; omega) | (simp_all; done) | (simp_all; omega)
theorem v_single_3 (st : Nat → Int32) (ar : Nat → Nat → Int32) (lo : Nat → Nat → Int64) (re : Nat → UInt64) (k0 : Int32) (hpre : True) (c1 : ¬ k0.toInt = (43)) (c2 : ¬ k0.toInt = (45)) (c3 : k0.toInt = (42)) : (1 : Int32).toInt = 0 ∨ (1 : Int32).toInt = 1 := by
  have q1 : (1 : Int32).toInt = 1 := by decide +kernel
  first | trivial | omega | (simp; done) | (simp; omega) | (simp_all; done) | (simp_all; omega)
theorem v_single_4 (st : Nat → Int32) (ar : Nat → Nat → Int32) (lo : Nat → Nat → Int64) (re : Nat → UInt64) (k0 : Int32) (hpre : True) (c1 : ¬ k0.toInt = (43)) (c2 : ¬ k0.toInt = (45)) (c3 : ¬ k0.toInt = (42)) (c4 : k0.toInt = (47)) : (1 : Int32).toInt = 0 ∨ (1 : Int32).toInt = 1 := by
  have q1 : (1 : Int32).toInt = 1 := by decide +kernel
  first | trivial | omega | (simp; done) | (simp; omega) | (simp_all; done) | (simp_all; omega)
theorem v_single_5 (st : Nat → Int32) (ar : Nat → Nat → Int32) (lo : Nat → Nat → Int64) (re : Nat → UInt64) (k0 : Int32) (hpre : True) (c1 : ¬ k0.toInt = (43)) (c2 : ¬ k0.toInt = (45)) (c3 : ¬ k0.toInt = (42)) (c4 : ¬ k0.toInt = (47)) (c5 : k0.toInt = (37)) : (1 : Int32).toInt = 0 ∨ (1 : Int32).toInt = 1 := by
  have q1 : (1 : Int32).toInt = 1 := by decide +kernel
  first | trivial | omega | (simp; done) | (simp; omega) | (simp_all; done) | (simp_all; omega)
theorem v_single_6 (st : Nat → Int32) (ar : Nat → Nat → Int32) (lo : Nat → Nat → Int64) (re : Nat → UInt64) (k0 : Int32) (hpre : True) (c1 : ¬ k0.toInt = (43)) (c2 : ¬ k0.toInt = (45)) (c3 : ¬ k0.toInt = (42)) (c4 : ¬ k0.toInt = (47)) (c5 : ¬ k0.toInt = (37)) (c6 : k0.toInt = (60)) : (1 : Int32).toInt = 0 ∨ (1 : Int32).toInt = 1 := by
  have q1 : (1 : Int32).toInt = 1 := by decide +kernel
  first | trivial | omega | (simp; done) | (simp; omega) | (simp_all; done) | (simp_all; omega)
theorem v_single_7 (st : Nat → Int32) (ar : Nat → Nat → Int32) (lo : Nat → Nat → Int64) (re : Nat → UInt64) (k0 : Int32) (hpre : True) (c1 : ¬ k0.toInt = (43)) (c2 : ¬ k0.toInt = (45)) (c3 : ¬ k0.toInt = (42)) (c4 : ¬ k0.toInt = (47)) (c5 : ¬ k0.toInt = (37)) (c6 : ¬ k0.toInt = (60)) (c7 : k0.toInt = (62)) : (1 : Int32).toInt = 0 ∨ (1 : Int32).toInt = 1 := by
  have q1 : (1 : Int32).toInt = 1 := by decide +kernel
  first | trivial | omega | (simp; done) | (simp; omega) | (simp_all; done) | (simp_all; omega)
theorem v_single_8 (st : Nat → Int32) (ar : Nat → Nat → Int32) (lo : Nat → Nat → Int64) (re : Nat → UInt64) (k0 : Int32) (hpre : True) (c1 : ¬ k0.toInt = (43)) (c2 : ¬ k0.toInt = (45)) (c3 : ¬ k0.toInt = (42)) (c4 : ¬ k0.toInt = (47)) (c5 : ¬ k0.toInt = (37)) (c6 : ¬ k0.toInt = (60)) (c7 : ¬ k0.toInt = (62)) (c8 : k0.toInt = (33)) : (1 : Int32).toInt = 0 ∨ (1 : Int32).toInt = 1 := by
  have q1 : (1 : Int32).toInt = 1 := by decide +kernel
  first | trivial | omega | (simp; done) | (simp; omega) | (simp_all; done) | (simp_all; omega)
theorem v_single_9 (st : Nat → Int32) (ar : Nat → Nat → Int32) (lo : Nat → Nat → Int64) (re : Nat → UInt64) (k0 : Int32) (hpre : True) (c1 : ¬ k0.toInt = (43)) (c2 : ¬ k0.toInt = (45)) (c3 : ¬ k0.toInt = (42)) (c4 : ¬ k0.toInt = (47)) (c5 : ¬ k0.toInt = (37)) (c6 : ¬ k0.toInt = (60)) (c7 : ¬ k0.toInt = (62)) (c8 : ¬ k0.toInt = (33)) (c9 : k0.toInt = (63)) : (1 : Int32).toInt = 0 ∨ (1 : Int32).toInt = 1 := by
  have q1 : (1 : Int32).toInt = 1 := by decide +kernel
  first | trivial | omega | (simp; done) | (simp; omega) | (simp_all; done) | (simp_all; omega)
theorem v_single_10 (st : Nat → Int32) (ar : Nat → Nat → Int32) (lo : Nat → Nat → Int64) (re : Nat → UInt64) (k0 : Int32) (hpre : True) (c1 : ¬ k0.toInt = (43)) (c2 : ¬ k0.toInt = (45)) (c3 : ¬ k0.toInt = (42)) (c4 : ¬ k0.toInt = (47)) (c5 : ¬ k0.toInt = (37)) (c6 : ¬ k0.toInt = (60)) (c7 : ¬ k0.toInt = (62)) (c8 : ¬ k0.toInt = (33)) (c9 : ¬ k0.toInt = (63)) (c10 : k0.toInt = (58)) : (1 : Int32).toInt = 0 ∨ (1 : Int32).toInt = 1 := by
  have q1 : (1 : Int32).toInt = 1 := by decide +kernel
  first | trivial | omega | (simp; done) | (simp; omega) | (simp_all; done) | (simp_all; omega)
theorem v_single_11 (st : Nat → Int32) (ar : Nat → Nat → Int32) (lo : Nat → Nat → Int64) (re : Nat → UInt64) (k0 : Int32) (hpre : True) (c1 : ¬ k0.toInt = (43)) (c2 : ¬ k0.toInt = (45)) (c3 : ¬ k0.toInt = (42)) (c4 : ¬ k0.toInt = (47)) (c5 : ¬ k0.toInt = (37)) (c6 : ¬ k0.toInt = (60)) (c7 : ¬ k0.toInt = (62)) (c8 : ¬ k0.toInt = (33)) (c9 : ¬ k0.toInt = (63)) (c10 : ¬ k0.toInt = (58)) (c11 : k0.toInt = (46)) : (1 : Int32).toInt = 0 ∨ (1 : Int32).toInt = 1 := by
  have q1 : (1 : Int32).toInt = 1 := by decide +kernel
  first | trivial | omega | (simp; done) | (simp; omega) | (simp_all; done) | (simp_all; omega)
theorem v_single_12 (st : Nat → Int32) (ar : Nat → Nat → Int32) (lo : Nat → Nat → Int64) (re : Nat → UInt64) (k0 : Int32) (hpre : True) (c1 : ¬ k0.toInt = (43)) (c2 : ¬ k0.toInt = (45)) (c3 : ¬ k0.toInt = (42)) (c4 : ¬ k0.toInt = (47)) (c5 : ¬ k0.toInt = (37)) (c6 : ¬ k0.toInt = (60)) (c7 : ¬ k0.toInt = (62)) (c8 : ¬ k0.toInt = (33)) (c9 : ¬ k0.toInt = (63)) (c10 : ¬ k0.toInt = (58)) (c11 : ¬ k0.toInt = (46)) (c12 : k0.toInt = (40)) : (1 : Int32).toInt = 0 ∨ (1 : Int32).toInt = 1 := by
  have q1 : (1 : Int32).toInt = 1 := by decide +kernel
  first | trivial | omega | (simp; done) | (simp; omega) | (simp_all; done) | (simp_all; omega)
theorem v_single_13 (st : Nat → Int32) (ar : Nat → Nat → Int32) (lo : Nat → Nat → Int64) (re : Nat → UInt64) (k0 : Int32) (hpre : True) (c1 : ¬ k0.toInt = (43)) (c2 : ¬ k0.toInt = (45)) (c3 : ¬ k0.toInt = (42)) (c4 : ¬ k0.toInt = (47)) (c5 : ¬ k0.toInt = (37)) (c6 : ¬ k0.toInt = (60)) (c7 : ¬ k0.toInt = (62)) (c8 : ¬ k0.toInt = (33)) (c9 : ¬ k0.toInt = (63)) (c10 : ¬ k0.toInt = (58)) (c11 : ¬ k0.toInt = (46)) (c12 : ¬ k0.toInt = (40)) (c13 : k0.toInt = (41)) : (1 : Int32).toInt = 0 ∨ (1 : Int32).toInt = 1 := by
  have q1 : (1 : Int32).toInt = 1 := by decide +kernel
  first | trivial | omega | (simp; done) | (simp; omega) | (simp_all; done) | (simp_all; omega)
theorem v_single_14 (st : Nat → Int32) (ar : Nat → Nat → Int32) (lo : Nat → Nat → Int64) (re : Nat → UInt64) (k0 : Int32) (hpre : True) (c1 : ¬ k0.toInt = (43)) (c2 : ¬ k0.toInt = (45)) (c3 : ¬ k0.toInt = (42)) (c4 : ¬ k0.toInt = (47)) (c5 : ¬ k0.toInt = (37)) (c6 : ¬ k0.toInt = (60)) (c7 : ¬ k0.toInt = (62)) (c8 : ¬ k0.toInt = (33)) (c9 : ¬ k0.toInt = (63)) (c10 : ¬ k0.toInt = (58)) (c11 : ¬ k0.toInt = (46)) (c12 : ¬ k0.toInt = (40)) (c13 : ¬ k0.toInt = (41)) (c14 : k0.toInt = (44)) : (1 : Int32).toInt = 0 ∨ (1 : Int32).toInt = 1 := by
  have q1 : (1 : Int32).toInt = 1 := by decide +kernel
  first | trivial | omega | (simp; done) | (simp; omega) | (simp_all; done) | (simp_all; omega)
theorem v_single_15 (st : Nat → Int32) (ar : Nat → Nat → Int32) (lo : Nat → Nat → Int64) (re : Nat → UInt64) (k0 : Int32) (hpre : True) (c1 : ¬ k0.toInt = (43)) (c2 : ¬ k0.toInt = (45)) (c3 : ¬ k0.toInt = (42)) (c4 : ¬ k0.toInt = (47)) (c5 : ¬ k0.toInt = (37)) (c6 : ¬ k0.toInt = (60)) (c7 : ¬ k0.toInt = (62)) (c8 : ¬ k0.toInt = (33)) (c9 : ¬ k0.toInt = (63)) (c10 : ¬ k0.toInt = (58)) (c11 : ¬ k0.toInt = (46)) (c12 : ¬ k0.toInt = (40)) (c13 : ¬ k0.toInt = (41)) (c14 : ¬ k0.toInt = (44)) (c15 : k0.toInt = (35)) : (1 : Int32).toInt = 0 ∨ (1 : Int32).toInt = 1 := by
  have q1 : (1 : Int32).toInt = 1 := by decide +kernel
  first | trivial | omega | (simp; done) | (simp; omega) | (simp_all; done) | (simp_all; omega)
theorem v_single_16 (st : Nat → Int32) (ar : Nat → Nat → Int32) (lo : Nat → Nat → Int64) (re : Nat → UInt64) (k0 : Int32) (hpre : True) (c1 : ¬ k0.toInt = (43)) (c2 : ¬ k0.toInt = (45)) (c3 : ¬ k0.toInt = (42)) (c4 : ¬ k0.toInt = (47)) (c5 : ¬ k0.toInt = (37)) (c6 : ¬ k0.toInt = (60)) (c7 : ¬ k0.toInt = (62)) (c8 : ¬ k0.toInt = (33)) (c9 : ¬ k0.toInt = (63)) (c10 : ¬ k0.toInt = (58)) (c11 : ¬ k0.toInt = (46)) (c12 : ¬ k0.toInt = (40)) (c13 : ¬ k0.toInt = (41)) (c14 : ¬ k0.toInt = (44)) (c15 : ¬ k0.toInt = (35)) (c16 : ¬ k0.toInt = (61)) : (0 : Int32).toInt = 0 ∨ (0 : Int32).toInt = 1 := by
  have q0 : (0 : Int32).toInt = 0 := by decide +kernel
  first | trivial | omega | (simp; done) | (simp; omega) | (simp_all; done) | (simp_all; omega)
theorem v_single_17 (st : Nat → Int32) (ar : Nat → Nat → Int32) (lo : Nat → Nat → Int64) (re : Nat → UInt64) (k0 : Int32) (hpre : True) (c1 : ¬ k0.toInt = (43)) (c2 : ¬ k0.toInt = (45)) (c3 : ¬ k0.toInt = (42)) (c4 : ¬ k0.toInt = (47)) (c5 : ¬ k0.toInt = (37)) (c6 : ¬ k0.toInt = (60)) (c7 : ¬ k0.toInt = (62)) (c8 : ¬ k0.toInt = (33)) (c9 : ¬ k0.toInt = (63)) (c10 : ¬ k0.toInt = (58)) (c11 : ¬ k0.toInt = (46)) (c12 : ¬ k0.toInt = (40)) (c13 : ¬ k0.toInt = (41)) (c14 : ¬ k0.toInt = (44)) (c15 : ¬ k0.toInt = (35)) (c16 : k0.toInt = (61)) : (1 : Int32).toInt = 0 ∨ (1 : Int32).toInt = 1 := by
  have q1 : (1 : Int32).toInt = 1 := by decide +kernel
  first | trivial | omega | (simp; done) | (simp; omega) | (simp_all; done) | (simp_all; omega)
theorem v_twice_1 (st : Nat → Int32) (ar : Nat → Nat → Int32) (lo : Nat → Nat → Int64) (re : Nat → UInt64) (k0 : Int32) (k1 : Int32) (hpre : True) (c1 : ¬ k1.toInt = (61)) (c2 : ¬ k0.toInt = (38)) (c3 : ¬ k0.toInt = (124)) (c4 : ¬ k0.toInt = (63)) : (0 : Int32).toInt = 0 ∨ ((0 : Int32).toInt = 1 ∧ ¬ k1.toInt = 0) := by
  have q0 : (0 : Int32).toInt = 0 := by decide +kernel
  first | trivial | omega | (simp; done) | (simp; omega) | (simp_all; done) | (simp_all; omega)
theorem v_twice_2 (st : Nat → Int32) (ar : Nat → Nat → Int32) (lo : Nat → Nat → Int64) (re : Nat → UInt64) (k0 : Int32) (k1 : Int32) (hpre : True) (c1 : ¬ k1.toInt = (61)) (c2 : ¬ k0.toInt = (38)) (c3 : ¬ k0.toInt = (124)) (c4 : k0.toInt = (63)) (c5 : k1.toInt = (58)) : (1 : Int32).toInt = 0 ∨ ((1 : Int32).toInt = 1 ∧ ¬ k1.toInt = 0) := by
  have q1 : (1 : Int32).toInt = 1 := by decide +kernel
  first | trivial | omega | (simp; done) | (simp; omega) | (simp_all; done) | (simp_all; omega)
theorem v_twice_3 (st : Nat → Int32) (ar : Nat → Nat → Int32) (lo : Nat → Nat → Int64) (re : Nat → UInt64) (k0 : Int32) (k1 : Int32) (hpre : True) (c1 : ¬ k1.toInt = (61)) (c2 : ¬ k0.toInt = (38)) (c3 : ¬ k0.toInt = (124)) (c4 : k0.toInt = (63)) (c5 : ¬ k1.toInt = (58)) (c6 : ¬ k1.toInt = (46)) : (0 : Int32).toInt = 0 ∨ ((0 : Int32).toInt = 1 ∧ ¬ k1.toInt = 0) := by
  have q0 : (0 : Int32).toInt = 0 := by decide +kernel
  first | trivial | omega | (simp; done) | (simp; omega) | (simp_all; done) | (simp_all; omega)
theorem v_twice_4 (st : Nat → Int32) (ar : Nat → Nat → Int32) (lo : Nat → Nat → Int64) (re : Nat → UInt64) (k0 : Int32) (k1 : Int32) (hpre : True) (c1 : ¬ k1.toInt = (61)) (c2 : ¬ k0.toInt = (38)) (c3 : ¬ k0.toInt = (124)) (c4 : k0.toInt = (63)) (c5 : ¬ k1.toInt = (58)) (c6 : k1.toInt = (46)) : (1 : Int32).toInt = 0 ∨ ((1 : Int32).toInt = 1 ∧ ¬ k1.toInt = 0) := by
  have q1 : (1 : Int32).toInt = 1 := by decide +kernel
  first | trivial | omega | (simp; done) | (simp; omega) | (simp_all; done) | (simp_all; omega)
theorem v_twice_5 (st : Nat → Int32) (ar : Nat → Nat → Int32) (lo : Nat → Nat → Int64) (re : Nat → UInt64) (k0 : Int32) (k1 : Int32) (hpre : True) (c1 : ¬ k1.toInt = (61)) (c2 : ¬ k0.toInt = (38)) (c3 : k0.toInt = (124)) (c7 : k1.toInt = (124)) : (1 : Int32).toInt = 0 ∨ ((1 : Int32).toInt = 1 ∧ ¬ k1.toInt = 0) := by
  have q1 : (1 : Int32).toInt = 1 := by decide +kernel
  first | trivial | omega | (simp; done) | (simp; omega) | (simp_all; done) | (simp_all; omega)
theorem v_twice_6 (st : Nat → Int32) (ar : Nat → Nat → Int32) (lo : Nat → Nat → Int64) (re : Nat → UInt64) (k0 : Int32) (k1 : Int32) (hpre : True) (c1 : ¬ k1.toInt = (61)) (c2 : ¬ k0.toInt = (38)) (c3 : k0.toInt = (124)) (c7 : ¬ k1.toInt = (124)) (c8 : ¬ k0.toInt = (63)) : (0 : Int32).toInt = 0 ∨ ((0 : Int32).toInt = 1 ∧ ¬ k1.toInt = 0) := by
  have q0 : (0 : Int32).toInt = 0 := by decide +kernel
  first | trivial | omega | (simp; done) | (simp; omega) | (simp_all; done) | (simp_all; omega)
theorem v_twice_7 (st : Nat → Int32) (ar : Nat → Nat → Int32) (lo : Nat → Nat → Int64) (re : Nat → UInt64) (k0 : Int32) (k1 : Int32) (hpre : True) (c1 : ¬ k1.toInt = (61)) (c2 : ¬ k0.toInt = (38)) (c3 : k0.toInt = (124)) (c7 : ¬ k1.toInt = (124)) (c8 : k0.toInt = (63)) (c9 : k1.toInt = (58)) : (1 : Int32).toInt = 0 ∨ ((1 : Int32).toInt = 1 ∧ ¬ k1.toInt = 0) := by
  have q1 : (1 : Int32).toInt = 1 := by decide +kernel
  first | trivial | omega | (simp; done) | (simp; omega) | (simp_all; done) | (simp_all; omega)
theorem v_twice_8 (st : Nat → Int32) (ar : Nat → Nat → Int32) (lo : Nat → Nat → Int64) (re : Nat → UInt64) (k0 : Int32) (k1 : Int32) (hpre : True) (c1 : ¬ k1.toInt = (61)) (c2 : ¬ k0.toInt = (38)) (c3 : k0.toInt = (124)) (c7 : ¬ k1.toInt = (124)) (c8 : k0.toInt = (63)) (c9 : ¬ k1.toInt = (58)) (c10 : ¬ k1.toInt = (46)) : (0 : Int32).toInt = 0 ∨ ((0 : Int32).toInt = 1 ∧ ¬ k1.toInt = 0) := by
  have q0 : (0 : Int32).toInt = 0 := by decide +kernel
  first | trivial | omega | (simp; done) | (simp; omega) | (simp_all; done) | (simp_all; omega)
theorem v_twice_9 (st : Nat → Int32) (ar : Nat → Nat → Int32) (lo : Nat → Nat → Int64) (re : Nat → UInt64) (k0 : Int32) (k1 : Int32) (hpre : True) (c1 : ¬ k1.toInt = (61)) (c2 : ¬ k0.toInt = (38)) (c3 : k0.toInt = (124)) (c7 : ¬ k1.toInt = (124)) (c8 : k0.toInt = (63)) (c9 : ¬ k1.toInt = (58)) (c10 : k1.toInt = (46)) : (1 : Int32).toInt = 0 ∨ ((1 : Int32).toInt = 1 ∧ ¬ k1.toInt = 0) := by
  have q1 : (1 : Int32).toInt = 1 := by decide +kernel
  first | trivial | omega | (simp; done) | (simp; omega) | (simp_all; done) | (simp_all; omega)
theorem v_twice_10 (st : Nat → Int32) (ar : Nat → Nat → Int32) (lo : Nat → Nat → Int64) (re : Nat → UInt64) (k0 : Int32) (k1 : Int32) (hpre : True) (c1 : ¬ k1.toInt = (61)) (c2 : k0.toInt = (38)) (c11 : k1.toInt = (38)) : (1 : Int32).toInt = 0 ∨ ((1 : Int32).toInt = 1 ∧ ¬ k1.toInt = 0) := by
  have q1 : (1 : Int32).toInt = 1 := by decide +kernel
  first | trivial | omega | (simp; done) | (simp; omega) | (simp_all; done) | (simp_all; omega)
theorem v_twice_11 (st : Nat → Int32) (ar : Nat → Nat → Int32) (lo : Nat → Nat → Int64) (re : Nat → UInt64) (k0 : Int32) (k1 : Int32) (hpre : True) (c1 : ¬ k1.toInt = (61)) (c2 : k0.toInt = (38)) (c11 : ¬ k1.toInt = (38)) (c12 : ¬ k0.toInt = (124)) (c13 : ¬ k0.toInt = (63)) : (0 : Int32).toInt = 0 ∨ ((0 : Int32).toInt = 1 ∧ ¬ k1.toInt = 0) := by
  have q0 : (0 : Int32).toInt = 0 := by decide +kernel
  first | trivial | omega | (simp; done) | (simp; omega) | (simp_all; done) | (simp_all; omega)
theorem v_twice_12 (st : Nat → Int32) (ar : Nat → Nat → Int32) (lo : Nat → Nat → Int64) (re : Nat → UInt64) (k0 : Int32) (k1 : Int32) (hpre : True) (c1 : ¬ k1.toInt = (61)) (c2 : k0.toInt = (38)) (c11 : ¬ k1.toInt = (38)) (c12 : ¬ k0.toInt = (124)) (c13 : k0.toInt = (63)) (c14 : k1.toInt = (58)) : (1 : Int32).toInt = 0 ∨ ((1 : Int32).toInt = 1 ∧ ¬ k1.toInt = 0) := by
  have q1 : (1 : Int32).toInt = 1 := by decide +kernel
  first | trivial | omega | (simp; done) | (simp; omega) | (simp_all; done) | (simp_all; omega)
theorem v_twice_13 (st : Nat → Int32) (ar : Nat → Nat → Int32) (lo : Nat → Nat → Int64) (re : Nat → UInt64) (k0 : Int32) (k1 : Int32) (hpre : True) (c1 : ¬ k1.toInt = (61)) (c2 : k0.toInt = (38)) (c11 : ¬ k1.toInt = (38)) (c12 : ¬ k0.toInt = (124)) (c13 : k0.toInt = (63)) (c14 : ¬ k1.toInt = (58)) (c15 : ¬ k1.toInt = (46)) : (0 : Int32).toInt = 0 ∨ ((0 : Int32).toInt = 1 ∧ ¬ k1.toInt = 0) := by
  have q0 : (0 : Int32).toInt = 0 := by decide +kernel
  first | trivial | omega | (simp; done) | (simp; omega) | (simp_all; done) | (simp_all; omega)
theorem v_twice_14 (st : Nat → Int32) (ar : Nat → Nat → Int32) (lo : Nat → Nat → Int64) (re : Nat → UInt64) (k0 : Int32) (k1 : Int32) (hpre : True) (c1 : ¬ k1.toInt = (61)) (c2 : k0.toInt = (38)) (c11 : ¬ k1.toInt = (38)) (c12 : ¬ k0.toInt = (124)) (c13 : k0.toInt = (63)) (c14 : ¬ k1.toInt = (58)) (c15 : k1.toInt = (46)) : (1 : Int32).toInt = 0 ∨ ((1 : Int32).toInt = 1 ∧ ¬ k1.toInt = 0) := by
  have q1 : (1 : Int32).toInt = 1 := by decide +kernel
  first | trivial | omega | (simp; done) | (simp; omega) | (simp_all; done) | (simp_all; omega)
theorem v_twice_15 (st : Nat → Int32) (ar : Nat → Nat → Int32) (lo : Nat → Nat → Int64) (re : Nat → UInt64) (k0 : Int32) (k1 : Int32) (hpre : True) (c1 : ¬ k1.toInt = (61)) (c2 : k0.toInt = (38)) (c11 : ¬ k1.toInt = (38)) (c12 : k0.toInt = (124)) (c16 : k1.toInt = (124)) : (1 : Int32).toInt = 0 ∨ ((1 : Int32).toInt = 1 ∧ ¬ k1.toInt = 0) := by
  have q1 : (1 : Int32).toInt = 1 := by decide +kernel
  first | trivial | omega | (simp; done) | (simp; omega) | (simp_all; done) | (simp_all; omega)
theorem v_twice_16 (st : Nat → Int32) (ar : Nat → Nat → Int32) (lo : Nat → Nat → Int64) (re : Nat → UInt64) (k0 : Int32) (k1 : Int32) (hpre : True) (c1 : ¬ k1.toInt = (61)) (c2 : k0.toInt = (38)) (c11 : ¬ k1.toInt = (38)) (c12 : k0.toInt = (124)) (c16 : ¬ k1.toInt = (124)) (c17 : ¬ k0.toInt = (63)) : (0 : Int32).toInt = 0 ∨ ((0 : Int32).toInt = 1 ∧ ¬ k1.toInt = 0) := by
  have q0 : (0 : Int32).toInt = 0 := by decide +kernel
  first | trivial | omega | (simp; done) | (simp; omega) | (simp_all; done) | (simp_all; omega)
theorem v_twice_17 (st : Nat → Int32) (ar : Nat → Nat → Int32) (lo : Nat → Nat → Int64) (re : Nat → UInt64) (k0 : Int32) (k1 : Int32) (hpre : True) (c1 : ¬ k1.toInt = (61)) (c2 : k0.toInt = (38)) (c11 : ¬ k1.toInt = (38)) (c12 : k0.toInt = (124)) (c16 : ¬ k1.toInt = (124)) (c17 : k0.toInt = (63)) (c18 : k1.toInt = (58)) : (1 : Int32).toInt = 0 ∨ ((1 : Int32).toInt = 1 ∧ ¬ k1.toInt = 0) := by
  have q1 : (1 : Int32).toInt = 1 := by decide +kernel
  first | trivial | omega | (simp; done) | (simp; omega) | (simp_all; done) | (simp_all; omega)
theorem v_twice_18 (st : Nat → Int32) (ar : Nat → Nat → Int32) (lo : Nat → Nat → Int64) (re : Nat → UInt64) (k0 : Int32) (k1 : Int32) (hpre : True) (c1 : ¬ k1.toInt = (61)) (c2 : k0.toInt = (38)) (c11 : ¬ k1.toInt = (38)) (c12 : k0.toInt = (124)) (c16 : ¬ k1.toInt = (124)) (c17 : k0.toInt = (63)) (c18 : ¬ k1.toInt = (58)) (c19 : ¬ k1.toInt = (46)) : (0 : Int32).toInt = 0 ∨ ((0 : Int32).toInt = 1 ∧ ¬ k1.toInt = 0) := by
  have q0 : (0 : Int32).toInt = 0 := by decide +kernel
  first | trivial | omega | (simp; done) | (simp; omega) | (simp_all; done) | (simp_all; omega)
theorem v_twice_19 (st : Nat → Int32) (ar : Nat → Nat → Int32) (lo : Nat → Nat → Int64) (re : Nat → UInt64) (k0 : Int32) (k1 : Int32) (hpre : True) (c1 : ¬ k1.toInt = (61)) (c2 : k0.toInt = (38)) (c11 : ¬ k1.toInt = (38)) (c12 : k0.toInt = (124)) (c16 : ¬ k1.toInt = (124)) (c17 : k0.toInt = (63)) (c18 : ¬ k1.toInt = (58)) (c19 : k1.toInt = (46)) : (1 : Int32).toInt = 0 ∨ ((1 : Int32).toInt = 1 ∧ ¬ k1.toInt = 0) := by
  have q1 : (1 : Int32).toInt = 1 := by decide +kernel
  first | trivial | omega | (simp; done) | (simp; omega) | (simp_all; done) | (simp_all; omega)
theorem v_twice_20 (st : Nat → Int32) (ar : Nat → Nat → Int32) (lo : Nat → Nat → Int64) (re : Nat → UInt64) (k0 : Int32) (k1 : Int32) (hpre : True) (c1 : k1.toInt = (61)) (c20 : k0.toInt = (60)) : (1 : Int32).toInt = 0 ∨ ((1 : Int32).toInt = 1 ∧ ¬ k1.toInt = 0) := by
  have q1 : (1 : Int32).toInt = 1 := by decide +kernel
  first | trivial | omega | (simp; done) | (simp; omega) | (simp_all; done) | (simp_all; omega)
theorem v_twice_21 (st : Nat → Int32) (ar : Nat → Nat → Int32) (lo : Nat → Nat → Int64) (re : Nat → UInt64) (k0 : Int32) (k1 : Int32) (hpre : True) (c1 : k1.toInt = (61)) (c20 : ¬ k0.toInt = (60)) (c21 : k0.toInt = (62)) : (1 : Int32).toInt = 0 ∨ ((1 : Int32).toInt = 1 ∧ ¬ k1.toInt = 0) := by
  have q1 : (1 : Int32).toInt = 1 := by decide +kernel
  first | trivial | omega | (simp; done) | (simp; omega) | (simp_all; done) | (simp_all; omega)
theorem v_twice_22 (st : Nat → Int32) (ar : Nat → Nat → Int32) (lo : Nat → Nat → Int64) (re : Nat → UInt64) (k0 : Int32) (k1 : Int32) (hpre : True) (c1 : k1.toInt = (61)) (c20 : ¬ k0.toInt = (60)) (c21 : ¬ k0.toInt = (62)) (c22 : k0.toInt = (61)) : (1 : Int32).toInt = 0 ∨ ((1 : Int32).toInt = 1 ∧ ¬ k1.toInt = 0) := by
  have q1 : (1 : Int32).toInt = 1 := by decide +kernel
  first | trivial | omega | (simp; done) | (simp; omega) | (simp_all; done) | (simp_all; omega)
theorem v_twice_23 (st : Nat → Int32) (ar : Nat → Nat → Int32) (lo : Nat → Nat → Int64) (re : Nat → UInt64) (k0 : Int32) (k1 : Int32) (hpre : True) (c1 : k1.toInt = (61)) (c20 : ¬ k0.toInt = (60)) (c21 : ¬ k0.toInt = (62)) (c22 : ¬ k0.toInt = (61)) (c23 : k0.toInt = (33)) : (1 : Int32).toInt = 0 ∨ ((1 : Int32).toInt = 1 ∧ ¬ k1.toInt = 0) := by
  have q1 : (1 : Int32).toInt = 1 := by decide +kernel
  first | trivial | omega | (simp; done) | (simp; omega) | (simp_all; done) | (simp_all; omega)
theorem v_twice_24 (st : Nat → Int32) (ar : Nat → Nat → Int32) (lo : Nat → Nat → Int64) (re : Nat → UInt64) (k0 : Int32) (k1 : Int32) (hpre : True) (c1 : k1.toInt = (61)) (c20 : ¬ k0.toInt = (60)) (c21 : ¬ k0.toInt = (62)) (c22 : ¬ k0.toInt = (61)) (c23 : ¬ k0.toInt = (33)) (c24 : ¬ k0.toInt = (38)) (c25 : ¬ k0.toInt = (124)) (c26 : ¬ k0.toInt = (63)) : (0 : Int32).toInt = 0 ∨ ((0 : Int32).toInt = 1 ∧ ¬ k1.toInt = 0) := by
  have q0 : (0 : Int32).toInt = 0 := by decide +kernel
  first | trivial | omega | (simp; done) | (simp; omega) | (simp_all; done) | (simp_all; omega)
theorem v_twice_25 (st : Nat → Int32) (ar : Nat → Nat → Int32) (lo : Nat → Nat → Int64) (re : Nat → UInt64) (k0 : Int32) (k1 : Int32) (hpre : True) (c1 : k1.toInt = (61)) (c20 : ¬ k0.toInt = (60)) (c21 : ¬ k0.toInt = (62)) (c22 : ¬ k0.toInt = (61)) (c23 : ¬ k0.toInt = (33)) (c24 : ¬ k0.toInt = (38)) (c25 : ¬ k0.toInt = (124)) (c26 : k0.toInt = (63)) (c27 : k1.toInt = (58)) : (1 : Int32).toInt = 0 ∨ ((1 : Int32).toInt = 1 ∧ ¬ k1.toInt = 0) := by
  have q1 : (1 : Int32).toInt = 1 := by decide +kernel
  first | trivial | omega | (simp; done) | (simp; omega) | (simp_all; done) | (simp_all; omega)
theorem v_twice_26 (st : Nat → Int32) (ar : Nat → Nat → Int32) (lo : Nat → Nat → Int64) (re : Nat → UInt64) (k0 : Int32) (k1 : Int32) (hpre : True) (c1 : k1.toInt = (61)) (c20 : ¬ k0.toInt = (60)) (c21 : ¬ k0.toInt = (62)) (c22 : ¬ k0.toInt = (61)) (c23 : ¬ k0.toInt = (33)) (c24 : ¬ k0.toInt = (38)) (c25 : ¬ k0.toInt = (124)) (c26 : k0.toInt = (63)) (c27 : ¬ k1.toInt = (58)) (c28 : ¬ k1.toInt = (46)) : (0 : Int32).toInt = 0 ∨ ((0 : Int32).toInt = 1 ∧ ¬ k1.toInt = 0) := by
  have q0 : (0 : Int32).toInt = 0 := by decide +kernel
  first | trivial | omega | (simp; done) | (simp; omega) | (simp_all; done) | (simp_all; omega)
theorem v_twice_27 (st : Nat → Int32) (ar : Nat → Nat → Int32) (lo : Nat → Nat → Int64) (re : Nat → UInt64) (k0 : Int32) (k1 : Int32) (hpre : True) (c1 : k1.toInt = (61)) (c20 : ¬ k0.toInt = (60)) (c21 : ¬ k0.toInt = (62)) (c22 : ¬ k0.toInt = (61)) (c23 : ¬ k0.toInt = (33)) (c24 : ¬ k0.toInt = (38)) (c25 : ¬ k0.toInt = (124)) (c26 : k0.toInt = (63)) (c27 : ¬ k1.toInt = (58)) (c28 : k1.toInt = (46)) : (1 : Int32).toInt = 0 ∨ ((1 : Int32).toInt = 1 ∧ ¬ k1.toInt = 0) := by
  have q1 : (1 : Int32).toInt = 1 := by decide +kernel
  first | trivial | omega | (simp; done) | (simp; omega) | (simp_all; done) | (simp_all; omega)
theorem v_twice_28 (st : Nat → Int32) (ar : Nat → Nat → Int32) (lo : Nat → Nat → Int64) (re : Nat → UInt64) (k0 : Int32) (k1 : Int32) (hpre : True) (c1 : k1.toInt = (61)) (c20 : ¬ k0.toInt = (60)) (c21 : ¬ k0.toInt = (62)) (c22 : ¬ k0.toInt = (61)) (c23 : ¬ k0.toInt = (33)) (c24 : ¬ k0.toInt = (38)) (c25 : k0.toInt = (124)) (c29 : k1.toInt = (124)) : (1 : Int32).toInt = 0 ∨ ((1 : Int32).toInt = 1 ∧ ¬ k1.toInt = 0) := by
  have q1 : (1 : Int32).toInt = 1 := by decide +kernel
  first | trivial | omega | (simp; done) | (simp; omega) | (simp_all; done) | (simp_all; omega)
theorem v_twice_29 (st : Nat → Int32) (ar : Nat → Nat → Int32) (lo : Nat → Nat → Int64) (re : Nat → UInt64) (k0 : Int32) (k1 : Int32) (hpre : True) (c1 : k1.toInt = (61)) (c20 : ¬ k0.toInt = (60)) (c21 : ¬ k0.toInt = (62)) (c22 : ¬ k0.toInt = (61)) (c23 : ¬ k0.toInt = (33)) (c24 : ¬ k0.toInt = (38)) (c25 : k0.toInt = (124)) (c29 : ¬ k1.toInt = (124)) (c30 : ¬ k0.toInt = (63)) : (0 : Int32).toInt = 0 ∨ ((0 : Int32).toInt = 1 ∧ ¬ k1.toInt = 0) := by
  have q0 : (0 : Int32).toInt = 0 := by decide +kernel
  first | trivial | omega | (simp; done) | (simp; omega) | (simp_all; done) | (simp_all; omega)
theorem v_twice_30 (st : Nat → Int32) (ar : Nat → Nat → Int32) (lo : Nat → Nat → Int64) (re : Nat → UInt64) (k0 : Int32) (k1 : Int32) (hpre : True) (c1 : k1.toInt = (61)) (c20 : ¬ k0.toInt = (60)) (c21 : ¬ k0.toInt = (62)) (c22 : ¬ k0.toInt = (61)) (c23 : ¬ k0.toInt = (33)) (c24 : ¬ k0.toInt = (38)) (c25 : k0.toInt = (124)) (c29 : ¬ k1.toInt = (124)) (c30 : k0.toInt = (63)) (c31 : k1.toInt = (58)) : (1 : Int32).toInt = 0 ∨ ((1 : Int32).toInt = 1 ∧ ¬ k1.toInt = 0) := by
  have q1 : (1 : Int32).toInt = 1 := by decide +kernel
  first | trivial | omega | (simp; done) | (simp; omega) | (simp_all; done) | (simp_all; omega)
theorem v_twice_31 (st : Nat → Int32) (ar : Nat → Nat → Int32) (lo : Nat → Nat → Int64) (re : Nat → UInt64) (k0 : Int32) (k1 : Int32) (hpre : True) (c1 : k1.toInt = (61)) (c20 : ¬ k0.toInt = (60)) (c21 : ¬ k0.toInt = (62)) (c22 : ¬ k0.toInt = (61)) (c23 : ¬ k0.toInt = (33)) (c24 : ¬ k0.toInt = (38)) (c25 : k0.toInt = (124)) (c29 : ¬ k1.toInt = (124)) (c30 : k0.toInt = (63)) (c31 : ¬ k1.toInt = (58)) (c32 : ¬ k1.toInt = (46)) : (0 : Int32).toInt = 0 ∨ ((0 : Int32).toInt = 1 ∧ ¬ k1.toInt = 0) := by
  have q0 : (0 : Int32).toInt = 0 := by decide +kernel
  first | trivial | omega | (simp; done) | (simp; omega) | (simp_all; done) | (simp_all; omega)
theorem v_twice_32 (st : Nat → Int32) (ar : Nat → Nat → Int32) (lo : Nat → Nat → Int64) (re : Nat → UInt64) (k0 : Int32) (k1 : Int32) (hpre : True) (c1 : k1.toInt = (61)) (c20 : ¬ k0.toInt = (60)) (c21 : ¬ k0.toInt = (62)) (c22 : ¬ k0.toInt = (61)) (c23 : ¬ k0.toInt = (33)) (c24 : ¬ k0.toInt = (38)) (c25 : k0.toInt = (124)) (c29 : ¬ k1.toInt = (124)) (c30 : k0.toInt = (63)) (c31 : ¬ k1.toInt = (58)) (c32 : k1.toInt = (46)) : (1 : Int32).toInt = 0 ∨ ((1 : Int32).toInt = 1 ∧ ¬ k1.toInt = 0) := by
  have q1 : (1 : Int32).toInt = 1 := by decide +kernel
  first | trivial | omega | (simp; done) | (simp; omega) | (simp_all; done) | (simp_all; omega)
theorem v_twice_33 (st : Nat → Int32) (ar : Nat → Nat → Int32) (lo : Nat → Nat → Int64) (re : Nat → UInt64) (k0 : Int32) (k1 : Int32) (hpre : True) (c1 : k1.toInt = (61)) (c20 : ¬ k0.toInt = (60)) (c21 : ¬ k0.toInt = (62)) (c22 : ¬ k0.toInt = (61)) (c23 : ¬ k0.toInt = (33)) (c24 : k0.toInt = (38)) (c33 : k1.toInt = (38)) : (1 : Int32).toInt = 0 ∨ ((1 : Int32).toInt = 1 ∧ ¬ k1.toInt = 0) := by
  have q1 : (1 : Int32).toInt = 1 := by decide +kernel
  first | trivial | omega | (simp; done) | (simp; omega) | (simp_all; done) | (simp_all; omega)
theorem v_twice_34 (st : Nat → Int32) (ar : Nat → Nat → Int32) (lo : Nat → Nat → Int64) (re : Nat → UInt64) (k0 : Int32) (k1 : Int32) (hpre : True) (c1 : k1.toInt = (61)) (c20 : ¬ k0.toInt = (60)) (c21 : ¬ k0.toInt = (62)) (c22 : ¬ k0.toInt = (61)) (c23 : ¬ k0.toInt = (33)) (c24 : k0.toInt = (38)) (c33 : ¬ k1.toInt = (38)) (c34 : ¬ k0.toInt = (124)) (c35 : ¬ k0.toInt = (63)) : (0 : Int32).toInt = 0 ∨ ((0 : Int32).toInt = 1 ∧ ¬ k1.toInt = 0) := by
  have q0 : (0 : Int32).toInt = 0 := by decide +kernel
  first | trivial | omega | (simp; done) | (simp; omega) | (simp_all; done) | (simp_all; omega)
theorem v_twice_35 (st : Nat → Int32) (ar : Nat → Nat → Int32) (lo : Nat → Nat → Int64) (re : Nat → UInt64) (k0 : Int32) (k1 : Int32) (hpre : True) (c1 : k1.toInt = (61)) (c20 : ¬ k0.toInt = (60)) (c21 : ¬ k0.toInt = (62)) (c22 : ¬ k0.toInt = (61)) (c23 : ¬ k0.toInt = (33)) (c24 : k0.toInt = (38)) (c33 : ¬ k1.toInt = (38)) (c34 : ¬ k0.toInt = (124)) (c35 : k0.toInt = (63)) (c36 : k1.toInt = (58)) : (1 : Int32).toInt = 0 ∨ ((1 : Int32).toInt = 1 ∧ ¬ k1.toInt = 0) := by
  have q1 : (1 : Int32).toInt = 1 := by decide +kernel
  first | trivial | omega | (simp; done) | (simp; omega) | (simp_all; done) | (simp_all; omega)
theorem v_twice_36 (st : Nat → Int32) (ar : Nat → Nat → Int32) (lo : Nat → Nat → Int64) (re : Nat → UInt64) (k0 : Int32) (k1 : Int32) (hpre : True) (c1 : k1.toInt = (61)) (c20 : ¬ k0.toInt = (60)) (c21 : ¬ k0.toInt = (62)) (c22 : ¬ k0.toInt = (61)) (c23 : ¬ k0.toInt = (33)) (c24 : k0.toInt = (38)) (c33 : ¬ k1.toInt = (38)) (c34 : ¬ k0.toInt = (124)) (c35 : k0.toInt = (63)) (c36 : ¬ k1.toInt = (58)) (c37 : ¬ k1.toInt = (46)) : (0 : Int32).toInt = 0 ∨ ((0 : Int32).toInt = 1 ∧ ¬ k1.toInt = 0) := by
  have q0 : (0 : Int32).toInt = 0 := by decide +kernel
  first | trivial | omega | (simp; done) | (simp; omega) | (simp_all; done) | (simp_all; omega)
theorem v_twice_37 (st : Nat → Int32) (ar : Nat → Nat → Int32) (lo : Nat → Nat → Int64) (re : Nat → UInt64) (k0 : Int32) (k1 : Int32) (hpre : True) (c1 : k1.toInt = (61)) (c20 : ¬ k0.toInt = (60)) (c21 : ¬ k0.toInt = (62)) (c22 : ¬ k0.toInt = (61)) (c23 : ¬ k0.toInt = (33)) (c24 : k0.toInt = (38)) (c33 : ¬ k1.toInt = (38)) (c34 : ¬ k0.toInt = (124)) (c35 : k0.toInt = (63)) (c36 : ¬ k1.toInt = (58)) (c37 : k1.toInt = (46)) : (1 : Int32).toInt = 0 ∨ ((1 : Int32).toInt = 1 ∧ ¬ k1.toInt = 0) := by
  have q1 : (1 : Int32).toInt = 1 := by decide +kernel
  first | trivial | omega | (simp; done) | (simp; omega) | (simp_all; done) | (simp_all; omega)
theorem v_twice_38 (st : Nat → Int32) (ar : Nat → Nat → Int32) (lo : Nat → Nat → Int64) (re : Nat → UInt64) (k0 : Int32) (k1 : Int32) (hpre : True) (c1 : k1.toInt = (61)) (c20 : ¬ k0.toInt = (60)) (c21 : ¬ k0.toInt = (62)) (c22 : ¬ k0.toInt = (61)) (c23 : ¬ k0.toInt = (33)) (c24 : k0.toInt = (38)) (c33 : ¬ k1.toInt = (38)) (c34 : k0.toInt = (124)) (c38 : k1.toInt = (124)) : (1 : Int32).toInt = 0 ∨ ((1 : Int32).toInt = 1 ∧ ¬ k1.toInt = 0) := by
  have q1 : (1 : Int32).toInt = 1 := by decide +kernel
  first | trivial | omega | (simp; done) | (simp; omega) | (simp_all; done) | (simp_all; omega)
theorem v_twice_39 (st : Nat → Int32) (ar : Nat → Nat → Int32) (lo : Nat → Nat → Int64) (re : Nat → UInt64) (k0 : Int32) (k1 : Int32) (hpre : True) (c1 : k1.toInt = (61)) (c20 : ¬ k0.toInt = (60)) (c21 : ¬ k0.toInt = (62)) (c22 : ¬ k0.toInt = (61)) (c23 : ¬ k0.toInt = (33)) (c24 : k0.toInt = (38)) (c33 : ¬ k1.toInt = (38)) (c34 : k0.toInt = (124)) (c38 : ¬ k1.toInt = (124)) (c39 : ¬ k0.toInt = (63)) : (0 : Int32).toInt = 0 ∨ ((0 : Int32).toInt = 1 ∧ ¬ k1.toInt = 0) := by
  have q0 : (0 : Int32).toInt = 0 := by decide +kernel
  first | trivial | omega | (simp; done) | (simp; omega) | (simp_all; done) | (simp_all; omega)
theorem v_twice_40 (st : Nat → Int32) (ar : Nat → Nat → Int32) (lo : Nat → Nat → Int64) (re : Nat → UInt64) (k0 : Int32) (k1 : Int32) (hpre : True) (c1 : k1.toInt = (61)) (c20 : ¬ k0.toInt = (60)) (c21 : ¬ k0.toInt = (62)) (c22 : ¬ k0.toInt = (61)) (c23 : ¬ k0.toInt = (33)) (c24 : k0.toInt = (38)) (c33 : ¬ k1.toInt = (38)) (c34 : k0.toInt = (124)) (c38 : ¬ k1.toInt = (124)) (c39 : k0.toInt = (63)) (c40 : k1.toInt = (58)) : (1 : Int32).toInt = 0 ∨ ((1 : Int32).toInt = 1 ∧ ¬ k1.toInt = 0) := by
  have q1 : (1 : Int32).toInt = 1 := by decide +kernel
  first | trivial | omega | (simp; done) | (simp; omega) | (simp_all; done) | (simp_all; omega)
theorem v_twice_41 (st : Nat → Int32) (ar : Nat → Nat → Int32) (lo : Nat → Nat → Int64) (re : Nat → UInt64) (k0 : Int32) (k1 : Int32) (hpre : True) (c1 : k1.toInt = (61)) (c20 : ¬ k0.toInt = (60)) (c21 : ¬ k0.toInt = (62)) (c22 : ¬ k0.toInt = (61)) (c23 : ¬ k0.toInt = (33)) (c24 : k0.toInt = (38)) (c33 : ¬ k1.toInt = (38)) (c34 : k0.toInt = (124)) (c38 : ¬ k1.toInt = (124)) (c39 : k0.toInt = (63)) (c40 : ¬ k1.toInt = (58)) (c41 : ¬ k1.toInt = (46)) : (0 : Int32).toInt = 0 ∨ ((0 : Int32).toInt = 1 ∧ ¬ k1.toInt = 0) := by
  have q0 : (0 : Int32).toInt = 0 := by decide +kernel
  first | trivial | omega | (simp; done) | (simp; omega) | (simp_all; done) | (simp_all; omega)
theorem v_twice_42 (st : Nat → Int32) (ar : Nat → Nat → Int32) (lo : Nat → Nat → Int64) (re : Nat → UInt64) (k0 : Int32) (k1 : Int32) (hpre : True) (c1 : k1.toInt = (61)) (c20 : ¬ k0.toInt = (60)) (c21 : ¬ k0.toInt = (62)) (c22 : ¬ k0.toInt = (61)) (c23 : ¬ k0.toInt = (33)) (c24 : k0.toInt = (38)) (c33 : ¬ k1.toInt = (38)) (c34 : k0.toInt = (124)) (c38 : ¬ k1.toInt = (124)) (c39 : k0.toInt = (63)) (c40 : ¬ k1.toInt = (58)) (c41 : k1.toInt = (46)) : (1 : Int32).toInt = 0 ∨ ((1 : Int32).toInt = 1 ∧ ¬ k1.toInt = 0) := by
  have q1 : (1 : Int32).toInt = 1 := by decide +kernel
  first | trivial | omega | (simp; done) | (simp; omega) | (simp_all; done) | (simp_all; omega)
theorem v_sign_1 (st : Nat → Int32) (ar : Nat → Nat → Int32) (lo : Nat → Nat → Int64) (re : Nat → UInt64) (k0 : Int32) (hpre : 0 ≤ (st 1).toInt ∧ (st 1).toInt ≤ 40 ∧ 0 ≤ (st 3).toInt ∧ (st 3).toInt ≤ k0.toInt ∧ k0.toInt < (st 1).toInt ∧ TKok (ar 4) (lo 6) (ar 7) (st 3).toInt) : 0 ≤ (st 1).toInt ∧ (st 1).toInt ≤ 40 ∧ 0 ≤ k0.toInt := by
  first | trivial | omega | (simp; done) | (simp; omega) | (simp_all; done) | (simp_all; omega)
theorem v_sign_2 (st : Nat → Int32) (ar : Nat → Nat → Int32) (lo : Nat → Nat → Int64) (re : Nat → UInt64) (k0 : Int32) (r1 : Int32) (x2 : Int32) (hpre : 0 ≤ (st 1).toInt ∧ (st 1).toInt ≤ 40 ∧ 0 ≤ (st 3).toInt ∧ (st 3).toInt ≤ k0.toInt ∧ k0.toInt < (st 1).toInt ∧ TKok (ar 4) (lo 6) (ar 7) (st 3).toInt) (hr1 : (k0.toInt < (st 1).toInt ∧ r1.toInt = ((ar 2) k0.toNatClampNeg).toInt) ∨ ((st 1).toInt ≤ k0.toInt ∧ r1.toInt = 0)) (ex2 : x2 = k0 + 1) : x2.toInt = k0.toInt + (1) := by
  have z1 : (1 : Int32).toInt = 1 := by decide +kernel
  rw [ex2, z_add (by omega) (by omega)]; first | done | omega
theorem v_sign_3 (st : Nat → Int32) (ar : Nat → Nat → Int32) (lo : Nat → Nat → Int64) (re : Nat → UInt64) (k0 : Int32) (r1 : Int32) (x2 : Int32) (hpre : 0 ≤ (st 1).toInt ∧ (st 1).toInt ≤ 40 ∧ 0 ≤ (st 3).toInt ∧ (st 3).toInt ≤ k0.toInt ∧ k0.toInt < (st 1).toInt ∧ TKok (ar 4) (lo 6) (ar 7) (st 3).toInt) (hr1 : (k0.toInt < (st 1).toInt ∧ r1.toInt = ((ar 2) k0.toNatClampNeg).toInt) ∨ ((st 1).toInt ≤ k0.toInt ∧ r1.toInt = 0)) (ex2 : x2 = k0 + 1) (tx2 : x2.toInt = k0.toInt + (1)) : 0 ≤ (st 1).toInt ∧ (st 1).toInt ≤ 40 ∧ 0 ≤ x2.toInt := by
  first | trivial | omega | (simp; done) | (simp; omega) | (simp_all; done) | (simp_all; omega)
theorem v_sign_4 (st : Nat → Int32) (ar : Nat → Nat → Int32) (lo : Nat → Nat → Int64) (re : Nat → UInt64) (k0 : Int32) (r1 : Int32) (x2 : Int32) (r3 : Int32) (hpre : 0 ≤ (st 1).toInt ∧ (st 1).toInt ≤ 40 ∧ 0 ≤ (st 3).toInt ∧ (st 3).toInt ≤ k0.toInt ∧ k0.toInt < (st 1).toInt ∧ TKok (ar 4) (lo 6) (ar 7) (st 3).toInt) (hr1 : (k0.toInt < (st 1).toInt ∧ r1.toInt = ((ar 2) k0.toNatClampNeg).toInt) ∨ ((st 1).toInt ≤ k0.toInt ∧ r1.toInt = 0)) (ex2 : x2 = k0 + 1) (tx2 : x2.toInt = k0.toInt + (1)) (hr3 : (x2.toInt < (st 1).toInt ∧ r3.toInt = ((ar 2) x2.toNatClampNeg).toInt) ∨ ((st 1).toInt ≤ x2.toInt ∧ r3.toInt = 0)) : True := by
  first | trivial | omega | (simp; done) | (simp; omega) | (simp_all; done) | (simp_all; omega)
theorem v_sign_5 (st : Nat → Int32) (ar : Nat → Nat → Int32) (lo : Nat → Nat → Int64) (re : Nat → UInt64) (k0 : Int32) (r1 : Int32) (x2 : Int32) (r3 : Int32) (r4 : Int32) (hpre : 0 ≤ (st 1).toInt ∧ (st 1).toInt ≤ 40 ∧ 0 ≤ (st 3).toInt ∧ (st 3).toInt ≤ k0.toInt ∧ k0.toInt < (st 1).toInt ∧ TKok (ar 4) (lo 6) (ar 7) (st 3).toInt) (hr1 : (k0.toInt < (st 1).toInt ∧ r1.toInt = ((ar 2) k0.toNatClampNeg).toInt) ∨ ((st 1).toInt ≤ k0.toInt ∧ r1.toInt = 0)) (ex2 : x2 = k0 + 1) (tx2 : x2.toInt = k0.toInt + (1)) (hr3 : (x2.toInt < (st 1).toInt ∧ r3.toInt = ((ar 2) x2.toNatClampNeg).toInt) ∨ ((st 1).toInt ≤ x2.toInt ∧ r3.toInt = 0)) (hr4 : r4.toInt = 0 ∨ (r4.toInt = 1 ∧ ¬ r3.toInt = 0)) (c5 : r4.toInt = (0)) : True := by
  first | trivial | omega | (simp; done) | (simp; omega) | (simp_all; done) | (simp_all; omega)
theorem v_sign_6 (st : Nat → Int32) (ar : Nat → Nat → Int32) (lo : Nat → Nat → Int64) (re : Nat → UInt64) (k0 : Int32) (r1 : Int32) (x2 : Int32) (r3 : Int32) (r4 : Int32) (r6 : Int32) (hpre : 0 ≤ (st 1).toInt ∧ (st 1).toInt ≤ 40 ∧ 0 ≤ (st 3).toInt ∧ (st 3).toInt ≤ k0.toInt ∧ k0.toInt < (st 1).toInt ∧ TKok (ar 4) (lo 6) (ar 7) (st 3).toInt) (hr1 : (k0.toInt < (st 1).toInt ∧ r1.toInt = ((ar 2) k0.toNatClampNeg).toInt) ∨ ((st 1).toInt ≤ k0.toInt ∧ r1.toInt = 0)) (ex2 : x2 = k0 + 1) (tx2 : x2.toInt = k0.toInt + (1)) (hr3 : (x2.toInt < (st 1).toInt ∧ r3.toInt = ((ar 2) x2.toNatClampNeg).toInt) ∨ ((st 1).toInt ≤ x2.toInt ∧ r3.toInt = 0)) (hr4 : r4.toInt = 0 ∨ (r4.toInt = 1 ∧ ¬ r3.toInt = 0)) (c5 : r4.toInt = (0)) (hr6 : r6.toInt = 0 ∨ r6.toInt = 1) (c7 : r6.toInt = (0)) : True := by
  first | trivial | omega | (simp; done) | (simp; omega) | (simp_all; done) | (simp_all; omega)
theorem v_sign_7 (st : Nat → Int32) (ar : Nat → Nat → Int32) (lo : Nat → Nat → Int64) (re : Nat → UInt64) (k0 : Int32) (r1 : Int32) (x2 : Int32) (r3 : Int32) (r4 : Int32) (r6 : Int32) (n9 : Int32) (n10 : Int32) (x11 : Int32) (hpre : 0 ≤ (st 1).toInt ∧ (st 1).toInt ≤ 40 ∧ 0 ≤ (st 3).toInt ∧ (st 3).toInt ≤ k0.toInt ∧ k0.toInt < (st 1).toInt ∧ TKok (ar 4) (lo 6) (ar 7) (st 3).toInt) (hr1 : (k0.toInt < (st 1).toInt ∧ r1.toInt = ((ar 2) k0.toNatClampNeg).toInt) ∨ ((st 1).toInt ≤ k0.toInt ∧ r1.toInt = 0)) (ex2 : x2 = k0 + 1) (tx2 : x2.toInt = k0.toInt + (1)) (hr3 : (x2.toInt < (st 1).toInt ∧ r3.toInt = ((ar 2) x2.toNatClampNeg).toInt) ∨ ((st 1).toInt ≤ x2.toInt ∧ r3.toInt = 0)) (hr4 : r4.toInt = 0 ∨ (r4.toInt = 1 ∧ ¬ r3.toInt = 0)) (c5 : r4.toInt = (0)) (hr6 : r6.toInt = 0 ∨ r6.toInt = 1) (c7 : r6.toInt = (0)) (hr8 : ((st 8).toInt = 0 → n9 = (1 : Int32)) ∧ (¬ (st 8).toInt = 0 → n9 = (st 8))) (ex11 : x11 = k0 + 1) : x11.toInt = k0.toInt + (1) := by
  have q1 : (1 : Int32).toInt = 1 := by decide +kernel
  have z1 : (1 : Int32).toInt = 1 := by decide +kernel
  rw [ex11, z_add (by omega) (by omega)]; first | done | omega
theorem v_sign_8 (st : Nat → Int32) (ar : Nat → Nat → Int32) (lo : Nat → Nat → Int64) (re : Nat → UInt64) (k0 : Int32) (r1 : Int32) (x2 : Int32) (r3 : Int32) (r4 : Int32) (r6 : Int32) (n9 : Int32) (n10 : Int32) (x11 : Int32) (hpre : 0 ≤ (st 1).toInt ∧ (st 1).toInt ≤ 40 ∧ 0 ≤ (st 3).toInt ∧ (st 3).toInt ≤ k0.toInt ∧ k0.toInt < (st 1).toInt ∧ TKok (ar 4) (lo 6) (ar 7) (st 3).toInt) (hr1 : (k0.toInt < (st 1).toInt ∧ r1.toInt = ((ar 2) k0.toNatClampNeg).toInt) ∨ ((st 1).toInt ≤ k0.toInt ∧ r1.toInt = 0)) (ex2 : x2 = k0 + 1) (tx2 : x2.toInt = k0.toInt + (1)) (hr3 : (x2.toInt < (st 1).toInt ∧ r3.toInt = ((ar 2) x2.toNatClampNeg).toInt) ∨ ((st 1).toInt ≤ x2.toInt ∧ r3.toInt = 0)) (hr4 : r4.toInt = 0 ∨ (r4.toInt = 1 ∧ ¬ r3.toInt = 0)) (c5 : r4.toInt = (0)) (hr6 : r6.toInt = 0 ∨ r6.toInt = 1) (c7 : r6.toInt = (0)) (hr8 : ((st 8).toInt = 0 → n9 = (1 : Int32)) ∧ (¬ (st 8).toInt = 0 → n9 = (st 8))) (ex11 : x11 = k0 + 1) (tx11 : x11.toInt = k0.toInt + (1)) : k0.toInt < x11.toInt ∧ x11.toInt ≤ (st 1).toInt ∧ 0 ≤ (st 3).toInt ∧ (st 3).toInt ≤ x11.toInt ∧ TKok (ar 4) (lo 6) (ar 7) (st 3).toInt := by
  have q1 : (1 : Int32).toInt = 1 := by decide +kernel
  have hz := hpre.2.2.2.2.2
  and_intros <;> first | omega | exact hz | exact tk_add hz (by omega) (clampZ (by omega)) (by omega) (by omega) (by omega)
theorem v_sign_9 (st : Nat → Int32) (ar : Nat → Nat → Int32) (lo : Nat → Nat → Int64) (re : Nat → UInt64) (k0 : Int32) (r1 : Int32) (x2 : Int32) (r3 : Int32) (r4 : Int32) (r6 : Int32) (x12 : Int64) (hpre : 0 ≤ (st 1).toInt ∧ (st 1).toInt ≤ 40 ∧ 0 ≤ (st 3).toInt ∧ (st 3).toInt ≤ k0.toInt ∧ k0.toInt < (st 1).toInt ∧ TKok (ar 4) (lo 6) (ar 7) (st 3).toInt) (hr1 : (k0.toInt < (st 1).toInt ∧ r1.toInt = ((ar 2) k0.toNatClampNeg).toInt) ∨ ((st 1).toInt ≤ k0.toInt ∧ r1.toInt = 0)) (ex2 : x2 = k0 + 1) (tx2 : x2.toInt = k0.toInt + (1)) (hr3 : (x2.toInt < (st 1).toInt ∧ r3.toInt = ((ar 2) x2.toNatClampNeg).toInt) ∨ ((st 1).toInt ≤ x2.toInt ∧ r3.toInt = 0)) (hr4 : r4.toInt = 0 ∨ (r4.toInt = 1 ∧ ¬ r3.toInt = 0)) (c5 : r4.toInt = (0)) (hr6 : r6.toInt = 0 ∨ r6.toInt = 1) (c7 : ¬ r6.toInt = (0)) (ex12 : x12 = Int32.toInt64 r1) (tx12 : x12.toInt = r1.toInt) : 0 ≤ (st 3).toInt ∧ (st 3).toInt ≤ 41 := by
  first | trivial | omega | (simp; done) | (simp; omega) | (simp_all; done) | (simp_all; omega)
theorem v_sign_10 (st : Nat → Int32) (ar : Nat → Nat → Int32) (lo : Nat → Nat → Int64) (re : Nat → UInt64) (k0 : Int32) (r1 : Int32) (x2 : Int32) (r3 : Int32) (r4 : Int32) (r6 : Int32) (x12 : Int64) (n14 : Int32) (x15 : Int32) (hpre : 0 ≤ (st 1).toInt ∧ (st 1).toInt ≤ 40 ∧ 0 ≤ (st 3).toInt ∧ (st 3).toInt ≤ k0.toInt ∧ k0.toInt < (st 1).toInt ∧ TKok (ar 4) (lo 6) (ar 7) (st 3).toInt) (hr1 : (k0.toInt < (st 1).toInt ∧ r1.toInt = ((ar 2) k0.toNatClampNeg).toInt) ∨ ((st 1).toInt ≤ k0.toInt ∧ r1.toInt = 0)) (ex2 : x2 = k0 + 1) (tx2 : x2.toInt = k0.toInt + (1)) (hr3 : (x2.toInt < (st 1).toInt ∧ r3.toInt = ((ar 2) x2.toNatClampNeg).toInt) ∨ ((st 1).toInt ≤ x2.toInt ∧ r3.toInt = 0)) (hr4 : r4.toInt = 0 ∨ (r4.toInt = 1 ∧ ¬ r3.toInt = 0)) (c5 : r4.toInt = (0)) (hr6 : r6.toInt = 0 ∨ r6.toInt = 1) (c7 : ¬ r6.toInt = (0)) (ex12 : x12 = Int32.toInt64 r1) (tx12 : x12.toInt = r1.toInt) (hr13 : n14.toInt = (st 3).toInt + 1) (ex15 : x15 = k0 + 1) : x15.toInt = k0.toInt + (1) := by
  have z1 : (1 : Int32).toInt = 1 := by decide +kernel
  rw [ex15, z_add (by omega) (by omega)]; first | done | omega
theorem v_sign_11 (st : Nat → Int32) (ar : Nat → Nat → Int32) (lo : Nat → Nat → Int64) (re : Nat → UInt64) (k0 : Int32) (r1 : Int32) (x2 : Int32) (r3 : Int32) (r4 : Int32) (r6 : Int32) (x12 : Int64) (n14 : Int32) (x15 : Int32) (hpre : 0 ≤ (st 1).toInt ∧ (st 1).toInt ≤ 40 ∧ 0 ≤ (st 3).toInt ∧ (st 3).toInt ≤ k0.toInt ∧ k0.toInt < (st 1).toInt ∧ TKok (ar 4) (lo 6) (ar 7) (st 3).toInt) (hr1 : (k0.toInt < (st 1).toInt ∧ r1.toInt = ((ar 2) k0.toNatClampNeg).toInt) ∨ ((st 1).toInt ≤ k0.toInt ∧ r1.toInt = 0)) (ex2 : x2 = k0 + 1) (tx2 : x2.toInt = k0.toInt + (1)) (hr3 : (x2.toInt < (st 1).toInt ∧ r3.toInt = ((ar 2) x2.toNatClampNeg).toInt) ∨ ((st 1).toInt ≤ x2.toInt ∧ r3.toInt = 0)) (hr4 : r4.toInt = 0 ∨ (r4.toInt = 1 ∧ ¬ r3.toInt = 0)) (c5 : r4.toInt = (0)) (hr6 : r6.toInt = 0 ∨ r6.toInt = 1) (c7 : ¬ r6.toInt = (0)) (ex12 : x12 = Int32.toInt64 r1) (tx12 : x12.toInt = r1.toInt) (hr13 : n14.toInt = (st 3).toInt + 1) (ex15 : x15 = k0 + 1) (tx15 : x15.toInt = k0.toInt + (1)) : k0.toInt < x15.toInt ∧ x15.toInt ≤ (st 1).toInt ∧ 0 ≤ n14.toInt ∧ n14.toInt ≤ x15.toInt ∧ TKok (upd (ar 4) (st 3).toNatClampNeg (5 : Int32)) (vp_updL (lo 6) (st 3).toNatClampNeg x12) (upd (ar 7) (st 3).toNatClampNeg 0) n14.toInt := by
  have q5 : (5 : Int32).toInt = 5 := by decide +kernel
  have hz := hpre.2.2.2.2.2
  and_intros <;> first | omega | exact hz | exact tk_add hz (by omega) (clampZ (by omega)) (by omega) (by omega) (by omega)
theorem v_sign_12 (st : Nat → Int32) (ar : Nat → Nat → Int32) (lo : Nat → Nat → Int64) (re : Nat → UInt64) (k0 : Int32) (r1 : Int32) (x2 : Int32) (r3 : Int32) (r4 : Int32) (x16 : Int64) (x17 : Int64) (x18 : Int32) (hpre : 0 ≤ (st 1).toInt ∧ (st 1).toInt ≤ 40 ∧ 0 ≤ (st 3).toInt ∧ (st 3).toInt ≤ k0.toInt ∧ k0.toInt < (st 1).toInt ∧ TKok (ar 4) (lo 6) (ar 7) (st 3).toInt) (hr1 : (k0.toInt < (st 1).toInt ∧ r1.toInt = ((ar 2) k0.toNatClampNeg).toInt) ∨ ((st 1).toInt ≤ k0.toInt ∧ r1.toInt = 0)) (ex2 : x2 = k0 + 1) (tx2 : x2.toInt = k0.toInt + (1)) (hr3 : (x2.toInt < (st 1).toInt ∧ r3.toInt = ((ar 2) x2.toNatClampNeg).toInt) ∨ ((st 1).toInt ≤ x2.toInt ∧ r3.toInt = 0)) (hr4 : r4.toInt = 0 ∨ (r4.toInt = 1 ∧ ¬ r3.toInt = 0)) (c5 : ¬ r4.toInt = (0)) (ex16 : x16 = Int32.toInt64 r1) (tx16 : x16.toInt = r1.toInt) (ex17 : x17 = 256 * x16) (ex18 : x18 = k0 + 1) : x18.toInt = k0.toInt + (1) := by
  have z1 : (1 : Int32).toInt = 1 := by decide +kernel
  rw [ex18, z_add (by omega) (by omega)]; first | done | omega
theorem v_sign_13 (st : Nat → Int32) (ar : Nat → Nat → Int32) (lo : Nat → Nat → Int64) (re : Nat → UInt64) (k0 : Int32) (r1 : Int32) (x2 : Int32) (r3 : Int32) (r4 : Int32) (x16 : Int64) (x17 : Int64) (x18 : Int32) (hpre : 0 ≤ (st 1).toInt ∧ (st 1).toInt ≤ 40 ∧ 0 ≤ (st 3).toInt ∧ (st 3).toInt ≤ k0.toInt ∧ k0.toInt < (st 1).toInt ∧ TKok (ar 4) (lo 6) (ar 7) (st 3).toInt) (hr1 : (k0.toInt < (st 1).toInt ∧ r1.toInt = ((ar 2) k0.toNatClampNeg).toInt) ∨ ((st 1).toInt ≤ k0.toInt ∧ r1.toInt = 0)) (ex2 : x2 = k0 + 1) (tx2 : x2.toInt = k0.toInt + (1)) (hr3 : (x2.toInt < (st 1).toInt ∧ r3.toInt = ((ar 2) x2.toNatClampNeg).toInt) ∨ ((st 1).toInt ≤ x2.toInt ∧ r3.toInt = 0)) (hr4 : r4.toInt = 0 ∨ (r4.toInt = 1 ∧ ¬ r3.toInt = 0)) (c5 : ¬ r4.toInt = (0)) (ex16 : x16 = Int32.toInt64 r1) (tx16 : x16.toInt = r1.toInt) (ex17 : x17 = 256 * x16) (ex18 : x18 = k0 + 1) (tx18 : x18.toInt = k0.toInt + (1)) : 0 ≤ (st 1).toInt ∧ (st 1).toInt ≤ 40 ∧ 0 ≤ x18.toInt := by
  first | trivial | omega | (simp; done) | (simp; omega) | (simp_all; done) | (simp_all; omega)
theorem v_sign_14 (st : Nat → Int32) (ar : Nat → Nat → Int32) (lo : Nat → Nat → Int64) (re : Nat → UInt64) (k0 : Int32) (r1 : Int32) (x2 : Int32) (r3 : Int32) (r4 : Int32) (x16 : Int64) (x17 : Int64) (x18 : Int32) (r19 : Int32) (x20 : Int64) (x21 : Int64) (hpre : 0 ≤ (st 1).toInt ∧ (st 1).toInt ≤ 40 ∧ 0 ≤ (st 3).toInt ∧ (st 3).toInt ≤ k0.toInt ∧ k0.toInt < (st 1).toInt ∧ TKok (ar 4) (lo 6) (ar 7) (st 3).toInt) (hr1 : (k0.toInt < (st 1).toInt ∧ r1.toInt = ((ar 2) k0.toNatClampNeg).toInt) ∨ ((st 1).toInt ≤ k0.toInt ∧ r1.toInt = 0)) (ex2 : x2 = k0 + 1) (tx2 : x2.toInt = k0.toInt + (1)) (hr3 : (x2.toInt < (st 1).toInt ∧ r3.toInt = ((ar 2) x2.toNatClampNeg).toInt) ∨ ((st 1).toInt ≤ x2.toInt ∧ r3.toInt = 0)) (hr4 : r4.toInt = 0 ∨ (r4.toInt = 1 ∧ ¬ r3.toInt = 0)) (c5 : ¬ r4.toInt = (0)) (ex16 : x16 = Int32.toInt64 r1) (tx16 : x16.toInt = r1.toInt) (ex17 : x17 = 256 * x16) (ex18 : x18 = k0 + 1) (tx18 : x18.toInt = k0.toInt + (1)) (hr19 : (x18.toInt < (st 1).toInt ∧ r19.toInt = ((ar 2) x18.toNatClampNeg).toInt) ∨ ((st 1).toInt ≤ x18.toInt ∧ r19.toInt = 0)) (ex20 : x20 = Int32.toInt64 r19) (tx20 : x20.toInt = r19.toInt) (ex21 : x21 = x17 + x20) : 0 ≤ (st 3).toInt ∧ (st 3).toInt ≤ 41 := by
  first | trivial | omega | (simp; done) | (simp; omega) | (simp_all; done) | (simp_all; omega)
theorem v_sign_15 (st : Nat → Int32) (ar : Nat → Nat → Int32) (lo : Nat → Nat → Int64) (re : Nat → UInt64) (k0 : Int32) (r1 : Int32) (x2 : Int32) (r3 : Int32) (r4 : Int32) (x16 : Int64) (x17 : Int64) (x18 : Int32) (r19 : Int32) (x20 : Int64) (x21 : Int64) (n23 : Int32) (x24 : Int32) (hpre : 0 ≤ (st 1).toInt ∧ (st 1).toInt ≤ 40 ∧ 0 ≤ (st 3).toInt ∧ (st 3).toInt ≤ k0.toInt ∧ k0.toInt < (st 1).toInt ∧ TKok (ar 4) (lo 6) (ar 7) (st 3).toInt) (hr1 : (k0.toInt < (st 1).toInt ∧ r1.toInt = ((ar 2) k0.toNatClampNeg).toInt) ∨ ((st 1).toInt ≤ k0.toInt ∧ r1.toInt = 0)) (ex2 : x2 = k0 + 1) (tx2 : x2.toInt = k0.toInt + (1)) (hr3 : (x2.toInt < (st 1).toInt ∧ r3.toInt = ((ar 2) x2.toNatClampNeg).toInt) ∨ ((st 1).toInt ≤ x2.toInt ∧ r3.toInt = 0)) (hr4 : r4.toInt = 0 ∨ (r4.toInt = 1 ∧ ¬ r3.toInt = 0)) (c5 : ¬ r4.toInt = (0)) (ex16 : x16 = Int32.toInt64 r1) (tx16 : x16.toInt = r1.toInt) (ex17 : x17 = 256 * x16) (ex18 : x18 = k0 + 1) (tx18 : x18.toInt = k0.toInt + (1)) (hr19 : (x18.toInt < (st 1).toInt ∧ r19.toInt = ((ar 2) x18.toNatClampNeg).toInt) ∨ ((st 1).toInt ≤ x18.toInt ∧ r19.toInt = 0)) (ex20 : x20 = Int32.toInt64 r19) (tx20 : x20.toInt = r19.toInt) (ex21 : x21 = x17 + x20) (hr22 : n23.toInt = (st 3).toInt + 1) (ex24 : x24 = k0 + 2) : x24.toInt = k0.toInt + (2) := by
  have z2 : (2 : Int32).toInt = 2 := by decide +kernel
  rw [ex24, z_add (by omega) (by omega)]; first | done | omega
theorem v_sign_16 (st : Nat → Int32) (ar : Nat → Nat → Int32) (lo : Nat → Nat → Int64) (re : Nat → UInt64) (k0 : Int32) (r1 : Int32) (x2 : Int32) (r3 : Int32) (r4 : Int32) (x16 : Int64) (x17 : Int64) (x18 : Int32) (r19 : Int32) (x20 : Int64) (x21 : Int64) (n23 : Int32) (x24 : Int32) (hpre : 0 ≤ (st 1).toInt ∧ (st 1).toInt ≤ 40 ∧ 0 ≤ (st 3).toInt ∧ (st 3).toInt ≤ k0.toInt ∧ k0.toInt < (st 1).toInt ∧ TKok (ar 4) (lo 6) (ar 7) (st 3).toInt) (hr1 : (k0.toInt < (st 1).toInt ∧ r1.toInt = ((ar 2) k0.toNatClampNeg).toInt) ∨ ((st 1).toInt ≤ k0.toInt ∧ r1.toInt = 0)) (ex2 : x2 = k0 + 1) (tx2 : x2.toInt = k0.toInt + (1)) (hr3 : (x2.toInt < (st 1).toInt ∧ r3.toInt = ((ar 2) x2.toNatClampNeg).toInt) ∨ ((st 1).toInt ≤ x2.toInt ∧ r3.toInt = 0)) (hr4 : r4.toInt = 0 ∨ (r4.toInt = 1 ∧ ¬ r3.toInt = 0)) (c5 : ¬ r4.toInt = (0)) (ex16 : x16 = Int32.toInt64 r1) (tx16 : x16.toInt = r1.toInt) (ex17 : x17 = 256 * x16) (ex18 : x18 = k0 + 1) (tx18 : x18.toInt = k0.toInt + (1)) (hr19 : (x18.toInt < (st 1).toInt ∧ r19.toInt = ((ar 2) x18.toNatClampNeg).toInt) ∨ ((st 1).toInt ≤ x18.toInt ∧ r19.toInt = 0)) (ex20 : x20 = Int32.toInt64 r19) (tx20 : x20.toInt = r19.toInt) (ex21 : x21 = x17 + x20) (hr22 : n23.toInt = (st 3).toInt + 1) (ex24 : x24 = k0 + 2) (tx24 : x24.toInt = k0.toInt + (2)) : k0.toInt < x24.toInt ∧ x24.toInt ≤ (st 1).toInt ∧ 0 ≤ n23.toInt ∧ n23.toInt ≤ x24.toInt ∧ TKok (upd (ar 4) (st 3).toNatClampNeg (5 : Int32)) (vp_updL (lo 6) (st 3).toNatClampNeg x21) (upd (ar 7) (st 3).toNatClampNeg 0) n23.toInt := by
  have q5 : (5 : Int32).toInt = 5 := by decide +kernel
  have hz := hpre.2.2.2.2.2
  and_intros <;> first | omega | exact hz | exact tk_add hz (by omega) (clampZ (by omega)) (by omega) (by omega) (by omega)
theorem v_cut_1 (st : Nat → Int32) (ar : Nat → Nat → Int32) (lo : Nat → Nat → Int64) (re : Nat → UInt64) (hpre : 0 ≤ (st 1).toInt ∧ (st 1).toInt ≤ 40) : 0 ≤ (0 : Int32).toInt ∧ (0 : Int32).toInt ≤ (st 1).toInt ∧ 0 ≤ (0 : Int32).toInt ∧ (0 : Int32).toInt ≤ (0 : Int32).toInt ∧ TKok (ar 4) (lo 6) (ar 7) (0 : Int32).toInt := by
  have q0 : (0 : Int32).toInt = 0 := by decide +kernel
  first | trivial | omega | (simp; done) | (simp; omega) | (simp_all; done) | (simp_all; omega)
theorem v_cut_2 (st : Nat → Int32) (ar : Nat → Nat → Int32) (lo : Nat → Nat → Int64) (re : Nat → UInt64) (y1 : Int32) (z2 : Int32) (z3 : Int32) (z4 : Int32) (Z5 : Nat → Int32) (Z6 : Nat → Int32) (Z7 : Nat → Int32) (J8 : Nat → Int64) (hpre : 0 ≤ (st 1).toInt ∧ (st 1).toInt ≤ 40) (hi7 : 0 ≤ y1.toInt ∧ y1.toInt ≤ (st 1).toInt ∧ 0 ≤ z2.toInt ∧ z2.toInt ≤ y1.toInt ∧ TKok Z5 J8 Z7 z2.toInt) (c9 : (st 1).toInt ≤ y1.toInt) : 0 ≤ z2.toInt ∧ z2.toInt ≤ 41 := by
  first | trivial | omega | (simp; done) | (simp; omega) | (simp_all; done) | (simp_all; omega)
theorem v_cut_3 (st : Nat → Int32) (ar : Nat → Nat → Int32) (lo : Nat → Nat → Int64) (re : Nat → UInt64) (y1 : Int32) (z2 : Int32) (z3 : Int32) (z4 : Int32) (Z5 : Nat → Int32) (Z6 : Nat → Int32) (Z7 : Nat → Int32) (J8 : Nat → Int64) (n11 : Int32) (hpre : 0 ≤ (st 1).toInt ∧ (st 1).toInt ≤ 40) (hi7 : 0 ≤ y1.toInt ∧ y1.toInt ≤ (st 1).toInt ∧ 0 ≤ z2.toInt ∧ z2.toInt ≤ y1.toInt ∧ TKok Z5 J8 Z7 z2.toInt) (c9 : (st 1).toInt ≤ y1.toInt) (hr10 : n11.toInt = z2.toInt + 1) : 1 ≤ n11.toInt ∧ n11.toInt ≤ (st 1).toInt + 1 ∧ TKok (upd Z5 z2.toNatClampNeg (0 : Int32)) (vp_updL J8 z2.toNatClampNeg (0 : Int32)) (upd Z7 z2.toNatClampNeg 0) (n11.toInt - 1) ∧ ((upd Z5 z2.toNatClampNeg (0 : Int32)) (n11.toInt - 1).toNat).toInt = 0 := by
  have q0 : (0 : Int32).toInt = 0 := by decide +kernel
  have hz := hi7.2.2.2.2
  and_intros <;> first | omega | (refine (?_ : TKok _ _ _ _); rw [show n8.toInt - 1 = z2.toInt by omega]; exact tk_end hz (clampZ (by omega))) | (rw [show (n8.toInt - 1).toNat = z2.toNatClampNeg by rw [clampN]; omega, upd_eq]; exact q0)
theorem v_cut_4 (st : Nat → Int32) (ar : Nat → Nat → Int32) (lo : Nat → Nat → Int64) (re : Nat → UInt64) (y1 : Int32) (z2 : Int32) (z3 : Int32) (z4 : Int32) (Z5 : Nat → Int32) (Z6 : Nat → Int32) (Z7 : Nat → Int32) (J8 : Nat → Int64) (hpre : 0 ≤ (st 1).toInt ∧ (st 1).toInt ≤ 40) (hi7 : 0 ≤ y1.toInt ∧ y1.toInt ≤ (st 1).toInt ∧ 0 ≤ z2.toInt ∧ z2.toInt ≤ y1.toInt ∧ TKok Z5 J8 Z7 z2.toInt) (c9 : y1.toInt < (st 1).toInt) (c12 : ¬ z3.toInt = (0)) : 0 ≤ z2.toInt ∧ z2.toInt ≤ 41 := by
  first | trivial | omega | (simp; done) | (simp; omega) | (simp_all; done) | (simp_all; omega)
theorem v_cut_5 (st : Nat → Int32) (ar : Nat → Nat → Int32) (lo : Nat → Nat → Int64) (re : Nat → UInt64) (y1 : Int32) (z2 : Int32) (z3 : Int32) (z4 : Int32) (Z5 : Nat → Int32) (Z6 : Nat → Int32) (Z7 : Nat → Int32) (J8 : Nat → Int64) (n14 : Int32) (hpre : 0 ≤ (st 1).toInt ∧ (st 1).toInt ≤ 40) (hi7 : 0 ≤ y1.toInt ∧ y1.toInt ≤ (st 1).toInt ∧ 0 ≤ z2.toInt ∧ z2.toInt ≤ y1.toInt ∧ TKok Z5 J8 Z7 z2.toInt) (c9 : y1.toInt < (st 1).toInt) (c12 : ¬ z3.toInt = (0)) (hr13 : n14.toInt = z2.toInt + 1) : 1 ≤ n14.toInt ∧ n14.toInt ≤ (st 1).toInt + 1 ∧ TKok (upd Z5 z2.toNatClampNeg (0 : Int32)) (vp_updL J8 z2.toNatClampNeg (0 : Int32)) (upd Z7 z2.toNatClampNeg 0) (n14.toInt - 1) ∧ ((upd Z5 z2.toNatClampNeg (0 : Int32)) (n14.toInt - 1).toNat).toInt = 0 := by
  have q0 : (0 : Int32).toInt = 0 := by decide +kernel
  have hz := hi7.2.2.2.2
  and_intros <;> first | omega | (refine (?_ : TKok _ _ _ _); rw [show n8.toInt - 1 = z2.toInt by omega]; exact tk_end hz (clampZ (by omega))) | (rw [show (n8.toInt - 1).toNat = z2.toNatClampNeg by rw [clampN]; omega, upd_eq]; exact q0)
theorem v_cut_6 (st : Nat → Int32) (ar : Nat → Nat → Int32) (lo : Nat → Nat → Int64) (re : Nat → UInt64) (y1 : Int32) (z2 : Int32) (z3 : Int32) (z4 : Int32) (Z5 : Nat → Int32) (Z6 : Nat → Int32) (Z7 : Nat → Int32) (J8 : Nat → Int64) (hpre : 0 ≤ (st 1).toInt ∧ (st 1).toInt ≤ 40) (hi7 : 0 ≤ y1.toInt ∧ y1.toInt ≤ (st 1).toInt ∧ 0 ≤ z2.toInt ∧ z2.toInt ≤ y1.toInt ∧ TKok Z5 J8 Z7 z2.toInt) (c9 : y1.toInt < (st 1).toInt) (c12 : z3.toInt = (0)) : 0 ≤ (st 1).toInt ∧ (st 1).toInt ≤ 40 ∧ 0 ≤ y1.toInt := by
  first | trivial | omega | (simp; done) | (simp; omega) | (simp_all; done) | (simp_all; omega)
theorem v_cut_7 (st : Nat → Int32) (ar : Nat → Nat → Int32) (lo : Nat → Nat → Int64) (re : Nat → UInt64) (y1 : Int32) (z2 : Int32) (z3 : Int32) (z4 : Int32) (Z5 : Nat → Int32) (Z6 : Nat → Int32) (Z7 : Nat → Int32) (J8 : Nat → Int64) (r15 : Int32) (hpre : 0 ≤ (st 1).toInt ∧ (st 1).toInt ≤ 40) (hi7 : 0 ≤ y1.toInt ∧ y1.toInt ≤ (st 1).toInt ∧ 0 ≤ z2.toInt ∧ z2.toInt ≤ y1.toInt ∧ TKok Z5 J8 Z7 z2.toInt) (c9 : y1.toInt < (st 1).toInt) (c12 : z3.toInt = (0)) (hr15 : (y1.toInt < (st 1).toInt ∧ r15.toInt = ((ar 2) y1.toNatClampNeg).toInt) ∨ ((st 1).toInt ≤ y1.toInt ∧ r15.toInt = 0)) (c16 : ¬ r15.toInt = (32)) : 0 ≤ (st 1).toInt ∧ (st 1).toInt ≤ 40 ∧ 0 ≤ y1.toInt := by
  first | trivial | omega | (simp; done) | (simp; omega) | (simp_all; done) | (simp_all; omega)
theorem v_cut_8 (st : Nat → Int32) (ar : Nat → Nat → Int32) (lo : Nat → Nat → Int64) (re : Nat → UInt64) (y1 : Int32) (z2 : Int32) (z3 : Int32) (z4 : Int32) (Z5 : Nat → Int32) (Z6 : Nat → Int32) (Z7 : Nat → Int32) (J8 : Nat → Int64) (r15 : Int32) (r17 : Int32) (hpre : 0 ≤ (st 1).toInt ∧ (st 1).toInt ≤ 40) (hi7 : 0 ≤ y1.toInt ∧ y1.toInt ≤ (st 1).toInt ∧ 0 ≤ z2.toInt ∧ z2.toInt ≤ y1.toInt ∧ TKok Z5 J8 Z7 z2.toInt) (c9 : y1.toInt < (st 1).toInt) (c12 : z3.toInt = (0)) (hr15 : (y1.toInt < (st 1).toInt ∧ r15.toInt = ((ar 2) y1.toNatClampNeg).toInt) ∨ ((st 1).toInt ≤ y1.toInt ∧ r15.toInt = 0)) (c16 : ¬ r15.toInt = (32)) (hr17 : (r17.toInt = 0 ∧ ¬ (y1.toInt < (st 1).toInt ∧ 48 ≤ ((ar 2) y1.toNatClampNeg).toInt ∧ ((ar 2) y1.toNatClampNeg).toInt ≤ 57)) ∨ (r17.toInt = 1 ∧ (y1.toInt < (st 1).toInt ∧ 48 ≤ ((ar 2) y1.toNatClampNeg).toInt ∧ ((ar 2) y1.toNatClampNeg).toInt ≤ 57))) (c18 : r17.toInt = (0)) : 0 ≤ (st 1).toInt ∧ (st 1).toInt ≤ 40 ∧ 0 ≤ y1.toInt := by
  first | trivial | omega | (simp; done) | (simp; omega) | (simp_all; done) | (simp_all; omega)
theorem v_cut_9 (st : Nat → Int32) (ar : Nat → Nat → Int32) (lo : Nat → Nat → Int64) (re : Nat → UInt64) (y1 : Int32) (z2 : Int32) (z3 : Int32) (z4 : Int32) (Z5 : Nat → Int32) (Z6 : Nat → Int32) (Z7 : Nat → Int32) (J8 : Nat → Int64) (r15 : Int32) (r17 : Int32) (r19 : Int32) (hpre : 0 ≤ (st 1).toInt ∧ (st 1).toInt ≤ 40) (hi7 : 0 ≤ y1.toInt ∧ y1.toInt ≤ (st 1).toInt ∧ 0 ≤ z2.toInt ∧ z2.toInt ≤ y1.toInt ∧ TKok Z5 J8 Z7 z2.toInt) (c9 : y1.toInt < (st 1).toInt) (c12 : z3.toInt = (0)) (hr15 : (y1.toInt < (st 1).toInt ∧ r15.toInt = ((ar 2) y1.toNatClampNeg).toInt) ∨ ((st 1).toInt ≤ y1.toInt ∧ r15.toInt = 0)) (c16 : ¬ r15.toInt = (32)) (hr17 : (r17.toInt = 0 ∧ ¬ (y1.toInt < (st 1).toInt ∧ 48 ≤ ((ar 2) y1.toNatClampNeg).toInt ∧ ((ar 2) y1.toNatClampNeg).toInt ≤ 57)) ∨ (r17.toInt = 1 ∧ (y1.toInt < (st 1).toInt ∧ 48 ≤ ((ar 2) y1.toNatClampNeg).toInt ∧ ((ar 2) y1.toNatClampNeg).toInt ≤ 57))) (c18 : r17.toInt = (0)) (hr19 : (r19.toInt = 0 ∧ ¬ (y1.toInt < (st 1).toInt ∧ 97 ≤ ((ar 2) y1.toNatClampNeg).toInt ∧ ((ar 2) y1.toNatClampNeg).toInt ≤ 122)) ∨ (r19.toInt = 1 ∧ (y1.toInt < (st 1).toInt ∧ 97 ≤ ((ar 2) y1.toNatClampNeg).toInt ∧ ((ar 2) y1.toNatClampNeg).toInt ≤ 122))) (c20 : r19.toInt = (0)) : 0 ≤ (st 1).toInt ∧ (st 1).toInt ≤ 40 ∧ 0 ≤ y1.toInt := by
  first | trivial | omega | (simp; done) | (simp; omega) | (simp_all; done) | (simp_all; omega)
theorem v_cut_10 (st : Nat → Int32) (ar : Nat → Nat → Int32) (lo : Nat → Nat → Int64) (re : Nat → UInt64) (y1 : Int32) (z2 : Int32) (z3 : Int32) (z4 : Int32) (Z5 : Nat → Int32) (Z6 : Nat → Int32) (Z7 : Nat → Int32) (J8 : Nat → Int64) (r15 : Int32) (r17 : Int32) (r19 : Int32) (r21 : Int32) (hpre : 0 ≤ (st 1).toInt ∧ (st 1).toInt ≤ 40) (hi7 : 0 ≤ y1.toInt ∧ y1.toInt ≤ (st 1).toInt ∧ 0 ≤ z2.toInt ∧ z2.toInt ≤ y1.toInt ∧ TKok Z5 J8 Z7 z2.toInt) (c9 : y1.toInt < (st 1).toInt) (c12 : z3.toInt = (0)) (hr15 : (y1.toInt < (st 1).toInt ∧ r15.toInt = ((ar 2) y1.toNatClampNeg).toInt) ∨ ((st 1).toInt ≤ y1.toInt ∧ r15.toInt = 0)) (c16 : ¬ r15.toInt = (32)) (hr17 : (r17.toInt = 0 ∧ ¬ (y1.toInt < (st 1).toInt ∧ 48 ≤ ((ar 2) y1.toNatClampNeg).toInt ∧ ((ar 2) y1.toNatClampNeg).toInt ≤ 57)) ∨ (r17.toInt = 1 ∧ (y1.toInt < (st 1).toInt ∧ 48 ≤ ((ar 2) y1.toNatClampNeg).toInt ∧ ((ar 2) y1.toNatClampNeg).toInt ≤ 57))) (c18 : r17.toInt = (0)) (hr19 : (r19.toInt = 0 ∧ ¬ (y1.toInt < (st 1).toInt ∧ 97 ≤ ((ar 2) y1.toNatClampNeg).toInt ∧ ((ar 2) y1.toNatClampNeg).toInt ≤ 122)) ∨ (r19.toInt = 1 ∧ (y1.toInt < (st 1).toInt ∧ 97 ≤ ((ar 2) y1.toNatClampNeg).toInt ∧ ((ar 2) y1.toNatClampNeg).toInt ≤ 122))) (c20 : r19.toInt = (0)) (hr21 : (y1.toInt < (st 1).toInt ∧ r21.toInt = ((ar 2) y1.toNatClampNeg).toInt) ∨ ((st 1).toInt ≤ y1.toInt ∧ r21.toInt = 0)) (c22 : ¬ r21.toInt = (39)) : 0 ≤ (st 1).toInt ∧ (st 1).toInt ≤ 40 ∧ 0 ≤ z2.toInt ∧ z2.toInt ≤ y1.toInt ∧ y1.toInt < (st 1).toInt ∧ TKok Z5 J8 Z7 z2.toInt := by
  first | trivial | omega | (simp; done) | (simp; omega) | (simp_all; done) | (simp_all; omega)
theorem v_cut_11 (st : Nat → Int32) (ar : Nat → Nat → Int32) (lo : Nat → Nat → Int64) (re : Nat → UInt64) (y1 : Int32) (z2 : Int32) (z3 : Int32) (z4 : Int32) (Z5 : Nat → Int32) (Z6 : Nat → Int32) (Z7 : Nat → Int32) (J8 : Nat → Int64) (r15 : Int32) (r17 : Int32) (r19 : Int32) (r21 : Int32) (n24 : Int32) (n25 : Int32) (n26 : Int32) (A27 : Nat → Int32) (A28 : Nat → Int32) (A29 : Nat → Int32) (B30 : Nat → Int64) (r23 : Int32) (hpre : 0 ≤ (st 1).toInt ∧ (st 1).toInt ≤ 40) (hi7 : 0 ≤ y1.toInt ∧ y1.toInt ≤ (st 1).toInt ∧ 0 ≤ z2.toInt ∧ z2.toInt ≤ y1.toInt ∧ TKok Z5 J8 Z7 z2.toInt) (c9 : y1.toInt < (st 1).toInt) (c12 : z3.toInt = (0)) (hr15 : (y1.toInt < (st 1).toInt ∧ r15.toInt = ((ar 2) y1.toNatClampNeg).toInt) ∨ ((st 1).toInt ≤ y1.toInt ∧ r15.toInt = 0)) (c16 : ¬ r15.toInt = (32)) (hr17 : (r17.toInt = 0 ∧ ¬ (y1.toInt < (st 1).toInt ∧ 48 ≤ ((ar 2) y1.toNatClampNeg).toInt ∧ ((ar 2) y1.toNatClampNeg).toInt ≤ 57)) ∨ (r17.toInt = 1 ∧ (y1.toInt < (st 1).toInt ∧ 48 ≤ ((ar 2) y1.toNatClampNeg).toInt ∧ ((ar 2) y1.toNatClampNeg).toInt ≤ 57))) (c18 : r17.toInt = (0)) (hr19 : (r19.toInt = 0 ∧ ¬ (y1.toInt < (st 1).toInt ∧ 97 ≤ ((ar 2) y1.toNatClampNeg).toInt ∧ ((ar 2) y1.toNatClampNeg).toInt ≤ 122)) ∨ (r19.toInt = 1 ∧ (y1.toInt < (st 1).toInt ∧ 97 ≤ ((ar 2) y1.toNatClampNeg).toInt ∧ ((ar 2) y1.toNatClampNeg).toInt ≤ 122))) (c20 : r19.toInt = (0)) (hr21 : (y1.toInt < (st 1).toInt ∧ r21.toInt = ((ar 2) y1.toNatClampNeg).toInt) ∨ ((st 1).toInt ≤ y1.toInt ∧ r21.toInt = 0)) (c22 : ¬ r21.toInt = (39)) (hr23 : y1.toInt < r23.toInt ∧ r23.toInt ≤ (st 1).toInt ∧ 0 ≤ n24.toInt ∧ n24.toInt ≤ r23.toInt ∧ TKok A27 B30 A29 n24.toInt) : 0 ≤ r23.toInt ∧ r23.toInt ≤ (st 1).toInt ∧ 0 ≤ n24.toInt ∧ n24.toInt ≤ r23.toInt ∧ TKok A27 B30 A29 n24.toInt := by
  first | trivial | omega | (simp; done) | (simp; omega) | (simp_all; done) | (simp_all; omega)
theorem v_cut_12 (st : Nat → Int32) (ar : Nat → Nat → Int32) (lo : Nat → Nat → Int64) (re : Nat → UInt64) (y1 : Int32) (z2 : Int32) (z3 : Int32) (z4 : Int32) (Z5 : Nat → Int32) (Z6 : Nat → Int32) (Z7 : Nat → Int32) (J8 : Nat → Int64) (r15 : Int32) (r17 : Int32) (r19 : Int32) (r21 : Int32) (n24 : Int32) (n25 : Int32) (n26 : Int32) (A27 : Nat → Int32) (A28 : Nat → Int32) (A29 : Nat → Int32) (B30 : Nat → Int64) (r23 : Int32) (hpre : 0 ≤ (st 1).toInt ∧ (st 1).toInt ≤ 40) (hi7 : 0 ≤ y1.toInt ∧ y1.toInt ≤ (st 1).toInt ∧ 0 ≤ z2.toInt ∧ z2.toInt ≤ y1.toInt ∧ TKok Z5 J8 Z7 z2.toInt) (c9 : y1.toInt < (st 1).toInt) (c12 : z3.toInt = (0)) (hr15 : (y1.toInt < (st 1).toInt ∧ r15.toInt = ((ar 2) y1.toNatClampNeg).toInt) ∨ ((st 1).toInt ≤ y1.toInt ∧ r15.toInt = 0)) (c16 : ¬ r15.toInt = (32)) (hr17 : (r17.toInt = 0 ∧ ¬ (y1.toInt < (st 1).toInt ∧ 48 ≤ ((ar 2) y1.toNatClampNeg).toInt ∧ ((ar 2) y1.toNatClampNeg).toInt ≤ 57)) ∨ (r17.toInt = 1 ∧ (y1.toInt < (st 1).toInt ∧ 48 ≤ ((ar 2) y1.toNatClampNeg).toInt ∧ ((ar 2) y1.toNatClampNeg).toInt ≤ 57))) (c18 : r17.toInt = (0)) (hr19 : (r19.toInt = 0 ∧ ¬ (y1.toInt < (st 1).toInt ∧ 97 ≤ ((ar 2) y1.toNatClampNeg).toInt ∧ ((ar 2) y1.toNatClampNeg).toInt ≤ 122)) ∨ (r19.toInt = 1 ∧ (y1.toInt < (st 1).toInt ∧ 97 ≤ ((ar 2) y1.toNatClampNeg).toInt ∧ ((ar 2) y1.toNatClampNeg).toInt ≤ 122))) (c20 : r19.toInt = (0)) (hr21 : (y1.toInt < (st 1).toInt ∧ r21.toInt = ((ar 2) y1.toNatClampNeg).toInt) ∨ ((st 1).toInt ≤ y1.toInt ∧ r21.toInt = 0)) (c22 : ¬ r21.toInt = (39)) (hr23 : y1.toInt < r23.toInt ∧ r23.toInt ≤ (st 1).toInt ∧ 0 ≤ n24.toInt ∧ n24.toInt ≤ r23.toInt ∧ TKok A27 B30 A29 n24.toInt) : ((st 1).toInt - r23.toInt).toNat < ((st 1).toInt - y1.toInt).toNat := by
  first | trivial | omega | (simp; done) | (simp; omega) | (simp_all; done) | (simp_all; omega)
theorem v_cut_13 (st : Nat → Int32) (ar : Nat → Nat → Int32) (lo : Nat → Nat → Int64) (re : Nat → UInt64) (y1 : Int32) (z2 : Int32) (z3 : Int32) (z4 : Int32) (Z5 : Nat → Int32) (Z6 : Nat → Int32) (Z7 : Nat → Int32) (J8 : Nat → Int64) (r15 : Int32) (r17 : Int32) (r19 : Int32) (r21 : Int32) (hpre : 0 ≤ (st 1).toInt ∧ (st 1).toInt ≤ 40) (hi7 : 0 ≤ y1.toInt ∧ y1.toInt ≤ (st 1).toInt ∧ 0 ≤ z2.toInt ∧ z2.toInt ≤ y1.toInt ∧ TKok Z5 J8 Z7 z2.toInt) (c9 : y1.toInt < (st 1).toInt) (c12 : z3.toInt = (0)) (hr15 : (y1.toInt < (st 1).toInt ∧ r15.toInt = ((ar 2) y1.toNatClampNeg).toInt) ∨ ((st 1).toInt ≤ y1.toInt ∧ r15.toInt = 0)) (c16 : ¬ r15.toInt = (32)) (hr17 : (r17.toInt = 0 ∧ ¬ (y1.toInt < (st 1).toInt ∧ 48 ≤ ((ar 2) y1.toNatClampNeg).toInt ∧ ((ar 2) y1.toNatClampNeg).toInt ≤ 57)) ∨ (r17.toInt = 1 ∧ (y1.toInt < (st 1).toInt ∧ 48 ≤ ((ar 2) y1.toNatClampNeg).toInt ∧ ((ar 2) y1.toNatClampNeg).toInt ≤ 57))) (c18 : r17.toInt = (0)) (hr19 : (r19.toInt = 0 ∧ ¬ (y1.toInt < (st 1).toInt ∧ 97 ≤ ((ar 2) y1.toNatClampNeg).toInt ∧ ((ar 2) y1.toNatClampNeg).toInt ≤ 122)) ∨ (r19.toInt = 1 ∧ (y1.toInt < (st 1).toInt ∧ 97 ≤ ((ar 2) y1.toNatClampNeg).toInt ∧ ((ar 2) y1.toNatClampNeg).toInt ≤ 122))) (c20 : r19.toInt = (0)) (hr21 : (y1.toInt < (st 1).toInt ∧ r21.toInt = ((ar 2) y1.toNatClampNeg).toInt) ∨ ((st 1).toInt ≤ y1.toInt ∧ r21.toInt = 0)) (c22 : r21.toInt = (39)) : 0 ≤ (st 1).toInt ∧ (st 1).toInt ≤ 40 ∧ 0 ≤ z2.toInt ∧ z2.toInt ≤ y1.toInt ∧ y1.toInt < (st 1).toInt ∧ TKok Z5 J8 Z7 z2.toInt := by
  first | trivial | omega | (simp; done) | (simp; omega) | (simp_all; done) | (simp_all; omega)
theorem v_cut_14 (st : Nat → Int32) (ar : Nat → Nat → Int32) (lo : Nat → Nat → Int64) (re : Nat → UInt64) (y1 : Int32) (z2 : Int32) (z3 : Int32) (z4 : Int32) (Z5 : Nat → Int32) (Z6 : Nat → Int32) (Z7 : Nat → Int32) (J8 : Nat → Int64) (r15 : Int32) (r17 : Int32) (r19 : Int32) (r21 : Int32) (n32 : Int32) (n33 : Int32) (n34 : Int32) (A35 : Nat → Int32) (A36 : Nat → Int32) (A37 : Nat → Int32) (B38 : Nat → Int64) (r31 : Int32) (hpre : 0 ≤ (st 1).toInt ∧ (st 1).toInt ≤ 40) (hi7 : 0 ≤ y1.toInt ∧ y1.toInt ≤ (st 1).toInt ∧ 0 ≤ z2.toInt ∧ z2.toInt ≤ y1.toInt ∧ TKok Z5 J8 Z7 z2.toInt) (c9 : y1.toInt < (st 1).toInt) (c12 : z3.toInt = (0)) (hr15 : (y1.toInt < (st 1).toInt ∧ r15.toInt = ((ar 2) y1.toNatClampNeg).toInt) ∨ ((st 1).toInt ≤ y1.toInt ∧ r15.toInt = 0)) (c16 : ¬ r15.toInt = (32)) (hr17 : (r17.toInt = 0 ∧ ¬ (y1.toInt < (st 1).toInt ∧ 48 ≤ ((ar 2) y1.toNatClampNeg).toInt ∧ ((ar 2) y1.toNatClampNeg).toInt ≤ 57)) ∨ (r17.toInt = 1 ∧ (y1.toInt < (st 1).toInt ∧ 48 ≤ ((ar 2) y1.toNatClampNeg).toInt ∧ ((ar 2) y1.toNatClampNeg).toInt ≤ 57))) (c18 : r17.toInt = (0)) (hr19 : (r19.toInt = 0 ∧ ¬ (y1.toInt < (st 1).toInt ∧ 97 ≤ ((ar 2) y1.toNatClampNeg).toInt ∧ ((ar 2) y1.toNatClampNeg).toInt ≤ 122)) ∨ (r19.toInt = 1 ∧ (y1.toInt < (st 1).toInt ∧ 97 ≤ ((ar 2) y1.toNatClampNeg).toInt ∧ ((ar 2) y1.toNatClampNeg).toInt ≤ 122))) (c20 : r19.toInt = (0)) (hr21 : (y1.toInt < (st 1).toInt ∧ r21.toInt = ((ar 2) y1.toNatClampNeg).toInt) ∨ ((st 1).toInt ≤ y1.toInt ∧ r21.toInt = 0)) (c22 : r21.toInt = (39)) (hr31 : y1.toInt < r31.toInt ∧ r31.toInt ≤ (st 1).toInt ∧ 0 ≤ n32.toInt ∧ n32.toInt ≤ r31.toInt ∧ TKok A35 B38 A37 n32.toInt) : 0 ≤ r31.toInt ∧ r31.toInt ≤ (st 1).toInt ∧ 0 ≤ n32.toInt ∧ n32.toInt ≤ r31.toInt ∧ TKok A35 B38 A37 n32.toInt := by
  first | trivial | omega | (simp; done) | (simp; omega) | (simp_all; done) | (simp_all; omega)
theorem v_cut_15 (st : Nat → Int32) (ar : Nat → Nat → Int32) (lo : Nat → Nat → Int64) (re : Nat → UInt64) (y1 : Int32) (z2 : Int32) (z3 : Int32) (z4 : Int32) (Z5 : Nat → Int32) (Z6 : Nat → Int32) (Z7 : Nat → Int32) (J8 : Nat → Int64) (r15 : Int32) (r17 : Int32) (r19 : Int32) (r21 : Int32) (n32 : Int32) (n33 : Int32) (n34 : Int32) (A35 : Nat → Int32) (A36 : Nat → Int32) (A37 : Nat → Int32) (B38 : Nat → Int64) (r31 : Int32) (hpre : 0 ≤ (st 1).toInt ∧ (st 1).toInt ≤ 40) (hi7 : 0 ≤ y1.toInt ∧ y1.toInt ≤ (st 1).toInt ∧ 0 ≤ z2.toInt ∧ z2.toInt ≤ y1.toInt ∧ TKok Z5 J8 Z7 z2.toInt) (c9 : y1.toInt < (st 1).toInt) (c12 : z3.toInt = (0)) (hr15 : (y1.toInt < (st 1).toInt ∧ r15.toInt = ((ar 2) y1.toNatClampNeg).toInt) ∨ ((st 1).toInt ≤ y1.toInt ∧ r15.toInt = 0)) (c16 : ¬ r15.toInt = (32)) (hr17 : (r17.toInt = 0 ∧ ¬ (y1.toInt < (st 1).toInt ∧ 48 ≤ ((ar 2) y1.toNatClampNeg).toInt ∧ ((ar 2) y1.toNatClampNeg).toInt ≤ 57)) ∨ (r17.toInt = 1 ∧ (y1.toInt < (st 1).toInt ∧ 48 ≤ ((ar 2) y1.toNatClampNeg).toInt ∧ ((ar 2) y1.toNatClampNeg).toInt ≤ 57))) (c18 : r17.toInt = (0)) (hr19 : (r19.toInt = 0 ∧ ¬ (y1.toInt < (st 1).toInt ∧ 97 ≤ ((ar 2) y1.toNatClampNeg).toInt ∧ ((ar 2) y1.toNatClampNeg).toInt ≤ 122)) ∨ (r19.toInt = 1 ∧ (y1.toInt < (st 1).toInt ∧ 97 ≤ ((ar 2) y1.toNatClampNeg).toInt ∧ ((ar 2) y1.toNatClampNeg).toInt ≤ 122))) (c20 : r19.toInt = (0)) (hr21 : (y1.toInt < (st 1).toInt ∧ r21.toInt = ((ar 2) y1.toNatClampNeg).toInt) ∨ ((st 1).toInt ≤ y1.toInt ∧ r21.toInt = 0)) (c22 : r21.toInt = (39)) (hr31 : y1.toInt < r31.toInt ∧ r31.toInt ≤ (st 1).toInt ∧ 0 ≤ n32.toInt ∧ n32.toInt ≤ r31.toInt ∧ TKok A35 B38 A37 n32.toInt) : ((st 1).toInt - r31.toInt).toNat < ((st 1).toInt - y1.toInt).toNat := by
  first | trivial | omega | (simp; done) | (simp; omega) | (simp_all; done) | (simp_all; omega)
theorem v_cut_16 (st : Nat → Int32) (ar : Nat → Nat → Int32) (lo : Nat → Nat → Int64) (re : Nat → UInt64) (y1 : Int32) (z2 : Int32) (z3 : Int32) (z4 : Int32) (Z5 : Nat → Int32) (Z6 : Nat → Int32) (Z7 : Nat → Int32) (J8 : Nat → Int64) (r15 : Int32) (r17 : Int32) (r19 : Int32) (hpre : 0 ≤ (st 1).toInt ∧ (st 1).toInt ≤ 40) (hi7 : 0 ≤ y1.toInt ∧ y1.toInt ≤ (st 1).toInt ∧ 0 ≤ z2.toInt ∧ z2.toInt ≤ y1.toInt ∧ TKok Z5 J8 Z7 z2.toInt) (c9 : y1.toInt < (st 1).toInt) (c12 : z3.toInt = (0)) (hr15 : (y1.toInt < (st 1).toInt ∧ r15.toInt = ((ar 2) y1.toNatClampNeg).toInt) ∨ ((st 1).toInt ≤ y1.toInt ∧ r15.toInt = 0)) (c16 : ¬ r15.toInt = (32)) (hr17 : (r17.toInt = 0 ∧ ¬ (y1.toInt < (st 1).toInt ∧ 48 ≤ ((ar 2) y1.toNatClampNeg).toInt ∧ ((ar 2) y1.toNatClampNeg).toInt ≤ 57)) ∨ (r17.toInt = 1 ∧ (y1.toInt < (st 1).toInt ∧ 48 ≤ ((ar 2) y1.toNatClampNeg).toInt ∧ ((ar 2) y1.toNatClampNeg).toInt ≤ 57))) (c18 : r17.toInt = (0)) (hr19 : (r19.toInt = 0 ∧ ¬ (y1.toInt < (st 1).toInt ∧ 97 ≤ ((ar 2) y1.toNatClampNeg).toInt ∧ ((ar 2) y1.toNatClampNeg).toInt ≤ 122)) ∨ (r19.toInt = 1 ∧ (y1.toInt < (st 1).toInt ∧ 97 ≤ ((ar 2) y1.toNatClampNeg).toInt ∧ ((ar 2) y1.toNatClampNeg).toInt ≤ 122))) (c20 : ¬ r19.toInt = (0)) : 0 ≤ (st 1).toInt ∧ (st 1).toInt ≤ 40 ∧ 0 ≤ z2.toInt ∧ z2.toInt ≤ y1.toInt ∧ y1.toInt < (st 1).toInt ∧ TKok Z5 J8 Z7 z2.toInt ∧ (y1.toInt < (st 1).toInt ∧ 97 ≤ ((ar 2) y1.toNatClampNeg).toInt ∧ ((ar 2) y1.toNatClampNeg).toInt ≤ 122) := by
  first | trivial | omega | (simp; done) | (simp; omega) | (simp_all; done) | (simp_all; omega)
theorem v_cut_17 (st : Nat → Int32) (ar : Nat → Nat → Int32) (lo : Nat → Nat → Int64) (re : Nat → UInt64) (y1 : Int32) (z2 : Int32) (z3 : Int32) (z4 : Int32) (Z5 : Nat → Int32) (Z6 : Nat → Int32) (Z7 : Nat → Int32) (J8 : Nat → Int64) (r15 : Int32) (r17 : Int32) (r19 : Int32) (n40 : Int32) (n41 : Int32) (n42 : Int32) (A43 : Nat → Int32) (A44 : Nat → Int32) (A45 : Nat → Int32) (B46 : Nat → Int64) (r39 : Int32) (hpre : 0 ≤ (st 1).toInt ∧ (st 1).toInt ≤ 40) (hi7 : 0 ≤ y1.toInt ∧ y1.toInt ≤ (st 1).toInt ∧ 0 ≤ z2.toInt ∧ z2.toInt ≤ y1.toInt ∧ TKok Z5 J8 Z7 z2.toInt) (c9 : y1.toInt < (st 1).toInt) (c12 : z3.toInt = (0)) (hr15 : (y1.toInt < (st 1).toInt ∧ r15.toInt = ((ar 2) y1.toNatClampNeg).toInt) ∨ ((st 1).toInt ≤ y1.toInt ∧ r15.toInt = 0)) (c16 : ¬ r15.toInt = (32)) (hr17 : (r17.toInt = 0 ∧ ¬ (y1.toInt < (st 1).toInt ∧ 48 ≤ ((ar 2) y1.toNatClampNeg).toInt ∧ ((ar 2) y1.toNatClampNeg).toInt ≤ 57)) ∨ (r17.toInt = 1 ∧ (y1.toInt < (st 1).toInt ∧ 48 ≤ ((ar 2) y1.toNatClampNeg).toInt ∧ ((ar 2) y1.toNatClampNeg).toInt ≤ 57))) (c18 : r17.toInt = (0)) (hr19 : (r19.toInt = 0 ∧ ¬ (y1.toInt < (st 1).toInt ∧ 97 ≤ ((ar 2) y1.toNatClampNeg).toInt ∧ ((ar 2) y1.toNatClampNeg).toInt ≤ 122)) ∨ (r19.toInt = 1 ∧ (y1.toInt < (st 1).toInt ∧ 97 ≤ ((ar 2) y1.toNatClampNeg).toInt ∧ ((ar 2) y1.toNatClampNeg).toInt ≤ 122))) (c20 : ¬ r19.toInt = (0)) (hr39 : y1.toInt < r39.toInt ∧ r39.toInt ≤ (st 1).toInt ∧ 0 ≤ n40.toInt ∧ n40.toInt ≤ r39.toInt ∧ TKok A43 B46 A45 n40.toInt) : 0 ≤ r39.toInt ∧ r39.toInt ≤ (st 1).toInt ∧ 0 ≤ n40.toInt ∧ n40.toInt ≤ r39.toInt ∧ TKok A43 B46 A45 n40.toInt := by
  first | trivial | omega | (simp; done) | (simp; omega) | (simp_all; done) | (simp_all; omega)
theorem v_cut_18 (st : Nat → Int32) (ar : Nat → Nat → Int32) (lo : Nat → Nat → Int64) (re : Nat → UInt64) (y1 : Int32) (z2 : Int32) (z3 : Int32) (z4 : Int32) (Z5 : Nat → Int32) (Z6 : Nat → Int32) (Z7 : Nat → Int32) (J8 : Nat → Int64) (r15 : Int32) (r17 : Int32) (r19 : Int32) (n40 : Int32) (n41 : Int32) (n42 : Int32) (A43 : Nat → Int32) (A44 : Nat → Int32) (A45 : Nat → Int32) (B46 : Nat → Int64) (r39 : Int32) (hpre : 0 ≤ (st 1).toInt ∧ (st 1).toInt ≤ 40) (hi7 : 0 ≤ y1.toInt ∧ y1.toInt ≤ (st 1).toInt ∧ 0 ≤ z2.toInt ∧ z2.toInt ≤ y1.toInt ∧ TKok Z5 J8 Z7 z2.toInt) (c9 : y1.toInt < (st 1).toInt) (c12 : z3.toInt = (0)) (hr15 : (y1.toInt < (st 1).toInt ∧ r15.toInt = ((ar 2) y1.toNatClampNeg).toInt) ∨ ((st 1).toInt ≤ y1.toInt ∧ r15.toInt = 0)) (c16 : ¬ r15.toInt = (32)) (hr17 : (r17.toInt = 0 ∧ ¬ (y1.toInt < (st 1).toInt ∧ 48 ≤ ((ar 2) y1.toNatClampNeg).toInt ∧ ((ar 2) y1.toNatClampNeg).toInt ≤ 57)) ∨ (r17.toInt = 1 ∧ (y1.toInt < (st 1).toInt ∧ 48 ≤ ((ar 2) y1.toNatClampNeg).toInt ∧ ((ar 2) y1.toNatClampNeg).toInt ≤ 57))) (c18 : r17.toInt = (0)) (hr19 : (r19.toInt = 0 ∧ ¬ (y1.toInt < (st 1).toInt ∧ 97 ≤ ((ar 2) y1.toNatClampNeg).toInt ∧ ((ar 2) y1.toNatClampNeg).toInt ≤ 122)) ∨ (r19.toInt = 1 ∧ (y1.toInt < (st 1).toInt ∧ 97 ≤ ((ar 2) y1.toNatClampNeg).toInt ∧ ((ar 2) y1.toNatClampNeg).toInt ≤ 122))) (c20 : ¬ r19.toInt = (0)) (hr39 : y1.toInt < r39.toInt ∧ r39.toInt ≤ (st 1).toInt ∧ 0 ≤ n40.toInt ∧ n40.toInt ≤ r39.toInt ∧ TKok A43 B46 A45 n40.toInt) : ((st 1).toInt - r39.toInt).toNat < ((st 1).toInt - y1.toInt).toNat := by
  first | trivial | omega | (simp; done) | (simp; omega) | (simp_all; done) | (simp_all; omega)
theorem v_cut_19 (st : Nat → Int32) (ar : Nat → Nat → Int32) (lo : Nat → Nat → Int64) (re : Nat → UInt64) (y1 : Int32) (z2 : Int32) (z3 : Int32) (z4 : Int32) (Z5 : Nat → Int32) (Z6 : Nat → Int32) (Z7 : Nat → Int32) (J8 : Nat → Int64) (r15 : Int32) (r17 : Int32) (hpre : 0 ≤ (st 1).toInt ∧ (st 1).toInt ≤ 40) (hi7 : 0 ≤ y1.toInt ∧ y1.toInt ≤ (st 1).toInt ∧ 0 ≤ z2.toInt ∧ z2.toInt ≤ y1.toInt ∧ TKok Z5 J8 Z7 z2.toInt) (c9 : y1.toInt < (st 1).toInt) (c12 : z3.toInt = (0)) (hr15 : (y1.toInt < (st 1).toInt ∧ r15.toInt = ((ar 2) y1.toNatClampNeg).toInt) ∨ ((st 1).toInt ≤ y1.toInt ∧ r15.toInt = 0)) (c16 : ¬ r15.toInt = (32)) (hr17 : (r17.toInt = 0 ∧ ¬ (y1.toInt < (st 1).toInt ∧ 48 ≤ ((ar 2) y1.toNatClampNeg).toInt ∧ ((ar 2) y1.toNatClampNeg).toInt ≤ 57)) ∨ (r17.toInt = 1 ∧ (y1.toInt < (st 1).toInt ∧ 48 ≤ ((ar 2) y1.toNatClampNeg).toInt ∧ ((ar 2) y1.toNatClampNeg).toInt ≤ 57))) (c18 : ¬ r17.toInt = (0)) : 0 ≤ (st 1).toInt ∧ (st 1).toInt ≤ 40 ∧ 0 ≤ z2.toInt ∧ z2.toInt ≤ y1.toInt ∧ y1.toInt < (st 1).toInt ∧ TKok Z5 J8 Z7 z2.toInt ∧ (y1.toInt < (st 1).toInt ∧ 48 ≤ ((ar 2) y1.toNatClampNeg).toInt ∧ ((ar 2) y1.toNatClampNeg).toInt ≤ 57) := by
  first | trivial | omega | (simp; done) | (simp; omega) | (simp_all; done) | (simp_all; omega)
theorem v_cut_20 (st : Nat → Int32) (ar : Nat → Nat → Int32) (lo : Nat → Nat → Int64) (re : Nat → UInt64) (y1 : Int32) (z2 : Int32) (z3 : Int32) (z4 : Int32) (Z5 : Nat → Int32) (Z6 : Nat → Int32) (Z7 : Nat → Int32) (J8 : Nat → Int64) (r15 : Int32) (r17 : Int32) (n48 : Int32) (n49 : Int32) (n50 : Int32) (A51 : Nat → Int32) (A52 : Nat → Int32) (A53 : Nat → Int32) (B54 : Nat → Int64) (r47 : Int32) (hpre : 0 ≤ (st 1).toInt ∧ (st 1).toInt ≤ 40) (hi7 : 0 ≤ y1.toInt ∧ y1.toInt ≤ (st 1).toInt ∧ 0 ≤ z2.toInt ∧ z2.toInt ≤ y1.toInt ∧ TKok Z5 J8 Z7 z2.toInt) (c9 : y1.toInt < (st 1).toInt) (c12 : z3.toInt = (0)) (hr15 : (y1.toInt < (st 1).toInt ∧ r15.toInt = ((ar 2) y1.toNatClampNeg).toInt) ∨ ((st 1).toInt ≤ y1.toInt ∧ r15.toInt = 0)) (c16 : ¬ r15.toInt = (32)) (hr17 : (r17.toInt = 0 ∧ ¬ (y1.toInt < (st 1).toInt ∧ 48 ≤ ((ar 2) y1.toNatClampNeg).toInt ∧ ((ar 2) y1.toNatClampNeg).toInt ≤ 57)) ∨ (r17.toInt = 1 ∧ (y1.toInt < (st 1).toInt ∧ 48 ≤ ((ar 2) y1.toNatClampNeg).toInt ∧ ((ar 2) y1.toNatClampNeg).toInt ≤ 57))) (c18 : ¬ r17.toInt = (0)) (hr47 : y1.toInt < r47.toInt ∧ r47.toInt ≤ (st 1).toInt ∧ 0 ≤ n48.toInt ∧ n48.toInt ≤ r47.toInt ∧ TKok A51 B54 A53 n48.toInt) : 0 ≤ r47.toInt ∧ r47.toInt ≤ (st 1).toInt ∧ 0 ≤ n48.toInt ∧ n48.toInt ≤ r47.toInt ∧ TKok A51 B54 A53 n48.toInt := by
  first | trivial | omega | (simp; done) | (simp; omega) | (simp_all; done) | (simp_all; omega)
theorem v_cut_21 (st : Nat → Int32) (ar : Nat → Nat → Int32) (lo : Nat → Nat → Int64) (re : Nat → UInt64) (y1 : Int32) (z2 : Int32) (z3 : Int32) (z4 : Int32) (Z5 : Nat → Int32) (Z6 : Nat → Int32) (Z7 : Nat → Int32) (J8 : Nat → Int64) (r15 : Int32) (r17 : Int32) (n48 : Int32) (n49 : Int32) (n50 : Int32) (A51 : Nat → Int32) (A52 : Nat → Int32) (A53 : Nat → Int32) (B54 : Nat → Int64) (r47 : Int32) (hpre : 0 ≤ (st 1).toInt ∧ (st 1).toInt ≤ 40) (hi7 : 0 ≤ y1.toInt ∧ y1.toInt ≤ (st 1).toInt ∧ 0 ≤ z2.toInt ∧ z2.toInt ≤ y1.toInt ∧ TKok Z5 J8 Z7 z2.toInt) (c9 : y1.toInt < (st 1).toInt) (c12 : z3.toInt = (0)) (hr15 : (y1.toInt < (st 1).toInt ∧ r15.toInt = ((ar 2) y1.toNatClampNeg).toInt) ∨ ((st 1).toInt ≤ y1.toInt ∧ r15.toInt = 0)) (c16 : ¬ r15.toInt = (32)) (hr17 : (r17.toInt = 0 ∧ ¬ (y1.toInt < (st 1).toInt ∧ 48 ≤ ((ar 2) y1.toNatClampNeg).toInt ∧ ((ar 2) y1.toNatClampNeg).toInt ≤ 57)) ∨ (r17.toInt = 1 ∧ (y1.toInt < (st 1).toInt ∧ 48 ≤ ((ar 2) y1.toNatClampNeg).toInt ∧ ((ar 2) y1.toNatClampNeg).toInt ≤ 57))) (c18 : ¬ r17.toInt = (0)) (hr47 : y1.toInt < r47.toInt ∧ r47.toInt ≤ (st 1).toInt ∧ 0 ≤ n48.toInt ∧ n48.toInt ≤ r47.toInt ∧ TKok A51 B54 A53 n48.toInt) : ((st 1).toInt - r47.toInt).toNat < ((st 1).toInt - y1.toInt).toNat := by
  first | trivial | omega | (simp; done) | (simp; omega) | (simp_all; done) | (simp_all; omega)
theorem v_cut_22 (st : Nat → Int32) (ar : Nat → Nat → Int32) (lo : Nat → Nat → Int64) (re : Nat → UInt64) (y1 : Int32) (z2 : Int32) (z3 : Int32) (z4 : Int32) (Z5 : Nat → Int32) (Z6 : Nat → Int32) (Z7 : Nat → Int32) (J8 : Nat → Int64) (r15 : Int32) (x55 : Int32) (hpre : 0 ≤ (st 1).toInt ∧ (st 1).toInt ≤ 40) (hi7 : 0 ≤ y1.toInt ∧ y1.toInt ≤ (st 1).toInt ∧ 0 ≤ z2.toInt ∧ z2.toInt ≤ y1.toInt ∧ TKok Z5 J8 Z7 z2.toInt) (c9 : y1.toInt < (st 1).toInt) (c12 : z3.toInt = (0)) (hr15 : (y1.toInt < (st 1).toInt ∧ r15.toInt = ((ar 2) y1.toNatClampNeg).toInt) ∨ ((st 1).toInt ≤ y1.toInt ∧ r15.toInt = 0)) (c16 : r15.toInt = (32)) (ex55 : x55 = y1 + 1) : x55.toInt = y1.toInt + (1) := by
  have z9 : (1 : Int32).toInt = 1 := by decide +kernel
  rw [ex55, z_add (by omega) (by omega)]; first | done | omega
theorem v_cut_23 (st : Nat → Int32) (ar : Nat → Nat → Int32) (lo : Nat → Nat → Int64) (re : Nat → UInt64) (y1 : Int32) (z2 : Int32) (z3 : Int32) (z4 : Int32) (Z5 : Nat → Int32) (Z6 : Nat → Int32) (Z7 : Nat → Int32) (J8 : Nat → Int64) (r15 : Int32) (x55 : Int32) (hpre : 0 ≤ (st 1).toInt ∧ (st 1).toInt ≤ 40) (hi7 : 0 ≤ y1.toInt ∧ y1.toInt ≤ (st 1).toInt ∧ 0 ≤ z2.toInt ∧ z2.toInt ≤ y1.toInt ∧ TKok Z5 J8 Z7 z2.toInt) (c9 : y1.toInt < (st 1).toInt) (c12 : z3.toInt = (0)) (hr15 : (y1.toInt < (st 1).toInt ∧ r15.toInt = ((ar 2) y1.toNatClampNeg).toInt) ∨ ((st 1).toInt ≤ y1.toInt ∧ r15.toInt = 0)) (c16 : r15.toInt = (32)) (ex55 : x55 = y1 + 1) (tx55 : x55.toInt = y1.toInt + (1)) : 0 ≤ x55.toInt ∧ x55.toInt ≤ (st 1).toInt ∧ 0 ≤ z2.toInt ∧ z2.toInt ≤ x55.toInt ∧ TKok Z5 J8 Z7 z2.toInt := by
  first | trivial | omega | (simp; done) | (simp; omega) | (simp_all; done) | (simp_all; omega)
theorem v_cut_24 (st : Nat → Int32) (ar : Nat → Nat → Int32) (lo : Nat → Nat → Int64) (re : Nat → UInt64) (y1 : Int32) (z2 : Int32) (z3 : Int32) (z4 : Int32) (Z5 : Nat → Int32) (Z6 : Nat → Int32) (Z7 : Nat → Int32) (J8 : Nat → Int64) (r15 : Int32) (x55 : Int32) (hpre : 0 ≤ (st 1).toInt ∧ (st 1).toInt ≤ 40) (hi7 : 0 ≤ y1.toInt ∧ y1.toInt ≤ (st 1).toInt ∧ 0 ≤ z2.toInt ∧ z2.toInt ≤ y1.toInt ∧ TKok Z5 J8 Z7 z2.toInt) (c9 : y1.toInt < (st 1).toInt) (c12 : z3.toInt = (0)) (hr15 : (y1.toInt < (st 1).toInt ∧ r15.toInt = ((ar 2) y1.toNatClampNeg).toInt) ∨ ((st 1).toInt ≤ y1.toInt ∧ r15.toInt = 0)) (c16 : r15.toInt = (32)) (ex55 : x55 = y1 + 1) (tx55 : x55.toInt = y1.toInt + (1)) : ((st 1).toInt - x55.toInt).toNat < ((st 1).toInt - y1.toInt).toNat := by
  first | trivial | omega | (simp; done) | (simp; omega) | (simp_all; done) | (simp_all; omega)
def wqM_thrown0 : List Cond := [.code yX12_thrown cX12_thrown 1 (some .int), .fieldLink RX12 127 "PhraseDeskModel" "threw" "I"]
def wqM_thrown : List Cond := wqM_thrown0 ++ wsX120
set_option maxHeartbeats 4000000 in
set_option maxRecDepth 100000 in
theorem M_thrown (l : Launch) (D : va_G) (cy : Nat → ClassId) (sz0 : Nat) (sa : Nat → Nat) (ad : Nat → Nat) (st : Nat → Int32) (ar : Nat → Nat → Int32) (lo : Nat → Nat → Int64) (re : Nat → UInt64) (sz : Nat)  (hpre : True) : Met l yX12_thrown wqM_thrown ({ frames := 0, cells := 0, slots := 0, locals := 0 }) (PcW D cy sz0 sa [.ref (ad 0)] (MW cy ad st ar lo re) sz) (va_Qi (fun (r : Int32) (u : Unit) => r = (st 0)) (fun (u : Unit) (t : State) => BW D (MW cy ad st ar lo re) (va_A (MW cy ad st ar lo re) sz) t) (va_A (MW cy ad st ar lo re) sz)) 0 0 (va_A (MW cy ad st ar lo re) sz) := by
  refine Met.ofW (cc := cX12_thrown) (maxL := 1) (ret := (some .int)) (by decide) rfl ?_
  intro p e s m args below meth c s₁ B hml hv
  obtain ⟨rfl, hsz, hP, hD0, hE⟩ := hv
  have hx := B.exec
  have hb := B.bytes
  have hr := B.returns
  have hts := atoms_spec (ws := wqM_thrown) B.pre
  have hown : s.vm.findClass RX12 = some m.cls := findClass_of_methodNamed B.named
  have hlocks := B.notSynchronized
  subst hsz
  have hK := hE.1
  have hD := hD0.self (sz := s.heap.size)
  have hAF := frA hD0 hE.2.1
  generalize hAe : va_A (MW cy ad st ar lo re) s.heap.size = A at hD hAF ⊢
  have hA : ∀ q : Nat, s.heap.size ≤ q → A q := fun q h => by rw [← hAe]; exact Or.inr h
  have hS : va_S A s.heap s.heap [] := va_S.rf
  have hl := lv_entry ([.ref (ad 0)]) (n := 1) (Nat.le_of_ble_eq_true rfl)
  rw [lg_entry_eq]
  generalize (lg_sl ([.ref (ad 0)]) ++ List.replicate (1 - (lg_sl ([.ref (ad 0)])).length) Slot.unset).toArray = ls at hl ⊢
  have hl : lv_has ls 1 [(0, .ref (ad 0))] := hl
  refine lv_aload_n hx hb dX12_thrown_0 rfl (lv_at hl 0 rfl) ?_
  refine va_get (D := D) (ci := 14) (v := .int (st 0)) (C := RX12) (T := TX12) (N := 60) hx hb hts (fun _ h => (List.mem_append_right _ h)) hown hK hP 0 rfl rfl 0 (by decide) (hts (.fieldLink RX12 127 "PhraseDeskModel" "threw" "I") (List.mem_of_getElem? (i := 1) rfl)) (fun _ h9 => h9) rfl dX12_thrown_1 ?_
  refine W.widen (k := 0) (n := 0) (Nat.le_of_ble_eq_true rfl) (Nat.le_of_ble_eq_true rfl) ?_
  exact W.iret (v := (st 0)) hx hb hr (fun t ht hW => ⟨⟨(st 0), (), rfl, (v_thrown_1 st ar lo re hpre), by rw [ht]; exact hP, hD⟩, hS.F ht⟩) hS.2.2 dX12_thrown_4

def wqM_at0 : List Cond := [.code yX12_at cX12_at 2 (some .int), .fieldLink RX12 131 "PhraseDeskModel" "size" "I", .fieldLink RX12 7 "PhraseDeskModel" "letters" "[I"]
def wqM_at : List Cond := wqM_at0 ++ wsX120
set_option maxHeartbeats 4000000 in
set_option maxRecDepth 100000 in
theorem M_at (l : Launch) (D : va_G) (cy : Nat → ClassId) (sz0 : Nat) (sa : Nat → Nat) (ad : Nat → Nat) (st : Nat → Int32) (ar : Nat → Nat → Int32) (lo : Nat → Nat → Int64) (re : Nat → UInt64) (sz : Nat) (k0 : Int32) (hpre : 0 ≤ (st 1).toInt ∧ (st 1).toInt ≤ 40 ∧ 0 ≤ k0.toInt) : Met l yX12_at wqM_at ({ frames := 0, cells := 0, slots := 0, locals := 0 }) (PcW D cy sz0 sa [.ref (ad 0), .int k0] (MW cy ad st ar lo re) sz) (va_Qi (fun (r : Int32) (u : Unit) => (k0.toInt < (st 1).toInt ∧ r.toInt = ((ar 2) k0.toNatClampNeg).toInt) ∨ ((st 1).toInt ≤ k0.toInt ∧ r.toInt = 0)) (fun (u : Unit) (t : State) => BW D (MW cy ad st ar lo re) (va_A (MW cy ad st ar lo re) sz) t) (va_A (MW cy ad st ar lo re) sz)) 0 0 (va_A (MW cy ad st ar lo re) sz) := by
  refine Met.ofW (cc := cX12_at) (maxL := 2) (ret := (some .int)) (by decide) rfl ?_
  intro p e s m args below meth c s₁ B hml hv
  obtain ⟨rfl, hsz, hP, hD0, hE⟩ := hv
  have hx := B.exec
  have hb := B.bytes
  have hr := B.returns
  have hts := atoms_spec (ws := wqM_at) B.pre
  have hown : s.vm.findClass RX12 = some m.cls := findClass_of_methodNamed B.named
  have hlocks := B.notSynchronized
  subst hsz
  have hK := hE.1
  have hD := hD0.self (sz := s.heap.size)
  have hAF := frA hD0 hE.2.1
  generalize hAe : va_A (MW cy ad st ar lo re) s.heap.size = A at hD hAF ⊢
  have hA : ∀ q : Nat, s.heap.size ≤ q → A q := fun q h => by rw [← hAe]; exact Or.inr h
  have hS : va_S A s.heap s.heap [] := va_S.rf
  have hl := lv_entry ([.ref (ad 0), .int k0]) (n := 2) (Nat.le_of_ble_eq_true rfl)
  rw [lg_entry_eq]
  generalize (lg_sl ([.ref (ad 0), .int k0]) ++ List.replicate (2 - (lg_sl ([.ref (ad 0), .int k0])).length) Slot.unset).toArray = ls at hl ⊢
  have hl : lv_has ls 2 [(0, .ref (ad 0)), (1, .int k0)] := hl
  refine lv_iload_n hx hb dX12_at_0 rfl (lv_at hl 1 rfl) ?_
  refine lv_aload_n hx hb dX12_at_1 rfl (lv_at hl 0 rfl) ?_
  refine va_get (D := D) (ci := 14) (v := .int (st 1)) (C := RX12) (T := TX12) (N := 60) hx hb hts (fun _ h => (List.mem_append_right _ h)) hown hK hP 0 rfl rfl 1 (by decide) (hts (.fieldLink RX12 131 "PhraseDeskModel" "size" "I") (List.mem_of_getElem? (i := 1) rfl)) (fun _ h9 => h9) rfl dX12_at_2 ?_
  refine lv_icmp_ge (tgt := 17) hx hb dX12_at_5 (by decide) (fun c1 => ?_) (fun c1 => ?_)
  · have c1 : (st 1).toInt ≤ k0.toInt := by have h := z_le c1; exact h
    refine lv_iconst (v := 0) hx hb dX12_at_17 (by decide +kernel) ?_
    refine W.widen (k := 0) (n := 0) (Nat.le_of_ble_eq_true rfl) (Nat.le_of_ble_eq_true rfl) ?_
    exact W.iret (v := 0) hx hb hr (fun t ht hW => ⟨⟨0, (), rfl, (v_at_1 st ar lo re k0 hpre c1), by rw [ht]; exact hP, hD⟩, hS.F ht⟩) hS.2.2 dX12_at_18
  · have c1 : k0.toInt < (st 1).toInt := by have h := z_nle c1; exact h
    refine lv_aload_n hx hb dX12_at_8 rfl (lv_at hl 0 rfl) ?_
    refine va_get (D := D) (ci := 14) (v := .ref (ad 2)) (C := RX12) (T := TX12) (N := 60) hx hb hts (fun _ h => (List.mem_append_right _ h)) hown hK hP 0 rfl rfl 2 (by decide) (hts (.fieldLink RX12 7 "PhraseDeskModel" "letters" "[I") (List.mem_of_getElem? (i := 2) rfl)) (fun _ h9 => h9) rfl dX12_at_9 ?_
    refine lv_iload_n hx hb dX12_at_12 rfl (lv_at hl 1 rfl) ?_
    refine va_iald hx hb hK hP 1 0 rfl rfl (v_at_2 st ar lo re k0 hpre c1) dX12_at_13 ?_
    refine lv_topi (fun x2 ex2 => ?_)
    have ex2 : x2 = (ar 2) k0.toNatClampNeg := ex2
    refine lv_goto (tgt := 18) hx hb dX12_at_14 (by decide) ?_
    refine W.widen (k := 0) (n := 0) (Nat.le_of_ble_eq_true rfl) (Nat.le_of_ble_eq_true rfl) ?_
    exact W.iret (v := x2) hx hb hr (fun t ht hW => ⟨⟨x2, (), rfl, (v_at_3 st ar lo re k0 x2 hpre c1 ex2), by rw [ht]; exact hP, hD⟩, hS.F ht⟩) hS.2.2 dX12_at_18

def wqM_lower0 : List Cond := [.code yX12_lower cX12_lower 2 (some .boolean), .methodLink RX12 134 yX12_at, .instanceMethod yX12_at, .selects RX12 yX12_at yX12_at, .initialized RX12, .code yX12_at cX12_at 2 (some .int), .fieldLink RX12 131 "PhraseDeskModel" "size" "I", .fieldLink RX12 7 "PhraseDeskModel" "letters" "[I"]
def wqM_lower : List Cond := wqM_lower0 ++ wsX120
set_option maxHeartbeats 4000000 in
set_option maxRecDepth 100000 in
theorem M_lower (l : Launch) (D : va_G) (cy : Nat → ClassId) (sz0 : Nat) (sa : Nat → Nat) (ad : Nat → Nat) (st : Nat → Int32) (ar : Nat → Nat → Int32) (lo : Nat → Nat → Int64) (re : Nat → UInt64) (sz : Nat) (k0 : Int32) (hpre : 0 ≤ (st 1).toInt ∧ (st 1).toInt ≤ 40 ∧ 0 ≤ k0.toInt) : Met l yX12_lower wqM_lower ({ frames := 1, cells := 0, slots := 0, locals := 21 }) (PcW D cy sz0 sa [.ref (ad 0), .int k0] (MW cy ad st ar lo re) sz) (va_Qi (fun (r : Int32) (u : Unit) => (r.toInt = 0 ∧ ¬ (k0.toInt < (st 1).toInt ∧ 97 ≤ ((ar 2) k0.toNatClampNeg).toInt ∧ ((ar 2) k0.toNatClampNeg).toInt ≤ 122)) ∨ (r.toInt = 1 ∧ (k0.toInt < (st 1).toInt ∧ 97 ≤ ((ar 2) k0.toNatClampNeg).toInt ∧ ((ar 2) k0.toNatClampNeg).toInt ≤ 122))) (fun (u : Unit) (t : State) => BW D (MW cy ad st ar lo re) (va_A (MW cy ad st ar lo re) sz) t) (va_A (MW cy ad st ar lo re) sz)) 0 0 (va_A (MW cy ad st ar lo re) sz) := by
  refine Met.ofW (cc := cX12_lower) (maxL := 2) (ret := (some .boolean)) (by decide) rfl ?_
  intro p e s m args below meth c s₁ B hml hv
  obtain ⟨rfl, hsz, hP, hD0, hE⟩ := hv
  have hx := B.exec
  have hb := B.bytes
  have hr := B.returns
  have hts := atoms_spec (ws := wqM_lower) B.pre
  have hown : s.vm.findClass RX12 = some m.cls := findClass_of_methodNamed B.named
  have hlocks := B.notSynchronized
  subst hsz
  have hK := hE.1
  have hD := hD0.self (sz := s.heap.size)
  have hAF := frA hD0 hE.2.1
  generalize hAe : va_A (MW cy ad st ar lo re) s.heap.size = A at hD hAF ⊢
  have hA : ∀ q : Nat, s.heap.size ≤ q → A q := fun q h => by rw [← hAe]; exact Or.inr h
  have hS : va_S A s.heap s.heap [] := va_S.rf
  have hl := lv_entry ([.ref (ad 0), .int k0]) (n := 2) (Nat.le_of_ble_eq_true rfl)
  rw [lg_entry_eq]
  generalize (lg_sl ([.ref (ad 0), .int k0]) ++ List.replicate (2 - (lg_sl ([.ref (ad 0), .int k0])).length) Slot.unset).toArray = ls at hl ⊢
  have hl : lv_has ls 2 [(0, .ref (ad 0)), (1, .int k0)] := hl
  refine lv_aload_n hx hb dX12_lower_0 rfl (lv_at hl 0 rfl) ?_
  refine lv_iload_n hx hb dX12_lower_1 rfl (lv_at hl 1 rfl) ?_
  have hFc := freeAll hD hS hA
  refine va_calli (va_runV (As := [.int k0]) (rest := []) ⟨hx, hb, hml, hown, hts⟩ (M_at l D cy sz0 sa ad st ar lo re s.heap.size k0 (v_lower_1 st ar lo re k0 hpre)) (cwV 1 hts (goodIn_app (goodIn_r _ [1, 2, 3, 4] rfl (by decide +kernel)) (goodIn_app (goodIn_r wqM_at0 [5, 6, 7] rfl (by decide +kernel)) (goodIn_sub (fun _ h => (List.mem_append_right _ h)) (by decide +kernel)))) rfl rfl rfl (by decide +kernel) ⟨Nat.le_of_ble_eq_true rfl, Nat.le_of_ble_eq_true rfl⟩) ⟨PcW.blind, va_recv hK hP (ci := 14) (q0 := 0) rfl rfl, PcW.mk hE hS hAF hP hD⟩ rfl rfl hl.1 rfl (lv_room (Nat.le_of_ble_eq_true rfl)) dX12_lower_2 ⟨Nat.le_of_ble_eq_true rfl, Nat.le_of_ble_eq_true rfl⟩) hS (fun q _ h => hFc q h) hFc (fun r1 u t H1 locs ht hvm hw hB hz1 hk1 hS => ?_)
  have hr1 : (k0.toInt < (st 1).toInt ∧ r1.toInt = ((ar 2) k0.toNatClampNeg).toInt) ∨ ((st 1).toInt ≤ k0.toInt ∧ r1.toInt = 0) := hw
  obtain ⟨hP1, hD1⟩ := hB
  rw [ht] at hP1
  have hD1 := hD1.weaken (fun _ q _ h => hFc q.1 h)
  clear hP hD hFc hk1 hz1
  have hP := hP1
  have hD := hD1
  clear hP1 hD1
  generalize H1 = H at hP hS ⊢
  have hP : va_P D vwCl (MW cy ad st ar lo re) H := hP
  have hD : va_D A (MW cy ad st ar lo re) := hD
  refine W.widen (k := 0) (n := 0) (Nat.le_of_ble_eq_true rfl) (Nat.le_of_ble_eq_true rfl) ?_
  refine lv_bipush (v := 97) hx hb dX12_lower_5 (by decide +kernel) ?_
  refine lv_icmp_lt (tgt := 24) hx hb dX12_lower_7 (by decide) (fun c2 => ?_) (fun c2 => ?_)
  · have c2 : r1.toInt < (97) := by have h := z_lt c2; rw [show (97 : Int32).toInt = 97 from by decide +kernel] at h; exact h
    refine lv_iconst (v := 0) hx hb dX12_lower_24 (by decide +kernel) ?_
    refine W.widen (k := 0) (n := 0) (Nat.le_of_ble_eq_true rfl) (Nat.le_of_ble_eq_true rfl) ?_
    exact W.zret (v := 0) (ty := .boolean) hx hb hr (rfl) (fun t ht hW => ⟨⟨0, (), rfl, (v_lower_2 st ar lo re k0 r1 hpre hr1 c2), by rw [ht]; exact hP, hD⟩, hS.F ht⟩) hS.2.2 dX12_lower_25
  · have c2 : (97) ≤ r1.toInt := by have h := z_nlt c2; rw [show (97 : Int32).toInt = 97 from by decide +kernel] at h; exact h
    refine lv_aload_n hx hb dX12_lower_10 rfl (lv_at hl 0 rfl) ?_
    refine lv_iload_n hx hb dX12_lower_11 rfl (lv_at hl 1 rfl) ?_
    have hFc := freeAll hD hS hA
    refine va_calli (va_runV (As := [.int k0]) (rest := []) ⟨hx, hb, hml, hown, hts⟩ (M_at l D cy sz0 sa ad st ar lo re H.size k0 (v_lower_3 st ar lo re k0 r1 hpre hr1 c2)) (cwV 1 hts (goodIn_app (goodIn_r _ [1, 2, 3, 4] rfl (by decide +kernel)) (goodIn_app (goodIn_r wqM_at0 [5, 6, 7] rfl (by decide +kernel)) (goodIn_sub (fun _ h => (List.mem_append_right _ h)) (by decide +kernel)))) rfl rfl rfl (by decide +kernel) ⟨Nat.le_of_ble_eq_true rfl, Nat.le_of_ble_eq_true rfl⟩) ⟨PcW.blind, va_recv hK hP (ci := 14) (q0 := 0) rfl rfl, PcW.mk hE hS hAF hP hD⟩ rfl rfl hl.1 rfl (lv_room (Nat.le_of_ble_eq_true rfl)) dX12_lower_12 ⟨Nat.le_of_ble_eq_true rfl, Nat.le_of_ble_eq_true rfl⟩) hS (fun q _ h => hFc q h) hFc (fun r3 u t H1 locs ht hvm hw hB hz1 hk1 hS => ?_)
    have hr3 : (k0.toInt < (st 1).toInt ∧ r3.toInt = ((ar 2) k0.toNatClampNeg).toInt) ∨ ((st 1).toInt ≤ k0.toInt ∧ r3.toInt = 0) := hw
    obtain ⟨hP1, hD1⟩ := hB
    rw [ht] at hP1
    have hD1 := hD1.weaken (fun _ q _ h => hFc q.1 h)
    clear hP hD hFc hk1 hz1
    have hP := hP1
    have hD := hD1
    clear hP1 hD1
    generalize H1 = H at hP hS ⊢
    have hP : va_P D vwCl (MW cy ad st ar lo re) H := hP
    have hD : va_D A (MW cy ad st ar lo re) := hD
    refine W.widen (k := 0) (n := 0) (Nat.le_of_ble_eq_true rfl) (Nat.le_of_ble_eq_true rfl) ?_
    refine lv_bipush (v := 122) hx hb dX12_lower_15 (by decide +kernel) ?_
    refine lv_icmp_gt (tgt := 24) hx hb dX12_lower_17 (by decide) (fun c4 => ?_) (fun c4 => ?_)
    · have c4 : (122) < r3.toInt := by have h := z_lt c4; rw [show (122 : Int32).toInt = 122 from by decide +kernel] at h; exact h
      refine lv_iconst (v := 0) hx hb dX12_lower_24 (by decide +kernel) ?_
      refine W.widen (k := 0) (n := 0) (Nat.le_of_ble_eq_true rfl) (Nat.le_of_ble_eq_true rfl) ?_
      exact W.zret (v := 0) (ty := .boolean) hx hb hr (rfl) (fun t ht hW => ⟨⟨0, (), rfl, (v_lower_4 st ar lo re k0 r1 r3 hpre hr1 c2 hr3 c4), by rw [ht]; exact hP, hD⟩, hS.F ht⟩) hS.2.2 dX12_lower_25
    · have c4 : r3.toInt ≤ (122) := by have h := z_nlt c4; rw [show (122 : Int32).toInt = 122 from by decide +kernel] at h; exact h
      refine lv_iconst (v := 1) hx hb dX12_lower_20 (by decide +kernel) ?_
      refine lv_goto (tgt := 25) hx hb dX12_lower_21 (by decide) ?_
      refine W.widen (k := 0) (n := 0) (Nat.le_of_ble_eq_true rfl) (Nat.le_of_ble_eq_true rfl) ?_
      exact W.zret (v := 1) (ty := .boolean) hx hb hr (rfl) (fun t ht hW => ⟨⟨1, (), rfl, (v_lower_5 st ar lo re k0 r1 r3 hpre hr1 c2 hr3 c4), by rw [ht]; exact hP, hD⟩, hS.F ht⟩) hS.2.2 dX12_lower_25

def wqM_wrong0 : List Cond := [.code yX12_wrong cX12_wrong 3 none, .fieldLink RX12 138 "PhraseDeskModel" "error" "I", .fieldLink RX12 141 "PhraseDeskModel" "where" "I"]
def wqM_wrong : List Cond := wqM_wrong0 ++ wsX120
set_option maxHeartbeats 4000000 in
set_option maxRecDepth 100000 in
theorem M_wrong (l : Launch) (D : va_G) (cy : Nat → ClassId) (sz0 : Nat) (sa : Nat → Nat) (ad : Nat → Nat) (st : Nat → Int32) (ar : Nat → Nat → Int32) (lo : Nat → Nat → Int64) (re : Nat → UInt64) (sz : Nat) (k0 : Int32) (k1 : Int32) (hpre : True) : Met l yX12_wrong wqM_wrong ({ frames := 0, cells := 0, slots := 0, locals := 0 }) (PcW D cy sz0 sa [.ref (ad 0), .int k0, .int k1] (MW cy ad st ar lo re) sz) (va_Qv (fun (u : Int32 × Int32) => ((st 8).toInt = 0 → u.1 = k0) ∧ (¬ (st 8).toInt = 0 → u.1 = (st 8))) (fun (u : Int32 × Int32) (t : State) => BW D (MW cy ad (upd (upd st 8 u.1) 9 u.2) ar lo re) (va_A (MW cy ad st ar lo re) sz) t) (va_A (MW cy ad st ar lo re) sz)) 0 0 (va_A (MW cy ad st ar lo re) sz) := by
  refine Met.ofW (cc := cX12_wrong) (maxL := 3) (ret := none) (by decide) rfl ?_
  intro p e s m args below meth c s₁ B hml hv
  obtain ⟨rfl, hsz, hP, hD0, hE⟩ := hv
  have hx := B.exec
  have hb := B.bytes
  have hr := B.returns
  have hts := atoms_spec (ws := wqM_wrong) B.pre
  have hown : s.vm.findClass RX12 = some m.cls := findClass_of_methodNamed B.named
  have hlocks := B.notSynchronized
  subst hsz
  have hK := hE.1
  have hD := hD0.self (sz := s.heap.size)
  have hAF := frA hD0 hE.2.1
  generalize hAe : va_A (MW cy ad st ar lo re) s.heap.size = A at hD hAF ⊢
  have hA : ∀ q : Nat, s.heap.size ≤ q → A q := fun q h => by rw [← hAe]; exact Or.inr h
  have hS : va_S A s.heap s.heap [] := va_S.rf
  have hl := lv_entry ([.ref (ad 0), .int k0, .int k1]) (n := 3) (Nat.le_of_ble_eq_true rfl)
  rw [lg_entry_eq]
  generalize (lg_sl ([.ref (ad 0), .int k0, .int k1]) ++ List.replicate (3 - (lg_sl ([.ref (ad 0), .int k0, .int k1])).length) Slot.unset).toArray = ls at hl ⊢
  have hl : lv_has ls 3 [(0, .ref (ad 0)), (1, .int k0), (2, .int k1)] := hl
  refine lv_aload_n hx hb dX12_wrong_0 rfl (lv_at hl 0 rfl) ?_
  refine va_get (D := D) (ci := 14) (v := .int (st 8)) (C := RX12) (T := TX12) (N := 60) hx hb hts (fun _ h => (List.mem_append_right _ h)) hown hK hP 0 rfl rfl 8 (by decide) (hts (.fieldLink RX12 138 "PhraseDeskModel" "error" "I") (List.mem_of_getElem? (i := 1) rfl)) (fun _ h9 => h9) rfl dX12_wrong_1 ?_
  refine lv_if_ne (tgt := 17) hx hb dX12_wrong_4 (by decide) (fun c1 => ?_) (fun c1 => ?_)
  · have c1 : ¬ (st 8).toInt = (0) := by have h := z_ne c1; rw [show (0 : Int32).toInt = 0 from by decide +kernel] at h; exact h
    refine W.widen (k := 0) (n := 0) (Nat.le_of_ble_eq_true rfl) (Nat.le_of_ble_eq_true rfl) ?_
    exact W.vret hx hb hr (fun t ht hW => ⟨⟨⟨(st 8), (st 9)⟩, rfl, (v_wrong_1 st ar lo re k0 k1 hpre c1), by rw [ht]; exact hP, hD⟩, hS.F ht⟩) hS.2.2 dX12_wrong_17
  · have c1 : (st 8).toInt = (0) := by have h := z_eq c1; rw [show (0 : Int32).toInt = 0 from by decide +kernel] at h; exact h
    refine lv_aload_n hx hb dX12_wrong_7 rfl (lv_at hl 0 rfl) ?_
    refine lv_iload_n hx hb dX12_wrong_8 rfl (lv_at hl 1 rfl) ?_
    refine va_put (D := D) (ci := 14) (v := .int k0) (ty := .int) (C := RX12) (T := TX12) (N := 60) hx hb hts (fun _ h => (List.mem_append_right _ h)) tyX12 tyX12_ok nmX12 hown hK hP hD hS 0 rfl rfl 8 (by decide) (hts (.fieldLink RX12 138 "PhraseDeskModel" "error" "I") (List.mem_of_getElem? (i := 1) rfl)) (fun _ h9 => h9) rfl (by decide +kernel) rfl rfl (Nat.le_of_ble_eq_true rfl) dX12_wrong_9 (fun H locs hP hD hS => ?_)
    have hP : va_P D vwCl (MW cy ad (upd st 8 k0) ar lo re) H := hP
    have hD : va_D A (MW cy ad (upd st 8 k0) ar lo re) := hD
    refine lv_aload_n hx hb dX12_wrong_12 rfl (lv_at hl 0 rfl) ?_
    refine lv_iload_n hx hb dX12_wrong_13 rfl (lv_at hl 2 rfl) ?_
    refine va_put (D := D) (ci := 14) (v := .int k1) (ty := .int) (C := RX12) (T := TX12) (N := 60) hx hb hts (fun _ h => (List.mem_append_right _ h)) tyX12 tyX12_ok nmX12 hown hK hP hD hS 0 rfl rfl 9 (by decide) (hts (.fieldLink RX12 141 "PhraseDeskModel" "where" "I") (List.mem_of_getElem? (i := 2) rfl)) (fun _ h9 => h9) rfl (by decide +kernel) rfl rfl (Nat.le_of_ble_eq_true rfl) dX12_wrong_14 (fun H locs hP hD hS => ?_)
    have hP : va_P D vwCl (MW cy ad (upd (upd st 8 k0) 9 k1) ar lo re) H := hP
    have hD : va_D A (MW cy ad (upd (upd st 8 k0) 9 k1) ar lo re) := hD
    refine W.widen (k := 0) (n := 0) (Nat.le_of_ble_eq_true rfl) (Nat.le_of_ble_eq_true rfl) ?_
    exact W.vret hx hb hr (fun t ht hW => ⟨⟨⟨k0, k1⟩, rfl, (v_wrong_2 st ar lo re k0 k1 hpre c1), by rw [ht]; exact hP, hD⟩, hS.F ht⟩) hS.2.2 dX12_wrong_17

def wqM_digit0 : List Cond := [.code yX12_digit cX12_digit 2 (some .boolean), .methodLink RX12 134 yX12_at, .instanceMethod yX12_at, .selects RX12 yX12_at yX12_at, .initialized RX12, .code yX12_at cX12_at 2 (some .int), .fieldLink RX12 131 "PhraseDeskModel" "size" "I", .fieldLink RX12 7 "PhraseDeskModel" "letters" "[I"]
def wqM_digit : List Cond := wqM_digit0 ++ wsX120
set_option maxHeartbeats 4000000 in
set_option maxRecDepth 100000 in
theorem M_digit (l : Launch) (D : va_G) (cy : Nat → ClassId) (sz0 : Nat) (sa : Nat → Nat) (ad : Nat → Nat) (st : Nat → Int32) (ar : Nat → Nat → Int32) (lo : Nat → Nat → Int64) (re : Nat → UInt64) (sz : Nat) (k0 : Int32) (hpre : 0 ≤ (st 1).toInt ∧ (st 1).toInt ≤ 40 ∧ 0 ≤ k0.toInt) : Met l yX12_digit wqM_digit ({ frames := 1, cells := 0, slots := 0, locals := 21 }) (PcW D cy sz0 sa [.ref (ad 0), .int k0] (MW cy ad st ar lo re) sz) (va_Qi (fun (r : Int32) (u : Unit) => (r.toInt = 0 ∧ ¬ (k0.toInt < (st 1).toInt ∧ 48 ≤ ((ar 2) k0.toNatClampNeg).toInt ∧ ((ar 2) k0.toNatClampNeg).toInt ≤ 57)) ∨ (r.toInt = 1 ∧ (k0.toInt < (st 1).toInt ∧ 48 ≤ ((ar 2) k0.toNatClampNeg).toInt ∧ ((ar 2) k0.toNatClampNeg).toInt ≤ 57))) (fun (u : Unit) (t : State) => BW D (MW cy ad st ar lo re) (va_A (MW cy ad st ar lo re) sz) t) (va_A (MW cy ad st ar lo re) sz)) 0 0 (va_A (MW cy ad st ar lo re) sz) := by
  refine Met.ofW (cc := cX12_digit) (maxL := 2) (ret := (some .boolean)) (by decide) rfl ?_
  intro p e s m args below meth c s₁ B hml hv
  obtain ⟨rfl, hsz, hP, hD0, hE⟩ := hv
  have hx := B.exec
  have hb := B.bytes
  have hr := B.returns
  have hts := atoms_spec (ws := wqM_digit) B.pre
  have hown : s.vm.findClass RX12 = some m.cls := findClass_of_methodNamed B.named
  have hlocks := B.notSynchronized
  subst hsz
  have hK := hE.1
  have hD := hD0.self (sz := s.heap.size)
  have hAF := frA hD0 hE.2.1
  generalize hAe : va_A (MW cy ad st ar lo re) s.heap.size = A at hD hAF ⊢
  have hA : ∀ q : Nat, s.heap.size ≤ q → A q := fun q h => by rw [← hAe]; exact Or.inr h
  have hS : va_S A s.heap s.heap [] := va_S.rf
  have hl := lv_entry ([.ref (ad 0), .int k0]) (n := 2) (Nat.le_of_ble_eq_true rfl)
  rw [lg_entry_eq]
  generalize (lg_sl ([.ref (ad 0), .int k0]) ++ List.replicate (2 - (lg_sl ([.ref (ad 0), .int k0])).length) Slot.unset).toArray = ls at hl ⊢
  have hl : lv_has ls 2 [(0, .ref (ad 0)), (1, .int k0)] := hl
  refine lv_aload_n hx hb dX12_digit_0 rfl (lv_at hl 0 rfl) ?_
  refine lv_iload_n hx hb dX12_digit_1 rfl (lv_at hl 1 rfl) ?_
  have hFc := freeAll hD hS hA
  refine va_calli (va_runV (As := [.int k0]) (rest := []) ⟨hx, hb, hml, hown, hts⟩ (M_at l D cy sz0 sa ad st ar lo re s.heap.size k0 (v_digit_1 st ar lo re k0 hpre)) (cwV 1 hts (goodIn_app (goodIn_r _ [1, 2, 3, 4] rfl (by decide +kernel)) (goodIn_app (goodIn_r wqM_at0 [5, 6, 7] rfl (by decide +kernel)) (goodIn_sub (fun _ h => (List.mem_append_right _ h)) (by decide +kernel)))) rfl rfl rfl (by decide +kernel) ⟨Nat.le_of_ble_eq_true rfl, Nat.le_of_ble_eq_true rfl⟩) ⟨PcW.blind, va_recv hK hP (ci := 14) (q0 := 0) rfl rfl, PcW.mk hE hS hAF hP hD⟩ rfl rfl hl.1 rfl (lv_room (Nat.le_of_ble_eq_true rfl)) dX12_digit_2 ⟨Nat.le_of_ble_eq_true rfl, Nat.le_of_ble_eq_true rfl⟩) hS (fun q _ h => hFc q h) hFc (fun r1 u t H1 locs ht hvm hw hB hz1 hk1 hS => ?_)
  have hr1 : (k0.toInt < (st 1).toInt ∧ r1.toInt = ((ar 2) k0.toNatClampNeg).toInt) ∨ ((st 1).toInt ≤ k0.toInt ∧ r1.toInt = 0) := hw
  obtain ⟨hP1, hD1⟩ := hB
  rw [ht] at hP1
  have hD1 := hD1.weaken (fun _ q _ h => hFc q.1 h)
  clear hP hD hFc hk1 hz1
  have hP := hP1
  have hD := hD1
  clear hP1 hD1
  generalize H1 = H at hP hS ⊢
  have hP : va_P D vwCl (MW cy ad st ar lo re) H := hP
  have hD : va_D A (MW cy ad st ar lo re) := hD
  refine W.widen (k := 0) (n := 0) (Nat.le_of_ble_eq_true rfl) (Nat.le_of_ble_eq_true rfl) ?_
  refine lv_bipush (v := 48) hx hb dX12_digit_5 (by decide +kernel) ?_
  refine lv_icmp_lt (tgt := 24) hx hb dX12_digit_7 (by decide) (fun c2 => ?_) (fun c2 => ?_)
  · have c2 : r1.toInt < (48) := by have h := z_lt c2; rw [show (48 : Int32).toInt = 48 from by decide +kernel] at h; exact h
    refine lv_iconst (v := 0) hx hb dX12_digit_24 (by decide +kernel) ?_
    refine W.widen (k := 0) (n := 0) (Nat.le_of_ble_eq_true rfl) (Nat.le_of_ble_eq_true rfl) ?_
    exact W.zret (v := 0) (ty := .boolean) hx hb hr (rfl) (fun t ht hW => ⟨⟨0, (), rfl, (v_digit_2 st ar lo re k0 r1 hpre hr1 c2), by rw [ht]; exact hP, hD⟩, hS.F ht⟩) hS.2.2 dX12_digit_25
  · have c2 : (48) ≤ r1.toInt := by have h := z_nlt c2; rw [show (48 : Int32).toInt = 48 from by decide +kernel] at h; exact h
    refine lv_aload_n hx hb dX12_digit_10 rfl (lv_at hl 0 rfl) ?_
    refine lv_iload_n hx hb dX12_digit_11 rfl (lv_at hl 1 rfl) ?_
    have hFc := freeAll hD hS hA
    refine va_calli (va_runV (As := [.int k0]) (rest := []) ⟨hx, hb, hml, hown, hts⟩ (M_at l D cy sz0 sa ad st ar lo re H.size k0 (v_digit_3 st ar lo re k0 r1 hpre hr1 c2)) (cwV 1 hts (goodIn_app (goodIn_r _ [1, 2, 3, 4] rfl (by decide +kernel)) (goodIn_app (goodIn_r wqM_at0 [5, 6, 7] rfl (by decide +kernel)) (goodIn_sub (fun _ h => (List.mem_append_right _ h)) (by decide +kernel)))) rfl rfl rfl (by decide +kernel) ⟨Nat.le_of_ble_eq_true rfl, Nat.le_of_ble_eq_true rfl⟩) ⟨PcW.blind, va_recv hK hP (ci := 14) (q0 := 0) rfl rfl, PcW.mk hE hS hAF hP hD⟩ rfl rfl hl.1 rfl (lv_room (Nat.le_of_ble_eq_true rfl)) dX12_digit_12 ⟨Nat.le_of_ble_eq_true rfl, Nat.le_of_ble_eq_true rfl⟩) hS (fun q _ h => hFc q h) hFc (fun r3 u t H1 locs ht hvm hw hB hz1 hk1 hS => ?_)
    have hr3 : (k0.toInt < (st 1).toInt ∧ r3.toInt = ((ar 2) k0.toNatClampNeg).toInt) ∨ ((st 1).toInt ≤ k0.toInt ∧ r3.toInt = 0) := hw
    obtain ⟨hP1, hD1⟩ := hB
    rw [ht] at hP1
    have hD1 := hD1.weaken (fun _ q _ h => hFc q.1 h)
    clear hP hD hFc hk1 hz1
    have hP := hP1
    have hD := hD1
    clear hP1 hD1
    generalize H1 = H at hP hS ⊢
    have hP : va_P D vwCl (MW cy ad st ar lo re) H := hP
    have hD : va_D A (MW cy ad st ar lo re) := hD
    refine W.widen (k := 0) (n := 0) (Nat.le_of_ble_eq_true rfl) (Nat.le_of_ble_eq_true rfl) ?_
    refine lv_bipush (v := 57) hx hb dX12_digit_15 (by decide +kernel) ?_
    refine lv_icmp_gt (tgt := 24) hx hb dX12_digit_17 (by decide) (fun c4 => ?_) (fun c4 => ?_)
    · have c4 : (57) < r3.toInt := by have h := z_lt c4; rw [show (57 : Int32).toInt = 57 from by decide +kernel] at h; exact h
      refine lv_iconst (v := 0) hx hb dX12_digit_24 (by decide +kernel) ?_
      refine W.widen (k := 0) (n := 0) (Nat.le_of_ble_eq_true rfl) (Nat.le_of_ble_eq_true rfl) ?_
      exact W.zret (v := 0) (ty := .boolean) hx hb hr (rfl) (fun t ht hW => ⟨⟨0, (), rfl, (v_digit_4 st ar lo re k0 r1 r3 hpre hr1 c2 hr3 c4), by rw [ht]; exact hP, hD⟩, hS.F ht⟩) hS.2.2 dX12_digit_25
    · have c4 : r3.toInt ≤ (57) := by have h := z_nlt c4; rw [show (57 : Int32).toInt = 57 from by decide +kernel] at h; exact h
      refine lv_iconst (v := 1) hx hb dX12_digit_20 (by decide +kernel) ?_
      refine lv_goto (tgt := 25) hx hb dX12_digit_21 (by decide) ?_
      refine W.widen (k := 0) (n := 0) (Nat.le_of_ble_eq_true rfl) (Nat.le_of_ble_eq_true rfl) ?_
      exact W.zret (v := 1) (ty := .boolean) hx hb hr (rfl) (fun t ht hW => ⟨⟨1, (), rfl, (v_digit_5 st ar lo re k0 r1 r3 hpre hr1 c2 hr3 c4), by rw [ht]; exact hP, hD⟩, hS.F ht⟩) hS.2.2 dX12_digit_25

def wqM_add0 : List Cond := [.code yX12_add cX12_add 5 none, .fieldLink RX12 13 "PhraseDeskModel" "tokenKind" "[I", .fieldLink RX12 144 "PhraseDeskModel" "tokens" "I", .fieldLink RX12 16 "PhraseDeskModel" "tokenAt" "[I", .fieldLink RX12 19 "PhraseDeskModel" "token" "[J", .fieldLink RX12 23 "PhraseDeskModel" "scale" "[I"]
def wqM_add : List Cond := wqM_add0 ++ wsX120
set_option maxHeartbeats 4000000 in
set_option maxRecDepth 100000 in
theorem M_add (l : Launch) (D : va_G) (cy : Nat → ClassId) (sz0 : Nat) (sa : Nat → Nat) (ad : Nat → Nat) (st : Nat → Int32) (ar : Nat → Nat → Int32) (lo : Nat → Nat → Int64) (re : Nat → UInt64) (sz : Nat) (k0 : Int32) (k1 : Int32) (k2 : Int64) (hpre : 0 ≤ (st 3).toInt ∧ (st 3).toInt ≤ 41) : Met l yX12_add wqM_add ({ frames := 0, cells := 0, slots := 0, locals := 0 }) (PcW D cy sz0 sa [.ref (ad 0), .int k0, .int k1, .long k2] (MW cy ad st ar lo re) sz) (va_Qv (fun (u : Int32) => u.toInt = (st 3).toInt + 1) (fun (u : Int32) (t : State) => BW D (MW cy ad (upd st 3 u) (updA (updA (updA ar 4 (upd (ar 4) (st 3).toNatClampNeg k0)) 5 (upd (ar 5) (st 3).toNatClampNeg k1)) 7 (upd (ar 7) (st 3).toNatClampNeg 0)) (updJ lo 6 (vp_updL (lo 6) (st 3).toNatClampNeg k2)) re) (va_A (MW cy ad st ar lo re) sz) t) (va_A (MW cy ad st ar lo re) sz)) 0 0 (va_A (MW cy ad st ar lo re) sz) := by
  refine Met.ofW (cc := cX12_add) (maxL := 5) (ret := none) (by decide) rfl ?_
  intro p e s m args below meth c s₁ B hml hv
  obtain ⟨rfl, hsz, hP, hD0, hE⟩ := hv
  have hx := B.exec
  have hb := B.bytes
  have hr := B.returns
  have hts := atoms_spec (ws := wqM_add) B.pre
  have hown : s.vm.findClass RX12 = some m.cls := findClass_of_methodNamed B.named
  have hlocks := B.notSynchronized
  subst hsz
  have hK := hE.1
  have hD := hD0.self (sz := s.heap.size)
  have hAF := frA hD0 hE.2.1
  generalize hAe : va_A (MW cy ad st ar lo re) s.heap.size = A at hD hAF ⊢
  have hA : ∀ q : Nat, s.heap.size ≤ q → A q := fun q h => by rw [← hAe]; exact Or.inr h
  have hS : va_S A s.heap s.heap [] := va_S.rf
  have hl := lv_entry ([.ref (ad 0), .int k0, .int k1, .long k2]) (n := 5) (Nat.le_of_ble_eq_true rfl)
  rw [lg_entry_eq]
  generalize (lg_sl ([.ref (ad 0), .int k0, .int k1, .long k2]) ++ List.replicate (5 - (lg_sl ([.ref (ad 0), .int k0, .int k1, .long k2])).length) Slot.unset).toArray = ls at hl ⊢
  have hl : lv_has ls 5 [(0, .ref (ad 0)), (1, .int k0), (2, .int k1), (3, .long k2)] := hl
  refine lv_aload_n hx hb dX12_add_0 rfl (lv_at hl 0 rfl) ?_
  refine va_get (D := D) (ci := 14) (v := .ref (ad 4)) (C := RX12) (T := TX12) (N := 60) hx hb hts (fun _ h => (List.mem_append_right _ h)) hown hK hP 0 rfl rfl 4 (by decide) (hts (.fieldLink RX12 13 "PhraseDeskModel" "tokenKind" "[I") (List.mem_of_getElem? (i := 1) rfl)) (fun _ h9 => h9) rfl dX12_add_1 ?_
  refine lv_aload_n hx hb dX12_add_4 rfl (lv_at hl 0 rfl) ?_
  refine va_get (D := D) (ci := 14) (v := .int (st 3)) (C := RX12) (T := TX12) (N := 60) hx hb hts (fun _ h => (List.mem_append_right _ h)) hown hK hP 0 rfl rfl 3 (by decide) (hts (.fieldLink RX12 144 "PhraseDeskModel" "tokens" "I") (List.mem_of_getElem? (i := 2) rfl)) (fun _ h9 => h9) rfl dX12_add_5 ?_
  refine lv_iload_n hx hb dX12_add_8 rfl (lv_at hl 1 rfl) ?_
  refine va_iast hx hb hK hP hD hS 2 0 rfl rfl (v_add_1 st ar lo re k0 k1 k2 hpre) dX12_add_9 (fun H locs hP hD hS => ?_)
  have hP : va_P D vwCl (MW cy ad st (updA ar 4 (upd (ar 4) (st 3).toNatClampNeg k0)) lo re) H := hP
  have hD : va_D A (MW cy ad st (updA ar 4 (upd (ar 4) (st 3).toNatClampNeg k0)) lo re) := hD
  refine lv_aload_n hx hb dX12_add_10 rfl (lv_at hl 0 rfl) ?_
  refine va_get (D := D) (ci := 14) (v := .ref (ad 5)) (C := RX12) (T := TX12) (N := 60) hx hb hts (fun _ h => (List.mem_append_right _ h)) hown hK hP 0 rfl rfl 5 (by decide) (hts (.fieldLink RX12 16 "PhraseDeskModel" "tokenAt" "[I") (List.mem_of_getElem? (i := 3) rfl)) (fun _ h9 => h9) rfl dX12_add_11 ?_
  refine lv_aload_n hx hb dX12_add_14 rfl (lv_at hl 0 rfl) ?_
  refine va_get (D := D) (ci := 14) (v := .int (st 3)) (C := RX12) (T := TX12) (N := 60) hx hb hts (fun _ h => (List.mem_append_right _ h)) hown hK hP 0 rfl rfl 3 (by decide) (hts (.fieldLink RX12 144 "PhraseDeskModel" "tokens" "I") (List.mem_of_getElem? (i := 2) rfl)) (fun _ h9 => h9) rfl dX12_add_15 ?_
  refine lv_iload_n hx hb dX12_add_18 rfl (lv_at hl 2 rfl) ?_
  refine va_iast hx hb hK hP hD hS 3 0 rfl rfl (v_add_2 st ar lo re k0 k1 k2 hpre) dX12_add_19 (fun H locs hP hD hS => ?_)
  have hP : va_P D vwCl (MW cy ad st (updA (updA ar 4 (upd (ar 4) (st 3).toNatClampNeg k0)) 5 (upd (ar 5) (st 3).toNatClampNeg k1)) lo re) H := hP
  have hD : va_D A (MW cy ad st (updA (updA ar 4 (upd (ar 4) (st 3).toNatClampNeg k0)) 5 (upd (ar 5) (st 3).toNatClampNeg k1)) lo re) := hD
  refine lv_aload_n hx hb dX12_add_20 rfl (lv_at hl 0 rfl) ?_
  refine va_get (D := D) (ci := 14) (v := .ref (ad 6)) (C := RX12) (T := TX12) (N := 60) hx hb hts (fun _ h => (List.mem_append_right _ h)) hown hK hP 0 rfl rfl 6 (by decide) (hts (.fieldLink RX12 19 "PhraseDeskModel" "token" "[J") (List.mem_of_getElem? (i := 4) rfl)) (fun _ h9 => h9) rfl dX12_add_21 ?_
  refine lv_aload_n hx hb dX12_add_24 rfl (lv_at hl 0 rfl) ?_
  refine va_get (D := D) (ci := 14) (v := .int (st 3)) (C := RX12) (T := TX12) (N := 60) hx hb hts (fun _ h => (List.mem_append_right _ h)) hown hK hP 0 rfl rfl 3 (by decide) (hts (.fieldLink RX12 144 "PhraseDeskModel" "tokens" "I") (List.mem_of_getElem? (i := 2) rfl)) (fun _ h9 => h9) rfl dX12_add_25 ?_
  refine lv_lload_n hx hb dX12_add_28 rfl (lv_at hl 3 rfl) ?_
  refine va_last hx hb hK hP hD hS 4 1 rfl rfl (v_add_3 st ar lo re k0 k1 k2 hpre) dX12_add_29 (fun H locs hP hD hS => ?_)
  have hP : va_P D vwCl (MW cy ad st (updA (updA ar 4 (upd (ar 4) (st 3).toNatClampNeg k0)) 5 (upd (ar 5) (st 3).toNatClampNeg k1)) (updJ lo 6 (vp_updL (lo 6) (st 3).toNatClampNeg k2)) re) H := hP
  have hD : va_D A (MW cy ad st (updA (updA ar 4 (upd (ar 4) (st 3).toNatClampNeg k0)) 5 (upd (ar 5) (st 3).toNatClampNeg k1)) (updJ lo 6 (vp_updL (lo 6) (st 3).toNatClampNeg k2)) re) := hD
  refine lv_aload_n hx hb dX12_add_30 rfl (lv_at hl 0 rfl) ?_
  refine va_get (D := D) (ci := 14) (v := .ref (ad 7)) (C := RX12) (T := TX12) (N := 60) hx hb hts (fun _ h => (List.mem_append_right _ h)) hown hK hP 0 rfl rfl 7 (by decide) (hts (.fieldLink RX12 23 "PhraseDeskModel" "scale" "[I") (List.mem_of_getElem? (i := 5) rfl)) (fun _ h9 => h9) rfl dX12_add_31 ?_
  refine lv_aload_n hx hb dX12_add_34 rfl (lv_at hl 0 rfl) ?_
  refine va_get (D := D) (ci := 14) (v := .int (st 3)) (C := RX12) (T := TX12) (N := 60) hx hb hts (fun _ h => (List.mem_append_right _ h)) hown hK hP 0 rfl rfl 3 (by decide) (hts (.fieldLink RX12 144 "PhraseDeskModel" "tokens" "I") (List.mem_of_getElem? (i := 2) rfl)) (fun _ h9 => h9) rfl dX12_add_35 ?_
  refine lv_iconst (v := 0) hx hb dX12_add_38 (by decide +kernel) ?_
  refine va_iast hx hb hK hP hD hS 5 0 rfl rfl (v_add_4 st ar lo re k0 k1 k2 hpre) dX12_add_39 (fun H locs hP hD hS => ?_)
  have hP : va_P D vwCl (MW cy ad st (updA (updA (updA ar 4 (upd (ar 4) (st 3).toNatClampNeg k0)) 5 (upd (ar 5) (st 3).toNatClampNeg k1)) 7 (upd (ar 7) (st 3).toNatClampNeg 0)) (updJ lo 6 (vp_updL (lo 6) (st 3).toNatClampNeg k2)) re) H := hP
  have hD : va_D A (MW cy ad st (updA (updA (updA ar 4 (upd (ar 4) (st 3).toNatClampNeg k0)) 5 (upd (ar 5) (st 3).toNatClampNeg k1)) 7 (upd (ar 7) (st 3).toNatClampNeg 0)) (updJ lo 6 (vp_updL (lo 6) (st 3).toNatClampNeg k2)) re) := hD
  refine lv_aload_n hx hb dX12_add_40 rfl (lv_at hl 0 rfl) ?_
  refine lv_dup hx hb dX12_add_41 rfl ?_
  refine va_get (D := D) (ci := 14) (v := .int (st 3)) (C := RX12) (T := TX12) (N := 60) hx hb hts (fun _ h => (List.mem_append_right _ h)) hown hK hP 0 rfl rfl 3 (by decide) (hts (.fieldLink RX12 144 "PhraseDeskModel" "tokens" "I") (List.mem_of_getElem? (i := 2) rfl)) (fun _ h9 => h9) rfl dX12_add_42 ?_
  refine lv_iconst (v := 1) hx hb dX12_add_45 (by decide +kernel) ?_
  refine lv_iadd hx hb dX12_add_46 ?_
  refine lv_topi (fun x1 ex1 => ?_)
  have tx1 := (v_add_5 st ar lo re k0 k1 k2 x1 hpre ex1)
  refine va_put (D := D) (ci := 14) (v := .int x1) (ty := .int) (C := RX12) (T := TX12) (N := 60) hx hb hts (fun _ h => (List.mem_append_right _ h)) tyX12 tyX12_ok nmX12 hown hK hP hD hS 0 rfl rfl 3 (by decide) (hts (.fieldLink RX12 144 "PhraseDeskModel" "tokens" "I") (List.mem_of_getElem? (i := 2) rfl)) (fun _ h9 => h9) rfl (by decide +kernel) rfl rfl (Nat.le_of_ble_eq_true rfl) dX12_add_47 (fun H locs hP hD hS => ?_)
  have hP : va_P D vwCl (MW cy ad (upd st 3 x1) (updA (updA (updA ar 4 (upd (ar 4) (st 3).toNatClampNeg k0)) 5 (upd (ar 5) (st 3).toNatClampNeg k1)) 7 (upd (ar 7) (st 3).toNatClampNeg 0)) (updJ lo 6 (vp_updL (lo 6) (st 3).toNatClampNeg k2)) re) H := hP
  have hD : va_D A (MW cy ad (upd st 3 x1) (updA (updA (updA ar 4 (upd (ar 4) (st 3).toNatClampNeg k0)) 5 (upd (ar 5) (st 3).toNatClampNeg k1)) 7 (upd (ar 7) (st 3).toNatClampNeg 0)) (updJ lo 6 (vp_updL (lo 6) (st 3).toNatClampNeg k2)) re) := hD
  refine W.widen (k := 0) (n := 0) (Nat.le_of_ble_eq_true rfl) (Nat.le_of_ble_eq_true rfl) ?_
  exact W.vret hx hb hr (fun t ht hW => ⟨⟨x1, rfl, (v_add_6 st ar lo re k0 k1 k2 x1 hpre ex1 tx1), by rw [ht]; exact hP, hD⟩, hS.F ht⟩) hS.2.2 dX12_add_50

def wqM_name0 : List Cond := [.code yX12_name cX12_name 5 (some .int), .methodLink RX12 163 yX12_lower, .instanceMethod yX12_lower, .selects RX12 yX12_lower yX12_lower, .initialized RX12, .code yX12_lower cX12_lower 2 (some .boolean), .methodLink RX12 134 yX12_at, .instanceMethod yX12_at, .selects RX12 yX12_at yX12_at, .code yX12_at cX12_at 2 (some .int), .fieldLink RX12 131 "PhraseDeskModel" "size" "I", .fieldLink RX12 7 "PhraseDeskModel" "letters" "[I", .methodLink RX12 159 yX12_add, .instanceMethod yX12_add, .selects RX12 yX12_add yX12_add, .code yX12_add cX12_add 5 none, .fieldLink RX12 13 "PhraseDeskModel" "tokenKind" "[I", .fieldLink RX12 144 "PhraseDeskModel" "tokens" "I", .fieldLink RX12 16 "PhraseDeskModel" "tokenAt" "[I", .fieldLink RX12 19 "PhraseDeskModel" "token" "[J", .fieldLink RX12 23 "PhraseDeskModel" "scale" "[I", .methodLink RX12 155 yX12_wrong, .instanceMethod yX12_wrong, .selects RX12 yX12_wrong yX12_wrong, .code yX12_wrong cX12_wrong 3 none, .fieldLink RX12 138 "PhraseDeskModel" "error" "I", .fieldLink RX12 141 "PhraseDeskModel" "where" "I", .constantLong RX12 166 (27), .constantLong RX12 168 (97)]
def wqM_name : List Cond := wqM_name0 ++ wsX120
set_option maxHeartbeats 4000000 in
set_option maxRecDepth 100000 in
theorem L_name_4_1 {p : Program} {e : Env} {s : State} {m : MethodId} {below : List Frame} {meth : Method} {c : Code} (l : Launch) (D : va_G) (cy : Nat → ClassId) (sz0 : Nat) (sa : Nat → Nat) (ad : Nat → Nat) (A : Nat → Prop) (st : Nat → Int32) (ar : Nat → Nat → Int32) (lo : Nat → Nat → Int64) (re : Nat → UInt64) (k0 : Int32) (hx : p.tables.exec = Jvm.exec) (hb : c.code = cX12_name) (hr : meth.sig.returnType = (some .int)) (hml : c.maxLocals = 5) (hown : s.vm.findClass RX12 = some m.cls) (hts : ∀ w ∈ wqM_name, w.before #[.ref (ad 0), .int k0] s = true) (hlocks : meth.locks = false) (hE : En D cy sz0 sa s) (hAF : ∀ q, A q → Fr sz0 q) (hA : ∀ q : Nat, s.heap.size ≤ q → A q) (hpre : 0 ≤ (st 1).toInt ∧ (st 1).toInt ≤ 40 ∧ 0 ≤ (st 3).toInt ∧ (st 3).toInt ≤ k0.toInt ∧ k0.toInt < (st 1).toInt ∧ TKok (ar 4) (lo 6) (ar 7) (st 3).toInt ∧ (k0.toInt < (st 1).toInt ∧ 97 ≤ ((ar 2) k0.toNatClampNeg).toInt ∧ ((ar 2) k0.toNatClampNeg).toInt ≤ 122)) : ∀ (n : Nat) (y1 : Int32) (y2 : Int64) (H : Heap) (locs : List Loc) (ls : Array Slot), ((st 1).toInt - y1.toInt).toNat < n → (k0.toInt ≤ y1.toInt ∧ y1.toInt ≤ (st 1).toInt ∧ 0 ≤ y2.toInt ∧ ((y1.toInt - k0.toInt = 0 ∧ y2.toInt = 0) ∨ (y1.toInt - k0.toInt = 1 ∧ y2.toInt ≤ 26) ∨ (y1.toInt - k0.toInt = 2 ∧ y2.toInt ≤ 728) ∨ (y1.toInt - k0.toInt = 3 ∧ y2.toInt ≤ 19682) ∨ (y1.toInt - k0.toInt = 4 ∧ y2.toInt ≤ 531440) ∨ (y1.toInt - k0.toInt = 5 ∧ y2.toInt ≤ 14348906) ∨ (6 ≤ y1.toInt - k0.toInt ∧ y2.toInt ≤ 387420488))) → va_P D vwCl (MW cy ad st ar lo re) H → va_D A (MW cy ad st ar lo re) → va_S A s.heap H locs → lv_has ls 5 [(3, .long y2), (2, .int y1), (0, .ref (ad 0)), (1, .int k0)] → W p l e (headSpec wqM_name ({ frames := 2, cells := 0, slots := 0, locals := 42 })).room s m #[.ref (ad 0), .int k0] below meth c H locs 0 0 (MQ below (va_Qi (fun (r : Int32) (u : Int32 × Int32 × Int32 × (Nat → Int32) × (Nat → Int32) × (Nat → Int32) × (Nat → Int64)) => k0.toInt < r.toInt ∧ r.toInt ≤ (st 1).toInt ∧ 0 ≤ u.1.toInt ∧ u.1.toInt ≤ r.toInt ∧ TKok u.2.2.2.1 u.2.2.2.2.2.2 u.2.2.2.2.2.1 u.1.toInt) (fun (u : Int32 × Int32 × Int32 × (Nat → Int32) × (Nat → Int32) × (Nat → Int32) × (Nat → Int64)) (t : State) => BW D (MW cy ad (upd (upd (upd st 3 u.1) 8 u.2.1) 9 u.2.2.1) (updA (updA (updA ar 4 u.2.2.2.1) 5 u.2.2.2.2.1) 7 u.2.2.2.2.2.1) (updJ lo 6 u.2.2.2.2.2.2) re) A t) A) #[.ref (ad 0), .int k0] s 0 0 A) (F0 m 4 ls []) := by
  have hK := hE.1
  intro n
  induction n with
  | zero => intro y1 y2 H locs ls hn; exact absurd hn (Nat.not_lt_zero _)
  | succ n ih4 =>
    intro y1 y2 H locs ls hn4 hi4 hP hD hS hl
    refine lv_aload_n hx hb dX12_name_4 rfl (lv_at hl 2 rfl) ?_
    refine lv_iload_n hx hb dX12_name_5 rfl (lv_at hl 1 rfl) ?_
    have hFc := freeAll hD hS hA
    refine va_calli (va_runV (As := [.int y1]) (rest := []) ⟨hx, hb, hml, hown, hts⟩ (M_lower l D cy sz0 sa ad st ar lo re H.size y1 (v_name_2 st ar lo re k0 y1 y2 hpre hi4)) (cwV 1 hts (goodIn_app (goodIn_r _ [1, 2, 3, 4] rfl (by decide +kernel)) (goodIn_app (goodIn_r wqM_lower0 [5, 6, 7, 8, 4, 9, 10, 11] rfl (by decide +kernel)) (goodIn_sub (fun _ h => (List.mem_append_right _ h)) (by decide +kernel)))) rfl rfl rfl (by decide +kernel) ⟨Nat.le_of_ble_eq_true rfl, Nat.le_of_ble_eq_true rfl⟩) ⟨PcW.blind, va_recv hK hP (ci := 14) (q0 := 0) rfl rfl, PcW.mk hE hS hAF hP hD⟩ rfl rfl hl.1 rfl (lv_room (Nat.le_of_ble_eq_true rfl)) dX12_name_6 ⟨Nat.le_of_ble_eq_true rfl, Nat.le_of_ble_eq_true rfl⟩) hS (fun q _ h => hFc q h) hFc (fun r3 u t H1 locs ht hvm hw hB hz1 hk1 hS => ?_)
    have hr3 : (r3.toInt = 0 ∧ ¬ (y1.toInt < (st 1).toInt ∧ 97 ≤ ((ar 2) y1.toNatClampNeg).toInt ∧ ((ar 2) y1.toNatClampNeg).toInt ≤ 122)) ∨ (r3.toInt = 1 ∧ (y1.toInt < (st 1).toInt ∧ 97 ≤ ((ar 2) y1.toNatClampNeg).toInt ∧ ((ar 2) y1.toNatClampNeg).toInt ≤ 122)) := hw
    obtain ⟨hP1, hD1⟩ := hB
    rw [ht] at hP1
    have hD1 := hD1.weaken (fun _ q _ h => hFc q.1 h)
    clear hP hD hFc hk1 hz1
    have hP := hP1
    have hD := hD1
    clear hP1 hD1
    generalize H1 = H at hP hS ⊢
    have hP : va_P D vwCl (MW cy ad st ar lo re) H := hP
    have hD : va_D A (MW cy ad st ar lo re) := hD
    refine W.widen (k := 0) (n := 0) (Nat.le_of_ble_eq_true rfl) (Nat.le_of_ble_eq_true rfl) ?_
    refine lv_if_eq (tgt := 49) hx hb dX12_name_9 (by decide) (fun c4 => ?_) (fun c4 => ?_)
    · have c4 : r3.toInt = (0) := by have h := z_eq c4; rw [show (0 : Int32).toInt = 0 from by decide +kernel] at h; exact h
      refine lv_iload_n hx hb dX12_name_49 rfl (lv_at hl 1 rfl) ?_
      refine lv_iload_n hx hb dX12_name_50 rfl (lv_at hl 3 rfl) ?_
      refine lv_isub hx hb dX12_name_51 ?_
      refine lv_topi (fun x5 ex5 => ?_)
      have tx5 := (v_name_3 st ar lo re k0 y1 y2 r3 x5 hpre hi4 hr3 c4 ex5)
      refine lv_iconst (v := 5) hx hb dX12_name_52 (by decide +kernel) ?_
      refine lv_icmp_le (tgt := 65) hx hb dX12_name_53 (by decide) (fun c6 => ?_) (fun c6 => ?_)
      · have c6 : x5.toInt ≤ (5) := by have h := z_le c6; rw [show (5 : Int32).toInt = 5 from by decide +kernel] at h; exact h
        refine lv_aload_n hx hb dX12_name_65 rfl (lv_at hl 2 rfl) ?_
        refine lv_iconst (v := 3) hx hb dX12_name_66 (by decide +kernel) ?_
        refine lv_iload_n hx hb dX12_name_67 rfl (lv_at hl 3 rfl) ?_
        refine lv_lload_n hx hb dX12_name_68 rfl (lv_at hl 0 rfl) ?_
        have hFc := freeAll hD hS hA
        refine va_callv (va_runV (As := [.int 3, .int k0, .long y2]) (rest := []) ⟨hx, hb, hml, hown, hts⟩ (M_add l D cy sz0 sa ad st ar lo re H.size 3 k0 y2 (v_name_4 st ar lo re k0 y1 y2 r3 x5 hpre hi4 hr3 c4 ex5 tx5 c6)) (cwV 3 hts (goodIn_app (goodIn_r _ [12, 13, 14, 4] rfl (by decide +kernel)) (goodIn_app (goodIn_r wqM_add0 [15, 16, 17, 18, 19, 20] rfl (by decide +kernel)) (goodIn_sub (fun _ h => (List.mem_append_right _ h)) (by decide +kernel)))) rfl rfl rfl (by decide +kernel) ⟨Nat.le_of_ble_eq_true rfl, Nat.le_of_ble_eq_true rfl⟩) ⟨PcW.blind, va_recv hK hP (ci := 14) (q0 := 0) rfl rfl, PcW.mk hE hS hAF hP hD⟩ rfl rfl hl.1 rfl (lv_room (Nat.le_of_ble_eq_true rfl)) dX12_name_69 ⟨Nat.le_of_ble_eq_true rfl, Nat.le_of_ble_eq_true rfl⟩) hS (fun q _ h => hFc q h) hFc (fun u t H1 locs ht hvm hw hB hz1 hk1 hS => ?_)
        obtain ⟨n8, rfl⟩ : ∃ z, z = u := ⟨_, rfl⟩
        have hr7 : n8.toInt = (st 3).toInt + 1 := hw
        obtain ⟨hP1, hD1⟩ := hB
        rw [ht] at hP1
        have hD1 := hD1.weaken (fun _ q _ h => hFc q.1 h)
        clear hP hD hFc hk1 hz1
        have hP := hP1
        have hD := hD1
        clear hP1 hD1
        generalize H1 = H at hP hS ⊢
        have hP : va_P D vwCl (MW cy ad (upd st 3 n8) (updA (updA (updA ar 4 (upd (ar 4) (st 3).toNatClampNeg (3 : Int32))) 5 (upd (ar 5) (st 3).toNatClampNeg k0)) 7 (upd (ar 7) (st 3).toNatClampNeg 0)) (updJ lo 6 (vp_updL (lo 6) (st 3).toNatClampNeg y2)) re) H := hP
        have hD : va_D A (MW cy ad (upd st 3 n8) (updA (updA (updA ar 4 (upd (ar 4) (st 3).toNatClampNeg (3 : Int32))) 5 (upd (ar 5) (st 3).toNatClampNeg k0)) 7 (upd (ar 7) (st 3).toNatClampNeg 0)) (updJ lo 6 (vp_updL (lo 6) (st 3).toNatClampNeg y2)) re) := hD
        refine W.widen (k := 0) (n := 0) (Nat.le_of_ble_eq_true rfl) (Nat.le_of_ble_eq_true rfl) ?_
        refine lv_iload_n hx hb dX12_name_72 rfl (lv_at hl 1 rfl) ?_
        refine W.widen (k := 0) (n := 0) (Nat.le_of_ble_eq_true rfl) (Nat.le_of_ble_eq_true rfl) ?_
        exact W.iret (v := y1) hx hb hr (fun t ht hW => ⟨⟨y1, ⟨n8, (st 8), (st 9), (upd (ar 4) (st 3).toNatClampNeg (3 : Int32)), (upd (ar 5) (st 3).toNatClampNeg k0), (upd (ar 7) (st 3).toNatClampNeg 0), (vp_updL (lo 6) (st 3).toNatClampNeg y2)⟩, rfl, (v_name_5 st ar lo re k0 y1 y2 r3 x5 n8 hpre hi4 hr3 c4 ex5 tx5 c6 hr7), by rw [ht]; exact hP, hD⟩, hS.F ht⟩) hS.2.2 dX12_name_73
      · have c6 : (5) < x5.toInt := by have h := z_nle c6; rw [show (5 : Int32).toInt = 5 from by decide +kernel] at h; exact h
        refine lv_aload_n hx hb dX12_name_56 rfl (lv_at hl 2 rfl) ?_
        refine lv_iconst (v := 1) hx hb dX12_name_57 (by decide +kernel) ?_
        refine lv_iload_n hx hb dX12_name_58 rfl (lv_at hl 3 rfl) ?_
        have hFc := freeAll hD hS hA
        refine va_callv (va_runV (As := [.int 1, .int k0]) (rest := []) ⟨hx, hb, hml, hown, hts⟩ (M_wrong l D cy sz0 sa ad st ar lo re H.size 1 k0 (v_name_6 st ar lo re k0 y1 y2 r3 x5 hpre hi4 hr3 c4 ex5 tx5 c6)) (cwV 2 hts (goodIn_app (goodIn_r _ [21, 22, 23, 4] rfl (by decide +kernel)) (goodIn_app (goodIn_r wqM_wrong0 [24, 25, 26] rfl (by decide +kernel)) (goodIn_sub (fun _ h => (List.mem_append_right _ h)) (by decide +kernel)))) rfl rfl rfl (by decide +kernel) ⟨Nat.le_of_ble_eq_true rfl, Nat.le_of_ble_eq_true rfl⟩) ⟨PcW.blind, va_recv hK hP (ci := 14) (q0 := 0) rfl rfl, PcW.mk hE hS hAF hP hD⟩ rfl rfl hl.1 rfl (lv_room (Nat.le_of_ble_eq_true rfl)) dX12_name_59 ⟨Nat.le_of_ble_eq_true rfl, Nat.le_of_ble_eq_true rfl⟩) hS (fun q _ h => hFc q h) hFc (fun u t H1 locs ht hvm hw hB hz1 hk1 hS => ?_)
        obtain ⟨n10, n11⟩ := u
        have hr9 : ((st 8).toInt = 0 → n10 = (1 : Int32)) ∧ (¬ (st 8).toInt = 0 → n10 = (st 8)) := hw
        obtain ⟨hP1, hD1⟩ := hB
        rw [ht] at hP1
        have hD1 := hD1.weaken (fun _ q _ h => hFc q.1 h)
        clear hP hD hFc hk1 hz1
        have hP := hP1
        have hD := hD1
        clear hP1 hD1
        generalize H1 = H at hP hS ⊢
        have hP : va_P D vwCl (MW cy ad (upd (upd st 8 n10) 9 n11) ar lo re) H := hP
        have hD : va_D A (MW cy ad (upd (upd st 8 n10) 9 n11) ar lo re) := hD
        refine W.widen (k := 0) (n := 0) (Nat.le_of_ble_eq_true rfl) (Nat.le_of_ble_eq_true rfl) ?_
        refine lv_goto (tgt := 72) hx hb dX12_name_62 (by decide) ?_
        refine lv_iload_n hx hb dX12_name_72 rfl (lv_at hl 1 rfl) ?_
        refine W.widen (k := 0) (n := 0) (Nat.le_of_ble_eq_true rfl) (Nat.le_of_ble_eq_true rfl) ?_
        exact W.iret (v := y1) hx hb hr (fun t ht hW => ⟨⟨y1, ⟨(st 3), n10, n11, (ar 4), (ar 5), (ar 7), (lo 6)⟩, rfl, (v_name_7 st ar lo re k0 y1 y2 r3 x5 n10 n11 hpre hi4 hr3 c4 ex5 tx5 c6 hr9), by rw [ht]; exact hP, hD⟩, hS.F ht⟩) hS.2.2 dX12_name_73
    · have c4 : ¬ r3.toInt = (0) := by have h := z_ne c4; rw [show (0 : Int32).toInt = 0 from by decide +kernel] at h; exact h
      refine lv_iload_n hx hb dX12_name_12 rfl (lv_at hl 1 rfl) ?_
      refine lv_iload_n hx hb dX12_name_13 rfl (lv_at hl 3 rfl) ?_
      refine lv_isub hx hb dX12_name_14 ?_
      refine lv_topi (fun x12 ex12 => ?_)
      have tx12 := (v_name_8 st ar lo re k0 y1 y2 r3 x12 hpre hi4 hr3 c4 ex12)
      refine lv_bipush (v := 6) hx hb dX12_name_15 (by decide +kernel) ?_
      refine lv_icmp_ge (tgt := 41) hx hb dX12_name_17 (by decide) (fun c13 => ?_) (fun c13 => ?_)
      · have c13 : (6) ≤ x12.toInt := by have h := z_le c13; rw [show (6 : Int32).toInt = 6 from by decide +kernel] at h; exact h
        refine lv_lload_n hx hb dX12_name_41 rfl (lv_at hl 0 rfl) ?_
        refine lv_lstore_n (lv' := [(3, .long y2), (2, .int y1), (0, .ref (ad 0)), (1, .int k0)]) hx hb dX12_name_42 rfl hl (by decide) rfl (fun ls hl => ?_)
        obtain ⟨x14, ex14⟩ : ∃ y : Int32, y = y1 + 1 := ⟨_, rfl⟩
        have tx14 := (v_name_9 st ar lo re k0 y1 y2 r3 x12 x14 hpre hi4 hr3 c4 ex12 tx12 c13 ex14)
        refine lv_iinc (v := x14) (lv' := [(2, .int x14), (3, .long y2), (0, .ref (ad 0)), (1, .int k0)]) hx hb dX12_name_43 hl (k := 1) rfl (by rw [ex14]; rfl) (by decide) rfl (fun ls hl => ?_)
        refine lv_goto (tgt := 4) hx hb dX12_name_46 (by decide) ?_
        exact ih4 x14 y2 _ _ _ (Nat.lt_of_lt_of_le (v_name_11 st ar lo re k0 y1 y2 r3 x12 x14 hpre hi4 hr3 c4 ex12 tx12 c13 ex14 tx14) (Nat.le_of_lt_succ hn4)) (v_name_10 st ar lo re k0 y1 y2 r3 x12 x14 hpre hi4 hr3 c4 ex12 tx12 c13 ex14 tx14) hP hD hS (lv_sub hl [1, 0, 2, 3] rfl)
      · have c13 : x12.toInt < (6) := by have h := z_nle c13; rw [show (6 : Int32).toInt = 6 from by decide +kernel] at h; exact h
        refine lv_lload_n hx hb dX12_name_20 rfl (lv_at hl 0 rfl) ?_
        refine lv_ldc2 (v := 27) hx hb hown (hts (.constantLong RX12 166 (27)) (List.mem_of_getElem? (i := 27) rfl)) dX12_name_21 ?_
        refine lv_lmul hx hb dX12_name_24 ?_
        refine lv_topl (fun x15 ex15 => ?_)
        have tx15 : x15.toInt = y2.toInt * 27 := (v_name_12 st ar lo re k0 y1 y2 r3 x12 x15 hpre hi4 hr3 c4 ex12 tx12 c13 ex15)
        refine lv_aload_n hx hb dX12_name_25 rfl (lv_at hl 2 rfl) ?_
        refine lv_iload_n hx hb dX12_name_26 rfl (lv_at hl 1 rfl) ?_
        have hFc := freeAll hD hS hA
        refine va_calli (va_runV (As := [.int y1]) (rest := [.long x15]) ⟨hx, hb, hml, hown, hts⟩ (M_at l D cy sz0 sa ad st ar lo re H.size y1 (v_name_13 st ar lo re k0 y1 y2 r3 x12 x15 hpre hi4 hr3 c4 ex12 tx12 c13 ex15 tx15)) (cwV 1 hts (goodIn_app (goodIn_r _ [6, 7, 8, 4] rfl (by decide +kernel)) (goodIn_app (goodIn_r wqM_at0 [9, 10, 11] rfl (by decide +kernel)) (goodIn_sub (fun _ h => (List.mem_append_right _ h)) (by decide +kernel)))) rfl rfl rfl (by decide +kernel) ⟨Nat.le_of_ble_eq_true rfl, Nat.le_of_ble_eq_true rfl⟩) ⟨PcW.blind, va_recv hK hP (ci := 14) (q0 := 0) rfl rfl, PcW.mk hE hS hAF hP hD⟩ rfl rfl hl.1 rfl (lv_room (Nat.le_of_ble_eq_true rfl)) dX12_name_27 ⟨Nat.le_of_ble_eq_true rfl, Nat.le_of_ble_eq_true rfl⟩) hS (fun q _ h => hFc q h) hFc (fun r16 u t H1 locs ht hvm hw hB hz1 hk1 hS => ?_)
        have hr16 : (y1.toInt < (st 1).toInt ∧ r16.toInt = ((ar 2) y1.toNatClampNeg).toInt) ∨ ((st 1).toInt ≤ y1.toInt ∧ r16.toInt = 0) := hw
        obtain ⟨hP1, hD1⟩ := hB
        rw [ht] at hP1
        have hD1 := hD1.weaken (fun _ q _ h => hFc q.1 h)
        clear hP hD hFc hk1 hz1
        have hP := hP1
        have hD := hD1
        clear hP1 hD1
        generalize H1 = H at hP hS ⊢
        have hP : va_P D vwCl (MW cy ad st ar lo re) H := hP
        have hD : va_D A (MW cy ad st ar lo re) := hD
        refine W.widen (k := 0) (n := 0) (Nat.le_of_ble_eq_true rfl) (Nat.le_of_ble_eq_true rfl) ?_
        refine lv_i2l hx hb dX12_name_30 rfl ?_
        refine lv_topl (fun x17 ex17 => ?_)
        have tx17 : x17.toInt = r16.toInt := by rw [ex17]; exact Int32.toInt_toInt64 _
        refine lv_ladd hx hb dX12_name_31 ?_
        refine lv_topl (fun x18 ex18 => ?_)
        have tx18 : x18.toInt = x15.toInt + x17.toInt := (v_name_14 st ar lo re k0 y1 y2 r3 x12 x15 r16 x17 x18 hpre hi4 hr3 c4 ex12 tx12 c13 ex15 tx15 hr16 ex17 tx17 ex18)
        refine lv_ldc2 (v := 97) hx hb hown (hts (.constantLong RX12 168 (97)) (List.mem_of_getElem? (i := 28) rfl)) dX12_name_32 ?_
        refine lv_lsub hx hb dX12_name_35 ?_
        refine lv_topl (fun x19 ex19 => ?_)
        have tx19 : x19.toInt = x18.toInt - 97 := (v_name_15 st ar lo re k0 y1 y2 r3 x12 x15 r16 x17 x18 x19 hpre hi4 hr3 c4 ex12 tx12 c13 ex15 tx15 hr16 ex17 tx17 ex18 tx18 ex19)
        refine lv_lconst (v := 1) hx hb dX12_name_36 rfl ?_
        refine lv_ladd hx hb dX12_name_37 ?_
        refine lv_topl (fun x20 ex20 => ?_)
        have tx20 : x20.toInt = x19.toInt + 1 := (v_name_16 st ar lo re k0 y1 y2 r3 x12 x15 r16 x17 x18 x19 x20 hpre hi4 hr3 c4 ex12 tx12 c13 ex15 tx15 hr16 ex17 tx17 ex18 tx18 ex19 tx19 ex20)
        refine lv_goto (tgt := 42) hx hb dX12_name_38 (by decide) ?_
        refine lv_lstore_n (lv' := [(3, .long x20), (2, .int y1), (0, .ref (ad 0)), (1, .int k0)]) hx hb dX12_name_42 rfl hl (by decide) rfl (fun ls hl => ?_)
        obtain ⟨x21, ex21⟩ : ∃ y : Int32, y = y1 + 1 := ⟨_, rfl⟩
        have tx21 := (v_name_17 st ar lo re k0 y1 y2 r3 x12 x15 r16 x17 x18 x19 x20 x21 hpre hi4 hr3 c4 ex12 tx12 c13 ex15 tx15 hr16 ex17 tx17 ex18 tx18 ex19 tx19 ex20 tx20 ex21)
        refine lv_iinc (v := x21) (lv' := [(2, .int x21), (3, .long x20), (0, .ref (ad 0)), (1, .int k0)]) hx hb dX12_name_43 hl (k := 1) rfl (by rw [ex21]; rfl) (by decide) rfl (fun ls hl => ?_)
        refine lv_goto (tgt := 4) hx hb dX12_name_46 (by decide) ?_
        exact ih4 x21 x20 _ _ _ (Nat.lt_of_lt_of_le (v_name_19 st ar lo re k0 y1 y2 r3 x12 x15 r16 x17 x18 x19 x20 x21 hpre hi4 hr3 c4 ex12 tx12 c13 ex15 tx15 hr16 ex17 tx17 ex18 tx18 ex19 tx19 ex20 tx20 ex21 tx21) (Nat.le_of_lt_succ hn4)) (v_name_18 st ar lo re k0 y1 y2 r3 x12 x15 r16 x17 x18 x19 x20 x21 hpre hi4 hr3 c4 ex12 tx12 c13 ex15 tx15 hr16 ex17 tx17 ex18 tx18 ex19 tx19 ex20 tx20 ex21 tx21) hP hD hS (lv_sub hl [1, 0, 2, 3] rfl)
set_option maxHeartbeats 4000000 in
set_option maxRecDepth 100000 in
theorem M_name (l : Launch) (D : va_G) (cy : Nat → ClassId) (sz0 : Nat) (sa : Nat → Nat) (ad : Nat → Nat) (st : Nat → Int32) (ar : Nat → Nat → Int32) (lo : Nat → Nat → Int64) (re : Nat → UInt64) (sz : Nat) (k0 : Int32) (hpre : 0 ≤ (st 1).toInt ∧ (st 1).toInt ≤ 40 ∧ 0 ≤ (st 3).toInt ∧ (st 3).toInt ≤ k0.toInt ∧ k0.toInt < (st 1).toInt ∧ TKok (ar 4) (lo 6) (ar 7) (st 3).toInt ∧ (k0.toInt < (st 1).toInt ∧ 97 ≤ ((ar 2) k0.toNatClampNeg).toInt ∧ ((ar 2) k0.toNatClampNeg).toInt ≤ 122)) : Met l yX12_name wqM_name ({ frames := 2, cells := 0, slots := 0, locals := 42 }) (PcW D cy sz0 sa [.ref (ad 0), .int k0] (MW cy ad st ar lo re) sz) (va_Qi (fun (r : Int32) (u : Int32 × Int32 × Int32 × (Nat → Int32) × (Nat → Int32) × (Nat → Int32) × (Nat → Int64)) => k0.toInt < r.toInt ∧ r.toInt ≤ (st 1).toInt ∧ 0 ≤ u.1.toInt ∧ u.1.toInt ≤ r.toInt ∧ TKok u.2.2.2.1 u.2.2.2.2.2.2 u.2.2.2.2.2.1 u.1.toInt) (fun (u : Int32 × Int32 × Int32 × (Nat → Int32) × (Nat → Int32) × (Nat → Int32) × (Nat → Int64)) (t : State) => BW D (MW cy ad (upd (upd (upd st 3 u.1) 8 u.2.1) 9 u.2.2.1) (updA (updA (updA ar 4 u.2.2.2.1) 5 u.2.2.2.2.1) 7 u.2.2.2.2.2.1) (updJ lo 6 u.2.2.2.2.2.2) re) (va_A (MW cy ad st ar lo re) sz) t) (va_A (MW cy ad st ar lo re) sz)) 0 0 (va_A (MW cy ad st ar lo re) sz) := by
  refine Met.ofW (cc := cX12_name) (maxL := 5) (ret := (some .int)) (by decide) rfl ?_
  intro p e s m args below meth c s₁ B hml hv
  obtain ⟨rfl, hsz, hP, hD0, hE⟩ := hv
  have hx := B.exec
  have hb := B.bytes
  have hr := B.returns
  have hts := atoms_spec (ws := wqM_name) B.pre
  have hown : s.vm.findClass RX12 = some m.cls := findClass_of_methodNamed B.named
  have hlocks := B.notSynchronized
  subst hsz
  have hK := hE.1
  have hD := hD0.self (sz := s.heap.size)
  have hAF := frA hD0 hE.2.1
  generalize hAe : va_A (MW cy ad st ar lo re) s.heap.size = A at hD hAF ⊢
  have hA : ∀ q : Nat, s.heap.size ≤ q → A q := fun q h => by rw [← hAe]; exact Or.inr h
  have hS : va_S A s.heap s.heap [] := va_S.rf
  have hl := lv_entry ([.ref (ad 0), .int k0]) (n := 5) (Nat.le_of_ble_eq_true rfl)
  rw [lg_entry_eq]
  generalize (lg_sl ([.ref (ad 0), .int k0]) ++ List.replicate (5 - (lg_sl ([.ref (ad 0), .int k0])).length) Slot.unset).toArray = ls at hl ⊢
  have hl : lv_has ls 5 [(0, .ref (ad 0)), (1, .int k0)] := hl
  refine lv_iload_n hx hb dX12_name_0 rfl (lv_at hl 1 rfl) ?_
  refine lv_istore_n (lv' := [(2, .int k0), (0, .ref (ad 0)), (1, .int k0)]) hx hb dX12_name_1 rfl hl (by decide) rfl (fun ls hl => ?_)
  refine lv_lconst (v := 0) hx hb dX12_name_2 rfl ?_
  refine lv_lstore_n (lv' := [(3, .long 0), (2, .int k0), (0, .ref (ad 0)), (1, .int k0)]) hx hb dX12_name_3 rfl hl (by decide) rfl (fun ls hl => ?_)
  exact L_name_4_1 l D cy sz0 sa ad A st ar lo re k0 hx hb hr hml hown hts hlocks hE hAF hA hpre (((st 1).toInt - k0.toInt).toNat + 1) k0 0 _ _ _ (Nat.lt_succ_self _) (v_name_1 st ar lo re k0 hpre) hP hD hS (lv_sub hl [0, 1, 2, 3] rfl)

def wqM_number0 : List Cond := [.code yX12_number cX12_number 7 (some .int), .methodLink RX12 147 yX12_digit, .instanceMethod yX12_digit, .selects RX12 yX12_digit yX12_digit, .initialized RX12, .code yX12_digit cX12_digit 2 (some .boolean), .methodLink RX12 134 yX12_at, .instanceMethod yX12_at, .selects RX12 yX12_at yX12_at, .code yX12_at cX12_at 2 (some .int), .fieldLink RX12 131 "PhraseDeskModel" "size" "I", .fieldLink RX12 7 "PhraseDeskModel" "letters" "[I", .methodLink RX12 155 yX12_wrong, .instanceMethod yX12_wrong, .selects RX12 yX12_wrong yX12_wrong, .code yX12_wrong cX12_wrong 3 none, .fieldLink RX12 138 "PhraseDeskModel" "error" "I", .fieldLink RX12 141 "PhraseDeskModel" "where" "I", .methodLink RX12 159 yX12_add, .instanceMethod yX12_add, .selects RX12 yX12_add yX12_add, .code yX12_add cX12_add 5 none, .fieldLink RX12 13 "PhraseDeskModel" "tokenKind" "[I", .fieldLink RX12 144 "PhraseDeskModel" "tokens" "I", .fieldLink RX12 16 "PhraseDeskModel" "tokenAt" "[I", .fieldLink RX12 19 "PhraseDeskModel" "token" "[J", .fieldLink RX12 23 "PhraseDeskModel" "scale" "[I", .constantLong RX12 151 (10), .constantLong RX12 153 (48)]
def wqM_number : List Cond := wqM_number0 ++ wsX120
set_option maxHeartbeats 4000000 in
set_option maxRecDepth 100000 in
theorem L_number_66_2 {p : Program} {e : Env} {s : State} {m : MethodId} {below : List Frame} {meth : Method} {c : Code} (l : Launch) (D : va_G) (cy : Nat → ClassId) (sz0 : Nat) (sa : Nat → Nat) (ad : Nat → Nat) (A : Nat → Prop) (st : Nat → Int32) (ar : Nat → Nat → Int32) (lo : Nat → Nat → Int64) (re : Nat → UInt64) (k0 : Int32) (y1 : Int32) (y2 : Int64) (r3 : Int32) (x5 : Int32) (r6 : Int32) (x17 : Int32) (r18 : Int32) (x29 : Int32) (hx : p.tables.exec = Jvm.exec) (hb : c.code = cX12_number) (hr : meth.sig.returnType = (some .int)) (hml : c.maxLocals = 7) (hown : s.vm.findClass RX12 = some m.cls) (hts : ∀ w ∈ wqM_number, w.before #[.ref (ad 0), .int k0] s = true) (hlocks : meth.locks = false) (hE : En D cy sz0 sa s) (hAF : ∀ q, A q → Fr sz0 q) (hA : ∀ q : Nat, s.heap.size ≤ q → A q) (hpre : 0 ≤ (st 1).toInt ∧ (st 1).toInt ≤ 40 ∧ 0 ≤ (st 3).toInt ∧ (st 3).toInt ≤ k0.toInt ∧ k0.toInt < (st 1).toInt ∧ TKok (ar 4) (lo 6) (ar 7) (st 3).toInt ∧ (k0.toInt < (st 1).toInt ∧ 48 ≤ ((ar 2) k0.toNatClampNeg).toInt ∧ ((ar 2) k0.toNatClampNeg).toInt ≤ 57)) (hi4 : k0.toInt ≤ y1.toInt ∧ y1.toInt ≤ (st 1).toInt) (hr3 : (r3.toInt = 0 ∧ ¬ (y1.toInt < (st 1).toInt ∧ 48 ≤ ((ar 2) y1.toNatClampNeg).toInt ∧ ((ar 2) y1.toNatClampNeg).toInt ≤ 57)) ∨ (r3.toInt = 1 ∧ (y1.toInt < (st 1).toInt ∧ 48 ≤ ((ar 2) y1.toNatClampNeg).toInt ∧ ((ar 2) y1.toNatClampNeg).toInt ≤ 57))) (c4 : r3.toInt = (0)) (ex5 : x5 = y1 - k0) (tx5 : x5.toInt = y1.toInt - k0.toInt) (hr6 : (y1.toInt < (st 1).toInt ∧ r6.toInt = ((ar 2) y1.toNatClampNeg).toInt) ∨ ((st 1).toInt ≤ y1.toInt ∧ r6.toInt = 0)) (c7 : r6.toInt = (46)) (ex17 : x17 = y1 + 1) (tx17 : x17.toInt = y1.toInt + (1)) (hr18 : (r18.toInt = 0 ∧ ¬ (x17.toInt < (st 1).toInt ∧ 48 ≤ ((ar 2) x17.toNatClampNeg).toInt ∧ ((ar 2) x17.toNatClampNeg).toInt ≤ 57)) ∨ (r18.toInt = 1 ∧ (x17.toInt < (st 1).toInt ∧ 48 ≤ ((ar 2) x17.toNatClampNeg).toInt ∧ ((ar 2) x17.toNatClampNeg).toInt ≤ 57))) (c19 : ¬ r18.toInt = (0)) (ex29 : x29 = y1 + 1) (tx29 : x29.toInt = y1.toInt + (1)) : ∀ (n : Nat) (y30 : Int32) (y31 : Int64) (y32 : Int32) (H : Heap) (locs : List Loc) (ls : Array Slot), ((st 1).toInt - y30.toInt).toNat < n → (k0.toInt < y30.toInt ∧ y30.toInt ≤ (st 1).toInt ∧ 0 ≤ y32.toInt ∧ y32.toInt ≤ y30.toInt) → va_P D vwCl (MW cy ad st ar lo re) H → va_D A (MW cy ad st ar lo re) → va_S A s.heap H locs → lv_has ls 7 [(2, .int y30), (6, .int y32), (5, .int x5), (3, .long y31), (0, .ref (ad 0)), (1, .int k0)] → W p l e (headSpec wqM_number ({ frames := 2, cells := 0, slots := 0, locals := 42 })).room s m #[.ref (ad 0), .int k0] below meth c H locs 0 0 (MQ below (va_Qi (fun (r : Int32) (u : Int32 × Int32 × Int32 × (Nat → Int32) × (Nat → Int32) × (Nat → Int32) × (Nat → Int64)) => k0.toInt < r.toInt ∧ r.toInt ≤ (st 1).toInt ∧ 0 ≤ u.1.toInt ∧ u.1.toInt ≤ r.toInt ∧ TKok u.2.2.2.1 u.2.2.2.2.2.2 u.2.2.2.2.2.1 u.1.toInt) (fun (u : Int32 × Int32 × Int32 × (Nat → Int32) × (Nat → Int32) × (Nat → Int32) × (Nat → Int64)) (t : State) => BW D (MW cy ad (upd (upd (upd st 3 u.1) 8 u.2.1) 9 u.2.2.1) (updA (updA (updA ar 4 u.2.2.2.1) 5 u.2.2.2.2.1) 7 u.2.2.2.2.2.1) (updJ lo 6 u.2.2.2.2.2.2) re) A t) A) #[.ref (ad 0), .int k0] s 0 0 A) (F0 m 66 ls []) := by
  have hK := hE.1
  intro n
  induction n with
  | zero => intro y30 y31 y32 H locs ls hn; exact absurd hn (Nat.not_lt_zero _)
  | succ n ih66 =>
    intro y30 y31 y32 H locs ls hn66 hi66 hP hD hS hl
    refine lv_aload_n hx hb dX12_number_66 rfl (lv_at hl 4 rfl) ?_
    refine lv_iload_n hx hb dX12_number_67 rfl (lv_at hl 0 rfl) ?_
    have hFc := freeAll hD hS hA
    refine va_calli (va_runV (As := [.int y30]) (rest := []) ⟨hx, hb, hml, hown, hts⟩ (M_digit l D cy sz0 sa ad st ar lo re H.size y30 (v_number_21 st ar lo re k0 y1 y2 r3 x5 r6 x17 r18 x29 y30 y31 y32 hpre hi4 hr3 c4 ex5 tx5 hr6 c7 ex17 tx17 hr18 c19 ex29 tx29 hi66)) (cwV 1 hts (goodIn_app (goodIn_r _ [1, 2, 3, 4] rfl (by decide +kernel)) (goodIn_app (goodIn_r wqM_digit0 [5, 6, 7, 8, 4, 9, 10, 11] rfl (by decide +kernel)) (goodIn_sub (fun _ h => (List.mem_append_right _ h)) (by decide +kernel)))) rfl rfl rfl (by decide +kernel) ⟨Nat.le_of_ble_eq_true rfl, Nat.le_of_ble_eq_true rfl⟩) ⟨PcW.blind, va_recv hK hP (ci := 14) (q0 := 0) rfl rfl, PcW.mk hE hS hAF hP hD⟩ rfl rfl hl.1 rfl (lv_room (Nat.le_of_ble_eq_true rfl)) dX12_number_68 ⟨Nat.le_of_ble_eq_true rfl, Nat.le_of_ble_eq_true rfl⟩) hS (fun q _ h => hFc q h) hFc (fun r33 u t H1 locs ht hvm hw hB hz1 hk1 hS => ?_)
    have hr33 : (r33.toInt = 0 ∧ ¬ (y30.toInt < (st 1).toInt ∧ 48 ≤ ((ar 2) y30.toNatClampNeg).toInt ∧ ((ar 2) y30.toNatClampNeg).toInt ≤ 57)) ∨ (r33.toInt = 1 ∧ (y30.toInt < (st 1).toInt ∧ 48 ≤ ((ar 2) y30.toNatClampNeg).toInt ∧ ((ar 2) y30.toNatClampNeg).toInt ≤ 57)) := hw
    obtain ⟨hP1, hD1⟩ := hB
    rw [ht] at hP1
    have hD1 := hD1.weaken (fun _ q _ h => hFc q.1 h)
    clear hP hD hFc hk1 hz1
    have hP := hP1
    have hD := hD1
    clear hP1 hD1
    generalize H1 = H at hP hS ⊢
    have hP : va_P D vwCl (MW cy ad st ar lo re) H := hP
    have hD : va_D A (MW cy ad st ar lo re) := hD
    refine W.widen (k := 0) (n := 0) (Nat.le_of_ble_eq_true rfl) (Nat.le_of_ble_eq_true rfl) ?_
    refine lv_if_eq (tgt := 100) hx hb dX12_number_71 (by decide) (fun c34 => ?_) (fun c34 => ?_)
    · have c34 : r33.toInt = (0) := by have h := z_eq c34; rw [show (0 : Int32).toInt = 0 from by decide +kernel] at h; exact h
      refine lv_iload hx hb dX12_number_100 (lv_at hl 2 rfl) ?_
      refine lv_bipush (v := 6) hx hb dX12_number_102 (by decide +kernel) ?_
      refine lv_icmp_gt (tgt := 113) hx hb dX12_number_104 (by decide) (fun c35 => ?_) (fun c35 => ?_)
      · have c35 : (6) < x5.toInt := by have h := z_lt c35; rw [show (6 : Int32).toInt = 6 from by decide +kernel] at h; exact h
        refine lv_aload_n hx hb dX12_number_113 rfl (lv_at hl 4 rfl) ?_
        refine lv_iconst (v := 1) hx hb dX12_number_114 (by decide +kernel) ?_
        refine lv_iload_n hx hb dX12_number_115 rfl (lv_at hl 5 rfl) ?_
        have hFc := freeAll hD hS hA
        refine va_callv (va_runV (As := [.int 1, .int k0]) (rest := []) ⟨hx, hb, hml, hown, hts⟩ (M_wrong l D cy sz0 sa ad st ar lo re H.size 1 k0 (v_number_22 st ar lo re k0 y1 y2 r3 x5 r6 x17 r18 x29 y30 y31 y32 r33 hpre hi4 hr3 c4 ex5 tx5 hr6 c7 ex17 tx17 hr18 c19 ex29 tx29 hi66 hr33 c34 c35)) (cwV 2 hts (goodIn_app (goodIn_r _ [12, 13, 14, 4] rfl (by decide +kernel)) (goodIn_app (goodIn_r wqM_wrong0 [15, 16, 17] rfl (by decide +kernel)) (goodIn_sub (fun _ h => (List.mem_append_right _ h)) (by decide +kernel)))) rfl rfl rfl (by decide +kernel) ⟨Nat.le_of_ble_eq_true rfl, Nat.le_of_ble_eq_true rfl⟩) ⟨PcW.blind, va_recv hK hP (ci := 14) (q0 := 0) rfl rfl, PcW.mk hE hS hAF hP hD⟩ rfl rfl hl.1 rfl (lv_room (Nat.le_of_ble_eq_true rfl)) dX12_number_116 ⟨Nat.le_of_ble_eq_true rfl, Nat.le_of_ble_eq_true rfl⟩) hS (fun q _ h => hFc q h) hFc (fun u t H1 locs ht hvm hw hB hz1 hk1 hS => ?_)
        obtain ⟨n37, n38⟩ := u
        have hr36 : ((st 8).toInt = 0 → n37 = (1 : Int32)) ∧ (¬ (st 8).toInt = 0 → n37 = (st 8)) := hw
        obtain ⟨hP1, hD1⟩ := hB
        rw [ht] at hP1
        have hD1 := hD1.weaken (fun _ q _ h => hFc q.1 h)
        clear hP hD hFc hk1 hz1
        have hP := hP1
        have hD := hD1
        clear hP1 hD1
        generalize H1 = H at hP hS ⊢
        have hP : va_P D vwCl (MW cy ad (upd (upd st 8 n37) 9 n38) ar lo re) H := hP
        have hD : va_D A (MW cy ad (upd (upd st 8 n37) 9 n38) ar lo re) := hD
        refine W.widen (k := 0) (n := 0) (Nat.le_of_ble_eq_true rfl) (Nat.le_of_ble_eq_true rfl) ?_
        refine lv_iload_n hx hb dX12_number_119 rfl (lv_at hl 0 rfl) ?_
        refine W.widen (k := 0) (n := 0) (Nat.le_of_ble_eq_true rfl) (Nat.le_of_ble_eq_true rfl) ?_
        exact W.iret (v := y30) hx hb hr (fun t ht hW => ⟨⟨y30, ⟨(st 3), n37, n38, (ar 4), (ar 5), (ar 7), (lo 6)⟩, rfl, (v_number_23 st ar lo re k0 y1 y2 r3 x5 r6 x17 r18 x29 y30 y31 y32 r33 n37 n38 hpre hi4 hr3 c4 ex5 tx5 hr6 c7 ex17 tx17 hr18 c19 ex29 tx29 hi66 hr33 c34 c35 hr36), by rw [ht]; exact hP, hD⟩, hS.F ht⟩) hS.2.2 dX12_number_120
      · have c35 : x5.toInt ≤ (6) := by have h := z_nlt c35; rw [show (6 : Int32).toInt = 6 from by decide +kernel] at h; exact h
        refine lv_iload hx hb dX12_number_107 (lv_at hl 1 rfl) ?_
        refine lv_iconst (v := 3) hx hb dX12_number_109 (by decide +kernel) ?_
        refine lv_icmp_le (tgt := 121) hx hb dX12_number_110 (by decide) (fun c39 => ?_) (fun c39 => ?_)
        · have c39 : y32.toInt ≤ (3) := by have h := z_le c39; rw [show (3 : Int32).toInt = 3 from by decide +kernel] at h; exact h
          refine lv_aload_n hx hb dX12_number_121 rfl (lv_at hl 4 rfl) ?_
          refine lv_iload hx hb dX12_number_122 (lv_at hl 1 rfl) ?_
          refine lv_if_le (tgt := 131) hx hb dX12_number_124 (by decide) (fun c40 => ?_) (fun c40 => ?_)
          · have c40 : y32.toInt ≤ (0) := by have h := z_le c40; rw [show (0 : Int32).toInt = 0 from by decide +kernel] at h; exact h
            refine lv_iconst (v := 1) hx hb dX12_number_131 (by decide +kernel) ?_
            refine lv_iload_n hx hb dX12_number_132 rfl (lv_at hl 5 rfl) ?_
            refine lv_lload_n hx hb dX12_number_133 rfl (lv_at hl 3 rfl) ?_
            have hFc := freeAll hD hS hA
            refine va_callv (va_runV (As := [.int 1, .int k0, .long y31]) (rest := []) ⟨hx, hb, hml, hown, hts⟩ (M_add l D cy sz0 sa ad st ar lo re H.size 1 k0 y31 (v_number_24 st ar lo re k0 y1 y2 r3 x5 r6 x17 r18 x29 y30 y31 y32 r33 hpre hi4 hr3 c4 ex5 tx5 hr6 c7 ex17 tx17 hr18 c19 ex29 tx29 hi66 hr33 c34 c35 c39 c40)) (cwV 3 hts (goodIn_app (goodIn_r _ [18, 19, 20, 4] rfl (by decide +kernel)) (goodIn_app (goodIn_r wqM_add0 [21, 22, 23, 24, 25, 26] rfl (by decide +kernel)) (goodIn_sub (fun _ h => (List.mem_append_right _ h)) (by decide +kernel)))) rfl rfl rfl (by decide +kernel) ⟨Nat.le_of_ble_eq_true rfl, Nat.le_of_ble_eq_true rfl⟩) ⟨PcW.blind, va_recv hK hP (ci := 14) (q0 := 0) rfl rfl, PcW.mk hE hS hAF hP hD⟩ rfl rfl hl.1 rfl (lv_room (Nat.le_of_ble_eq_true rfl)) dX12_number_134 ⟨Nat.le_of_ble_eq_true rfl, Nat.le_of_ble_eq_true rfl⟩) hS (fun q _ h => hFc q h) hFc (fun u t H1 locs ht hvm hw hB hz1 hk1 hS => ?_)
            obtain ⟨n42, rfl⟩ : ∃ z, z = u := ⟨_, rfl⟩
            have hr41 : n42.toInt = (st 3).toInt + 1 := hw
            obtain ⟨hP1, hD1⟩ := hB
            rw [ht] at hP1
            have hD1 := hD1.weaken (fun _ q _ h => hFc q.1 h)
            clear hP hD hFc hk1 hz1
            have hP := hP1
            have hD := hD1
            clear hP1 hD1
            generalize H1 = H at hP hS ⊢
            have hP : va_P D vwCl (MW cy ad (upd st 3 n42) (updA (updA (updA ar 4 (upd (ar 4) (st 3).toNatClampNeg (1 : Int32))) 5 (upd (ar 5) (st 3).toNatClampNeg k0)) 7 (upd (ar 7) (st 3).toNatClampNeg 0)) (updJ lo 6 (vp_updL (lo 6) (st 3).toNatClampNeg y31)) re) H := hP
            have hD : va_D A (MW cy ad (upd st 3 n42) (updA (updA (updA ar 4 (upd (ar 4) (st 3).toNatClampNeg (1 : Int32))) 5 (upd (ar 5) (st 3).toNatClampNeg k0)) 7 (upd (ar 7) (st 3).toNatClampNeg 0)) (updJ lo 6 (vp_updL (lo 6) (st 3).toNatClampNeg y31)) re) := hD
            refine W.widen (k := 0) (n := 0) (Nat.le_of_ble_eq_true rfl) (Nat.le_of_ble_eq_true rfl) ?_
            refine lv_aload_n hx hb dX12_number_137 rfl (lv_at hl 4 rfl) ?_
            refine va_get (D := D) (ci := 14) (v := .ref (ad 7)) (C := RX12) (T := TX12) (N := 60) hx hb hts (fun _ h => (List.mem_append_right _ h)) hown hK hP 0 rfl rfl 7 (by decide) (hts (.fieldLink RX12 23 "PhraseDeskModel" "scale" "[I") (List.mem_of_getElem? (i := 26) rfl)) (fun _ h9 => h9) rfl dX12_number_138 ?_
            refine lv_aload_n hx hb dX12_number_141 rfl (lv_at hl 4 rfl) ?_
            refine va_get (D := D) (ci := 14) (v := .int n42) (C := RX12) (T := TX12) (N := 60) hx hb hts (fun _ h => (List.mem_append_right _ h)) hown hK hP 0 rfl rfl 3 (by decide) (hts (.fieldLink RX12 144 "PhraseDeskModel" "tokens" "I") (List.mem_of_getElem? (i := 23) rfl)) (fun _ h9 => h9) rfl dX12_number_142 ?_
            refine lv_iconst (v := 1) hx hb dX12_number_145 (by decide +kernel) ?_
            refine lv_isub hx hb dX12_number_146 ?_
            refine lv_topi (fun x43 ex43 => ?_)
            have tx43 := (v_number_25 st ar lo re k0 y1 y2 r3 x5 r6 x17 r18 x29 y30 y31 y32 r33 n42 x43 hpre hi4 hr3 c4 ex5 tx5 hr6 c7 ex17 tx17 hr18 c19 ex29 tx29 hi66 hr33 c34 c35 c39 c40 hr41 ex43)
            refine lv_iload hx hb dX12_number_147 (lv_at hl 1 rfl) ?_
            refine va_iast hx hb hK hP hD hS 5 0 rfl rfl (v_number_26 st ar lo re k0 y1 y2 r3 x5 r6 x17 r18 x29 y30 y31 y32 r33 n42 x43 hpre hi4 hr3 c4 ex5 tx5 hr6 c7 ex17 tx17 hr18 c19 ex29 tx29 hi66 hr33 c34 c35 c39 c40 hr41 ex43 tx43) dX12_number_149 (fun H locs hP hD hS => ?_)
            have hP : va_P D vwCl (MW cy ad (upd st 3 n42) (updA (updA (updA ar 4 (upd (ar 4) (st 3).toNatClampNeg (1 : Int32))) 5 (upd (ar 5) (st 3).toNatClampNeg k0)) 7 (upd (upd (ar 7) (st 3).toNatClampNeg 0) x43.toNatClampNeg y32)) (updJ lo 6 (vp_updL (lo 6) (st 3).toNatClampNeg y31)) re) H := hP
            have hD : va_D A (MW cy ad (upd st 3 n42) (updA (updA (updA ar 4 (upd (ar 4) (st 3).toNatClampNeg (1 : Int32))) 5 (upd (ar 5) (st 3).toNatClampNeg k0)) 7 (upd (upd (ar 7) (st 3).toNatClampNeg 0) x43.toNatClampNeg y32)) (updJ lo 6 (vp_updL (lo 6) (st 3).toNatClampNeg y31)) re) := hD
            refine lv_iload_n hx hb dX12_number_150 rfl (lv_at hl 0 rfl) ?_
            refine W.widen (k := 0) (n := 0) (Nat.le_of_ble_eq_true rfl) (Nat.le_of_ble_eq_true rfl) ?_
            exact W.iret (v := y30) hx hb hr (fun t ht hW => ⟨⟨y30, ⟨n42, (st 8), (st 9), (upd (ar 4) (st 3).toNatClampNeg (1 : Int32)), (upd (ar 5) (st 3).toNatClampNeg k0), (upd (upd (ar 7) (st 3).toNatClampNeg 0) x43.toNatClampNeg y32), (vp_updL (lo 6) (st 3).toNatClampNeg y31)⟩, rfl, (v_number_27 st ar lo re k0 y1 y2 r3 x5 r6 x17 r18 x29 y30 y31 y32 r33 n42 x43 hpre hi4 hr3 c4 ex5 tx5 hr6 c7 ex17 tx17 hr18 c19 ex29 tx29 hi66 hr33 c34 c35 c39 c40 hr41 ex43 tx43), by rw [ht]; exact hP, hD⟩, hS.F ht⟩) hS.2.2 dX12_number_151
          · have c40 : (0) < y32.toInt := by have h := z_nle c40; rw [show (0 : Int32).toInt = 0 from by decide +kernel] at h; exact h
            refine lv_iconst (v := 2) hx hb dX12_number_127 (by decide +kernel) ?_
            refine lv_goto (tgt := 132) hx hb dX12_number_128 (by decide) ?_
            refine lv_iload_n hx hb dX12_number_132 rfl (lv_at hl 5 rfl) ?_
            refine lv_lload_n hx hb dX12_number_133 rfl (lv_at hl 3 rfl) ?_
            have hFc := freeAll hD hS hA
            refine va_callv (va_runV (As := [.int 2, .int k0, .long y31]) (rest := []) ⟨hx, hb, hml, hown, hts⟩ (M_add l D cy sz0 sa ad st ar lo re H.size 2 k0 y31 (v_number_28 st ar lo re k0 y1 y2 r3 x5 r6 x17 r18 x29 y30 y31 y32 r33 hpre hi4 hr3 c4 ex5 tx5 hr6 c7 ex17 tx17 hr18 c19 ex29 tx29 hi66 hr33 c34 c35 c39 c40)) (cwV 3 hts (goodIn_app (goodIn_r _ [18, 19, 20, 4] rfl (by decide +kernel)) (goodIn_app (goodIn_r wqM_add0 [21, 22, 23, 24, 25, 26] rfl (by decide +kernel)) (goodIn_sub (fun _ h => (List.mem_append_right _ h)) (by decide +kernel)))) rfl rfl rfl (by decide +kernel) ⟨Nat.le_of_ble_eq_true rfl, Nat.le_of_ble_eq_true rfl⟩) ⟨PcW.blind, va_recv hK hP (ci := 14) (q0 := 0) rfl rfl, PcW.mk hE hS hAF hP hD⟩ rfl rfl hl.1 rfl (lv_room (Nat.le_of_ble_eq_true rfl)) dX12_number_134 ⟨Nat.le_of_ble_eq_true rfl, Nat.le_of_ble_eq_true rfl⟩) hS (fun q _ h => hFc q h) hFc (fun u t H1 locs ht hvm hw hB hz1 hk1 hS => ?_)
            obtain ⟨n45, rfl⟩ : ∃ z, z = u := ⟨_, rfl⟩
            have hr44 : n45.toInt = (st 3).toInt + 1 := hw
            obtain ⟨hP1, hD1⟩ := hB
            rw [ht] at hP1
            have hD1 := hD1.weaken (fun _ q _ h => hFc q.1 h)
            clear hP hD hFc hk1 hz1
            have hP := hP1
            have hD := hD1
            clear hP1 hD1
            generalize H1 = H at hP hS ⊢
            have hP : va_P D vwCl (MW cy ad (upd st 3 n45) (updA (updA (updA ar 4 (upd (ar 4) (st 3).toNatClampNeg (2 : Int32))) 5 (upd (ar 5) (st 3).toNatClampNeg k0)) 7 (upd (ar 7) (st 3).toNatClampNeg 0)) (updJ lo 6 (vp_updL (lo 6) (st 3).toNatClampNeg y31)) re) H := hP
            have hD : va_D A (MW cy ad (upd st 3 n45) (updA (updA (updA ar 4 (upd (ar 4) (st 3).toNatClampNeg (2 : Int32))) 5 (upd (ar 5) (st 3).toNatClampNeg k0)) 7 (upd (ar 7) (st 3).toNatClampNeg 0)) (updJ lo 6 (vp_updL (lo 6) (st 3).toNatClampNeg y31)) re) := hD
            refine W.widen (k := 0) (n := 0) (Nat.le_of_ble_eq_true rfl) (Nat.le_of_ble_eq_true rfl) ?_
            refine lv_aload_n hx hb dX12_number_137 rfl (lv_at hl 4 rfl) ?_
            refine va_get (D := D) (ci := 14) (v := .ref (ad 7)) (C := RX12) (T := TX12) (N := 60) hx hb hts (fun _ h => (List.mem_append_right _ h)) hown hK hP 0 rfl rfl 7 (by decide) (hts (.fieldLink RX12 23 "PhraseDeskModel" "scale" "[I") (List.mem_of_getElem? (i := 26) rfl)) (fun _ h9 => h9) rfl dX12_number_138 ?_
            refine lv_aload_n hx hb dX12_number_141 rfl (lv_at hl 4 rfl) ?_
            refine va_get (D := D) (ci := 14) (v := .int n45) (C := RX12) (T := TX12) (N := 60) hx hb hts (fun _ h => (List.mem_append_right _ h)) hown hK hP 0 rfl rfl 3 (by decide) (hts (.fieldLink RX12 144 "PhraseDeskModel" "tokens" "I") (List.mem_of_getElem? (i := 23) rfl)) (fun _ h9 => h9) rfl dX12_number_142 ?_
            refine lv_iconst (v := 1) hx hb dX12_number_145 (by decide +kernel) ?_
            refine lv_isub hx hb dX12_number_146 ?_
            refine lv_topi (fun x46 ex46 => ?_)
            have tx46 := (v_number_29 st ar lo re k0 y1 y2 r3 x5 r6 x17 r18 x29 y30 y31 y32 r33 n45 x46 hpre hi4 hr3 c4 ex5 tx5 hr6 c7 ex17 tx17 hr18 c19 ex29 tx29 hi66 hr33 c34 c35 c39 c40 hr44 ex46)
            refine lv_iload hx hb dX12_number_147 (lv_at hl 1 rfl) ?_
            refine va_iast hx hb hK hP hD hS 5 0 rfl rfl (v_number_30 st ar lo re k0 y1 y2 r3 x5 r6 x17 r18 x29 y30 y31 y32 r33 n45 x46 hpre hi4 hr3 c4 ex5 tx5 hr6 c7 ex17 tx17 hr18 c19 ex29 tx29 hi66 hr33 c34 c35 c39 c40 hr44 ex46 tx46) dX12_number_149 (fun H locs hP hD hS => ?_)
            have hP : va_P D vwCl (MW cy ad (upd st 3 n45) (updA (updA (updA ar 4 (upd (ar 4) (st 3).toNatClampNeg (2 : Int32))) 5 (upd (ar 5) (st 3).toNatClampNeg k0)) 7 (upd (upd (ar 7) (st 3).toNatClampNeg 0) x46.toNatClampNeg y32)) (updJ lo 6 (vp_updL (lo 6) (st 3).toNatClampNeg y31)) re) H := hP
            have hD : va_D A (MW cy ad (upd st 3 n45) (updA (updA (updA ar 4 (upd (ar 4) (st 3).toNatClampNeg (2 : Int32))) 5 (upd (ar 5) (st 3).toNatClampNeg k0)) 7 (upd (upd (ar 7) (st 3).toNatClampNeg 0) x46.toNatClampNeg y32)) (updJ lo 6 (vp_updL (lo 6) (st 3).toNatClampNeg y31)) re) := hD
            refine lv_iload_n hx hb dX12_number_150 rfl (lv_at hl 0 rfl) ?_
            refine W.widen (k := 0) (n := 0) (Nat.le_of_ble_eq_true rfl) (Nat.le_of_ble_eq_true rfl) ?_
            exact W.iret (v := y30) hx hb hr (fun t ht hW => ⟨⟨y30, ⟨n45, (st 8), (st 9), (upd (ar 4) (st 3).toNatClampNeg (2 : Int32)), (upd (ar 5) (st 3).toNatClampNeg k0), (upd (upd (ar 7) (st 3).toNatClampNeg 0) x46.toNatClampNeg y32), (vp_updL (lo 6) (st 3).toNatClampNeg y31)⟩, rfl, (v_number_31 st ar lo re k0 y1 y2 r3 x5 r6 x17 r18 x29 y30 y31 y32 r33 n45 x46 hpre hi4 hr3 c4 ex5 tx5 hr6 c7 ex17 tx17 hr18 c19 ex29 tx29 hi66 hr33 c34 c35 c39 c40 hr44 ex46 tx46), by rw [ht]; exact hP, hD⟩, hS.F ht⟩) hS.2.2 dX12_number_151
        · have c39 : (3) < y32.toInt := by have h := z_nle c39; rw [show (3 : Int32).toInt = 3 from by decide +kernel] at h; exact h
          refine lv_aload_n hx hb dX12_number_113 rfl (lv_at hl 4 rfl) ?_
          refine lv_iconst (v := 1) hx hb dX12_number_114 (by decide +kernel) ?_
          refine lv_iload_n hx hb dX12_number_115 rfl (lv_at hl 5 rfl) ?_
          have hFc := freeAll hD hS hA
          refine va_callv (va_runV (As := [.int 1, .int k0]) (rest := []) ⟨hx, hb, hml, hown, hts⟩ (M_wrong l D cy sz0 sa ad st ar lo re H.size 1 k0 (v_number_32 st ar lo re k0 y1 y2 r3 x5 r6 x17 r18 x29 y30 y31 y32 r33 hpre hi4 hr3 c4 ex5 tx5 hr6 c7 ex17 tx17 hr18 c19 ex29 tx29 hi66 hr33 c34 c35 c39)) (cwV 2 hts (goodIn_app (goodIn_r _ [12, 13, 14, 4] rfl (by decide +kernel)) (goodIn_app (goodIn_r wqM_wrong0 [15, 16, 17] rfl (by decide +kernel)) (goodIn_sub (fun _ h => (List.mem_append_right _ h)) (by decide +kernel)))) rfl rfl rfl (by decide +kernel) ⟨Nat.le_of_ble_eq_true rfl, Nat.le_of_ble_eq_true rfl⟩) ⟨PcW.blind, va_recv hK hP (ci := 14) (q0 := 0) rfl rfl, PcW.mk hE hS hAF hP hD⟩ rfl rfl hl.1 rfl (lv_room (Nat.le_of_ble_eq_true rfl)) dX12_number_116 ⟨Nat.le_of_ble_eq_true rfl, Nat.le_of_ble_eq_true rfl⟩) hS (fun q _ h => hFc q h) hFc (fun u t H1 locs ht hvm hw hB hz1 hk1 hS => ?_)
          obtain ⟨n48, n49⟩ := u
          have hr47 : ((st 8).toInt = 0 → n48 = (1 : Int32)) ∧ (¬ (st 8).toInt = 0 → n48 = (st 8)) := hw
          obtain ⟨hP1, hD1⟩ := hB
          rw [ht] at hP1
          have hD1 := hD1.weaken (fun _ q _ h => hFc q.1 h)
          clear hP hD hFc hk1 hz1
          have hP := hP1
          have hD := hD1
          clear hP1 hD1
          generalize H1 = H at hP hS ⊢
          have hP : va_P D vwCl (MW cy ad (upd (upd st 8 n48) 9 n49) ar lo re) H := hP
          have hD : va_D A (MW cy ad (upd (upd st 8 n48) 9 n49) ar lo re) := hD
          refine W.widen (k := 0) (n := 0) (Nat.le_of_ble_eq_true rfl) (Nat.le_of_ble_eq_true rfl) ?_
          refine lv_iload_n hx hb dX12_number_119 rfl (lv_at hl 0 rfl) ?_
          refine W.widen (k := 0) (n := 0) (Nat.le_of_ble_eq_true rfl) (Nat.le_of_ble_eq_true rfl) ?_
          exact W.iret (v := y30) hx hb hr (fun t ht hW => ⟨⟨y30, ⟨(st 3), n48, n49, (ar 4), (ar 5), (ar 7), (lo 6)⟩, rfl, (v_number_33 st ar lo re k0 y1 y2 r3 x5 r6 x17 r18 x29 y30 y31 y32 r33 n48 n49 hpre hi4 hr3 c4 ex5 tx5 hr6 c7 ex17 tx17 hr18 c19 ex29 tx29 hi66 hr33 c34 c35 c39 hr47), by rw [ht]; exact hP, hD⟩, hS.F ht⟩) hS.2.2 dX12_number_120
    · have c34 : ¬ r33.toInt = (0) := by have h := z_ne c34; rw [show (0 : Int32).toInt = 0 from by decide +kernel] at h; exact h
      refine lv_lload_n hx hb dX12_number_74 rfl (lv_at hl 3 rfl) ?_
      refine lv_ldc2 (v := 10) hx hb hown (hts (.constantLong RX12 151 (10)) (List.mem_of_getElem? (i := 27) rfl)) dX12_number_75 ?_
      refine lv_lmul hx hb dX12_number_78 ?_
      refine lv_topl (fun x50 ex50 => ?_)
      refine lv_aload_n hx hb dX12_number_79 rfl (lv_at hl 4 rfl) ?_
      refine lv_iload_n hx hb dX12_number_80 rfl (lv_at hl 0 rfl) ?_
      have hFc := freeAll hD hS hA
      refine va_calli (va_runV (As := [.int y30]) (rest := [.long x50]) ⟨hx, hb, hml, hown, hts⟩ (M_at l D cy sz0 sa ad st ar lo re H.size y30 (v_number_34 st ar lo re k0 y1 y2 r3 x5 r6 x17 r18 x29 y30 y31 y32 r33 x50 hpre hi4 hr3 c4 ex5 tx5 hr6 c7 ex17 tx17 hr18 c19 ex29 tx29 hi66 hr33 c34 ex50)) (cwV 1 hts (goodIn_app (goodIn_r _ [6, 7, 8, 4] rfl (by decide +kernel)) (goodIn_app (goodIn_r wqM_at0 [9, 10, 11] rfl (by decide +kernel)) (goodIn_sub (fun _ h => (List.mem_append_right _ h)) (by decide +kernel)))) rfl rfl rfl (by decide +kernel) ⟨Nat.le_of_ble_eq_true rfl, Nat.le_of_ble_eq_true rfl⟩) ⟨PcW.blind, va_recv hK hP (ci := 14) (q0 := 0) rfl rfl, PcW.mk hE hS hAF hP hD⟩ rfl rfl hl.1 rfl (lv_room (Nat.le_of_ble_eq_true rfl)) dX12_number_81 ⟨Nat.le_of_ble_eq_true rfl, Nat.le_of_ble_eq_true rfl⟩) hS (fun q _ h => hFc q h) hFc (fun r51 u t H1 locs ht hvm hw hB hz1 hk1 hS => ?_)
      have hr51 : (y30.toInt < (st 1).toInt ∧ r51.toInt = ((ar 2) y30.toNatClampNeg).toInt) ∨ ((st 1).toInt ≤ y30.toInt ∧ r51.toInt = 0) := hw
      obtain ⟨hP1, hD1⟩ := hB
      rw [ht] at hP1
      have hD1 := hD1.weaken (fun _ q _ h => hFc q.1 h)
      clear hP hD hFc hk1 hz1
      have hP := hP1
      have hD := hD1
      clear hP1 hD1
      generalize H1 = H at hP hS ⊢
      have hP : va_P D vwCl (MW cy ad st ar lo re) H := hP
      have hD : va_D A (MW cy ad st ar lo re) := hD
      refine W.widen (k := 0) (n := 0) (Nat.le_of_ble_eq_true rfl) (Nat.le_of_ble_eq_true rfl) ?_
      refine lv_i2l hx hb dX12_number_84 rfl ?_
      refine lv_topl (fun x52 ex52 => ?_)
      have tx52 : x52.toInt = r51.toInt := by rw [ex52]; exact Int32.toInt_toInt64 _
      refine lv_ladd hx hb dX12_number_85 ?_
      refine lv_topl (fun x53 ex53 => ?_)
      refine lv_ldc2 (v := 48) hx hb hown (hts (.constantLong RX12 153 (48)) (List.mem_of_getElem? (i := 28) rfl)) dX12_number_86 ?_
      refine lv_lsub hx hb dX12_number_89 ?_
      refine lv_topl (fun x54 ex54 => ?_)
      refine lv_lstore_n (lv' := [(3, .long x54), (2, .int y30), (6, .int y32), (5, .int x5), (0, .ref (ad 0)), (1, .int k0)]) hx hb dX12_number_90 rfl hl (by decide) rfl (fun ls hl => ?_)
      obtain ⟨x55, ex55⟩ : ∃ y : Int32, y = y30 + 1 := ⟨_, rfl⟩
      have tx55 := (v_number_35 st ar lo re k0 y1 y2 r3 x5 r6 x17 r18 x29 y30 y31 y32 r33 x50 r51 x52 x53 x54 x55 hpre hi4 hr3 c4 ex5 tx5 hr6 c7 ex17 tx17 hr18 c19 ex29 tx29 hi66 hr33 c34 ex50 hr51 ex52 tx52 ex53 ex54 ex55)
      refine lv_iinc (v := x55) (lv' := [(2, .int x55), (3, .long x54), (6, .int y32), (5, .int x5), (0, .ref (ad 0)), (1, .int k0)]) hx hb dX12_number_91 hl (k := 1) rfl (by rw [ex55]; rfl) (by decide) rfl (fun ls hl => ?_)
      obtain ⟨x56, ex56⟩ : ∃ y : Int32, y = y32 + 1 := ⟨_, rfl⟩
      have tx56 := (v_number_36 st ar lo re k0 y1 y2 r3 x5 r6 x17 r18 x29 y30 y31 y32 r33 x50 r51 x52 x53 x54 x55 x56 hpre hi4 hr3 c4 ex5 tx5 hr6 c7 ex17 tx17 hr18 c19 ex29 tx29 hi66 hr33 c34 ex50 hr51 ex52 tx52 ex53 ex54 ex55 tx55 ex56)
      refine lv_iinc (v := x56) (lv' := [(6, .int x56), (2, .int x55), (3, .long x54), (5, .int x5), (0, .ref (ad 0)), (1, .int k0)]) hx hb dX12_number_94 hl (k := 2) rfl (by rw [ex56]; rfl) (by decide) rfl (fun ls hl => ?_)
      refine lv_goto (tgt := 66) hx hb dX12_number_97 (by decide) ?_
      exact ih66 x55 x54 x56 _ _ _ (Nat.lt_of_lt_of_le (v_number_38 st ar lo re k0 y1 y2 r3 x5 r6 x17 r18 x29 y30 y31 y32 r33 x50 r51 x52 x53 x54 x55 x56 hpre hi4 hr3 c4 ex5 tx5 hr6 c7 ex17 tx17 hr18 c19 ex29 tx29 hi66 hr33 c34 ex50 hr51 ex52 tx52 ex53 ex54 ex55 tx55 ex56 tx56) (Nat.le_of_lt_succ hn66)) (v_number_37 st ar lo re k0 y1 y2 r3 x5 r6 x17 r18 x29 y30 y31 y32 r33 x50 r51 x52 x53 x54 x55 x56 hpre hi4 hr3 c4 ex5 tx5 hr6 c7 ex17 tx17 hr18 c19 ex29 tx29 hi66 hr33 c34 ex50 hr51 ex52 tx52 ex53 ex54 ex55 tx55 ex56 tx56) hP hD hS (lv_sub hl [1, 0, 3, 2, 4, 5] rfl)
set_option maxHeartbeats 4000000 in
set_option maxRecDepth 100000 in
theorem L_number_4_1 {p : Program} {e : Env} {s : State} {m : MethodId} {below : List Frame} {meth : Method} {c : Code} (l : Launch) (D : va_G) (cy : Nat → ClassId) (sz0 : Nat) (sa : Nat → Nat) (ad : Nat → Nat) (A : Nat → Prop) (st : Nat → Int32) (ar : Nat → Nat → Int32) (lo : Nat → Nat → Int64) (re : Nat → UInt64) (k0 : Int32) (hx : p.tables.exec = Jvm.exec) (hb : c.code = cX12_number) (hr : meth.sig.returnType = (some .int)) (hml : c.maxLocals = 7) (hown : s.vm.findClass RX12 = some m.cls) (hts : ∀ w ∈ wqM_number, w.before #[.ref (ad 0), .int k0] s = true) (hlocks : meth.locks = false) (hE : En D cy sz0 sa s) (hAF : ∀ q, A q → Fr sz0 q) (hA : ∀ q : Nat, s.heap.size ≤ q → A q) (hpre : 0 ≤ (st 1).toInt ∧ (st 1).toInt ≤ 40 ∧ 0 ≤ (st 3).toInt ∧ (st 3).toInt ≤ k0.toInt ∧ k0.toInt < (st 1).toInt ∧ TKok (ar 4) (lo 6) (ar 7) (st 3).toInt ∧ (k0.toInt < (st 1).toInt ∧ 48 ≤ ((ar 2) k0.toNatClampNeg).toInt ∧ ((ar 2) k0.toNatClampNeg).toInt ≤ 57)) : ∀ (n : Nat) (y1 : Int32) (y2 : Int64) (H : Heap) (locs : List Loc) (ls : Array Slot), ((st 1).toInt - y1.toInt).toNat < n → (k0.toInt ≤ y1.toInt ∧ y1.toInt ≤ (st 1).toInt) → va_P D vwCl (MW cy ad st ar lo re) H → va_D A (MW cy ad st ar lo re) → va_S A s.heap H locs → lv_has ls 7 [(3, .long y2), (2, .int y1), (0, .ref (ad 0)), (1, .int k0)] → W p l e (headSpec wqM_number ({ frames := 2, cells := 0, slots := 0, locals := 42 })).room s m #[.ref (ad 0), .int k0] below meth c H locs 0 0 (MQ below (va_Qi (fun (r : Int32) (u : Int32 × Int32 × Int32 × (Nat → Int32) × (Nat → Int32) × (Nat → Int32) × (Nat → Int64)) => k0.toInt < r.toInt ∧ r.toInt ≤ (st 1).toInt ∧ 0 ≤ u.1.toInt ∧ u.1.toInt ≤ r.toInt ∧ TKok u.2.2.2.1 u.2.2.2.2.2.2 u.2.2.2.2.2.1 u.1.toInt) (fun (u : Int32 × Int32 × Int32 × (Nat → Int32) × (Nat → Int32) × (Nat → Int32) × (Nat → Int64)) (t : State) => BW D (MW cy ad (upd (upd (upd st 3 u.1) 8 u.2.1) 9 u.2.2.1) (updA (updA (updA ar 4 u.2.2.2.1) 5 u.2.2.2.2.1) 7 u.2.2.2.2.2.1) (updJ lo 6 u.2.2.2.2.2.2) re) A t) A) #[.ref (ad 0), .int k0] s 0 0 A) (F0 m 4 ls []) := by
  have hK := hE.1
  intro n
  induction n with
  | zero => intro y1 y2 H locs ls hn; exact absurd hn (Nat.not_lt_zero _)
  | succ n ih4 =>
    intro y1 y2 H locs ls hn4 hi4 hP hD hS hl
    refine lv_aload_n hx hb dX12_number_4 rfl (lv_at hl 2 rfl) ?_
    refine lv_iload_n hx hb dX12_number_5 rfl (lv_at hl 1 rfl) ?_
    have hFc := freeAll hD hS hA
    refine va_calli (va_runV (As := [.int y1]) (rest := []) ⟨hx, hb, hml, hown, hts⟩ (M_digit l D cy sz0 sa ad st ar lo re H.size y1 (v_number_2 st ar lo re k0 y1 y2 hpre hi4)) (cwV 1 hts (goodIn_app (goodIn_r _ [1, 2, 3, 4] rfl (by decide +kernel)) (goodIn_app (goodIn_r wqM_digit0 [5, 6, 7, 8, 4, 9, 10, 11] rfl (by decide +kernel)) (goodIn_sub (fun _ h => (List.mem_append_right _ h)) (by decide +kernel)))) rfl rfl rfl (by decide +kernel) ⟨Nat.le_of_ble_eq_true rfl, Nat.le_of_ble_eq_true rfl⟩) ⟨PcW.blind, va_recv hK hP (ci := 14) (q0 := 0) rfl rfl, PcW.mk hE hS hAF hP hD⟩ rfl rfl hl.1 rfl (lv_room (Nat.le_of_ble_eq_true rfl)) dX12_number_6 ⟨Nat.le_of_ble_eq_true rfl, Nat.le_of_ble_eq_true rfl⟩) hS (fun q _ h => hFc q h) hFc (fun r3 u t H1 locs ht hvm hw hB hz1 hk1 hS => ?_)
    have hr3 : (r3.toInt = 0 ∧ ¬ (y1.toInt < (st 1).toInt ∧ 48 ≤ ((ar 2) y1.toNatClampNeg).toInt ∧ ((ar 2) y1.toNatClampNeg).toInt ≤ 57)) ∨ (r3.toInt = 1 ∧ (y1.toInt < (st 1).toInt ∧ 48 ≤ ((ar 2) y1.toNatClampNeg).toInt ∧ ((ar 2) y1.toNatClampNeg).toInt ≤ 57)) := hw
    obtain ⟨hP1, hD1⟩ := hB
    rw [ht] at hP1
    have hD1 := hD1.weaken (fun _ q _ h => hFc q.1 h)
    clear hP hD hFc hk1 hz1
    have hP := hP1
    have hD := hD1
    clear hP1 hD1
    generalize H1 = H at hP hS ⊢
    have hP : va_P D vwCl (MW cy ad st ar lo re) H := hP
    have hD : va_D A (MW cy ad st ar lo re) := hD
    refine W.widen (k := 0) (n := 0) (Nat.le_of_ble_eq_true rfl) (Nat.le_of_ble_eq_true rfl) ?_
    refine lv_if_eq (tgt := 35) hx hb dX12_number_9 (by decide) (fun c4 => ?_) (fun c4 => ?_)
    · have c4 : r3.toInt = (0) := by have h := z_eq c4; rw [show (0 : Int32).toInt = 0 from by decide +kernel] at h; exact h
      refine lv_iload_n hx hb dX12_number_35 rfl (lv_at hl 1 rfl) ?_
      refine lv_iload_n hx hb dX12_number_36 rfl (lv_at hl 3 rfl) ?_
      refine lv_isub hx hb dX12_number_37 ?_
      refine lv_topi (fun x5 ex5 => ?_)
      have tx5 := (v_number_3 st ar lo re k0 y1 y2 r3 x5 hpre hi4 hr3 c4 ex5)
      refine lv_istore (lv' := [(5, .int x5), (3, .long y2), (2, .int y1), (0, .ref (ad 0)), (1, .int k0)]) hx hb dX12_number_38 hl (by decide) rfl (fun ls hl => ?_)
      refine lv_iconst (v := 0) hx hb dX12_number_40 (by decide +kernel) ?_
      refine lv_istore (lv' := [(6, .int 0), (5, .int x5), (3, .long y2), (2, .int y1), (0, .ref (ad 0)), (1, .int k0)]) hx hb dX12_number_41 hl (by decide) rfl (fun ls hl => ?_)
      refine lv_aload_n hx hb dX12_number_43 rfl (lv_at hl 4 rfl) ?_
      refine lv_iload_n hx hb dX12_number_44 rfl (lv_at hl 3 rfl) ?_
      have hFc := freeAll hD hS hA
      refine va_calli (va_runV (As := [.int y1]) (rest := []) ⟨hx, hb, hml, hown, hts⟩ (M_at l D cy sz0 sa ad st ar lo re H.size y1 (v_number_4 st ar lo re k0 y1 y2 r3 x5 hpre hi4 hr3 c4 ex5 tx5)) (cwV 1 hts (goodIn_app (goodIn_r _ [6, 7, 8, 4] rfl (by decide +kernel)) (goodIn_app (goodIn_r wqM_at0 [9, 10, 11] rfl (by decide +kernel)) (goodIn_sub (fun _ h => (List.mem_append_right _ h)) (by decide +kernel)))) rfl rfl rfl (by decide +kernel) ⟨Nat.le_of_ble_eq_true rfl, Nat.le_of_ble_eq_true rfl⟩) ⟨PcW.blind, va_recv hK hP (ci := 14) (q0 := 0) rfl rfl, PcW.mk hE hS hAF hP hD⟩ rfl rfl hl.1 rfl (lv_room (Nat.le_of_ble_eq_true rfl)) dX12_number_45 ⟨Nat.le_of_ble_eq_true rfl, Nat.le_of_ble_eq_true rfl⟩) hS (fun q _ h => hFc q h) hFc (fun r6 u t H1 locs ht hvm hw hB hz1 hk1 hS => ?_)
      have hr6 : (y1.toInt < (st 1).toInt ∧ r6.toInt = ((ar 2) y1.toNatClampNeg).toInt) ∨ ((st 1).toInt ≤ y1.toInt ∧ r6.toInt = 0) := hw
      obtain ⟨hP1, hD1⟩ := hB
      rw [ht] at hP1
      have hD1 := hD1.weaken (fun _ q _ h => hFc q.1 h)
      clear hP hD hFc hk1 hz1
      have hP := hP1
      have hD := hD1
      clear hP1 hD1
      generalize H1 = H at hP hS ⊢
      have hP : va_P D vwCl (MW cy ad st ar lo re) H := hP
      have hD : va_D A (MW cy ad st ar lo re) := hD
      refine W.widen (k := 0) (n := 0) (Nat.le_of_ble_eq_true rfl) (Nat.le_of_ble_eq_true rfl) ?_
      refine lv_bipush (v := 46) hx hb dX12_number_48 (by decide +kernel) ?_
      refine lv_icmp_ne (tgt := 100) hx hb dX12_number_50 (by decide) (fun c7 => ?_) (fun c7 => ?_)
      · have c7 : ¬ r6.toInt = (46) := by have h := z_ne c7; rw [show (46 : Int32).toInt = 46 from by decide +kernel] at h; exact h
        refine lv_iload hx hb dX12_number_100 (lv_at hl 1 rfl) ?_
        refine lv_bipush (v := 6) hx hb dX12_number_102 (by decide +kernel) ?_
        refine lv_icmp_gt (tgt := 113) hx hb dX12_number_104 (by decide) (fun c8 => ?_) (fun c8 => ?_)
        · have c8 : (6) < x5.toInt := by have h := z_lt c8; rw [show (6 : Int32).toInt = 6 from by decide +kernel] at h; exact h
          refine lv_aload_n hx hb dX12_number_113 rfl (lv_at hl 4 rfl) ?_
          refine lv_iconst (v := 1) hx hb dX12_number_114 (by decide +kernel) ?_
          refine lv_iload_n hx hb dX12_number_115 rfl (lv_at hl 5 rfl) ?_
          have hFc := freeAll hD hS hA
          refine va_callv (va_runV (As := [.int 1, .int k0]) (rest := []) ⟨hx, hb, hml, hown, hts⟩ (M_wrong l D cy sz0 sa ad st ar lo re H.size 1 k0 (v_number_5 st ar lo re k0 y1 y2 r3 x5 r6 hpre hi4 hr3 c4 ex5 tx5 hr6 c7 c8)) (cwV 2 hts (goodIn_app (goodIn_r _ [12, 13, 14, 4] rfl (by decide +kernel)) (goodIn_app (goodIn_r wqM_wrong0 [15, 16, 17] rfl (by decide +kernel)) (goodIn_sub (fun _ h => (List.mem_append_right _ h)) (by decide +kernel)))) rfl rfl rfl (by decide +kernel) ⟨Nat.le_of_ble_eq_true rfl, Nat.le_of_ble_eq_true rfl⟩) ⟨PcW.blind, va_recv hK hP (ci := 14) (q0 := 0) rfl rfl, PcW.mk hE hS hAF hP hD⟩ rfl rfl hl.1 rfl (lv_room (Nat.le_of_ble_eq_true rfl)) dX12_number_116 ⟨Nat.le_of_ble_eq_true rfl, Nat.le_of_ble_eq_true rfl⟩) hS (fun q _ h => hFc q h) hFc (fun u t H1 locs ht hvm hw hB hz1 hk1 hS => ?_)
          obtain ⟨n10, n11⟩ := u
          have hr9 : ((st 8).toInt = 0 → n10 = (1 : Int32)) ∧ (¬ (st 8).toInt = 0 → n10 = (st 8)) := hw
          obtain ⟨hP1, hD1⟩ := hB
          rw [ht] at hP1
          have hD1 := hD1.weaken (fun _ q _ h => hFc q.1 h)
          clear hP hD hFc hk1 hz1
          have hP := hP1
          have hD := hD1
          clear hP1 hD1
          generalize H1 = H at hP hS ⊢
          have hP : va_P D vwCl (MW cy ad (upd (upd st 8 n10) 9 n11) ar lo re) H := hP
          have hD : va_D A (MW cy ad (upd (upd st 8 n10) 9 n11) ar lo re) := hD
          refine W.widen (k := 0) (n := 0) (Nat.le_of_ble_eq_true rfl) (Nat.le_of_ble_eq_true rfl) ?_
          refine lv_iload_n hx hb dX12_number_119 rfl (lv_at hl 3 rfl) ?_
          refine W.widen (k := 0) (n := 0) (Nat.le_of_ble_eq_true rfl) (Nat.le_of_ble_eq_true rfl) ?_
          exact W.iret (v := y1) hx hb hr (fun t ht hW => ⟨⟨y1, ⟨(st 3), n10, n11, (ar 4), (ar 5), (ar 7), (lo 6)⟩, rfl, (v_number_6 st ar lo re k0 y1 y2 r3 x5 r6 n10 n11 hpre hi4 hr3 c4 ex5 tx5 hr6 c7 c8 hr9), by rw [ht]; exact hP, hD⟩, hS.F ht⟩) hS.2.2 dX12_number_120
        · have c8 : x5.toInt ≤ (6) := by have h := z_nlt c8; rw [show (6 : Int32).toInt = 6 from by decide +kernel] at h; exact h
          refine lv_iload hx hb dX12_number_107 (lv_at hl 0 rfl) ?_
          refine lv_iconst (v := 3) hx hb dX12_number_109 (by decide +kernel) ?_
          refine lv_icmp_le (tgt := 121) hx hb dX12_number_110 (by decide) (fun _ => ?_) (fun c12 => absurd (by decide +kernel) c12)
          refine lv_aload_n hx hb dX12_number_121 rfl (lv_at hl 4 rfl) ?_
          refine lv_iload hx hb dX12_number_122 (lv_at hl 0 rfl) ?_
          refine lv_if_le (tgt := 131) hx hb dX12_number_124 (by decide) (fun _ => ?_) (fun c13 => absurd (by decide +kernel) c13)
          refine lv_iconst (v := 1) hx hb dX12_number_131 (by decide +kernel) ?_
          refine lv_iload_n hx hb dX12_number_132 rfl (lv_at hl 5 rfl) ?_
          refine lv_lload_n hx hb dX12_number_133 rfl (lv_at hl 2 rfl) ?_
          have hFc := freeAll hD hS hA
          refine va_callv (va_runV (As := [.int 1, .int k0, .long y2]) (rest := []) ⟨hx, hb, hml, hown, hts⟩ (M_add l D cy sz0 sa ad st ar lo re H.size 1 k0 y2 (v_number_7 st ar lo re k0 y1 y2 r3 x5 r6 hpre hi4 hr3 c4 ex5 tx5 hr6 c7 c8)) (cwV 3 hts (goodIn_app (goodIn_r _ [18, 19, 20, 4] rfl (by decide +kernel)) (goodIn_app (goodIn_r wqM_add0 [21, 22, 23, 24, 25, 26] rfl (by decide +kernel)) (goodIn_sub (fun _ h => (List.mem_append_right _ h)) (by decide +kernel)))) rfl rfl rfl (by decide +kernel) ⟨Nat.le_of_ble_eq_true rfl, Nat.le_of_ble_eq_true rfl⟩) ⟨PcW.blind, va_recv hK hP (ci := 14) (q0 := 0) rfl rfl, PcW.mk hE hS hAF hP hD⟩ rfl rfl hl.1 rfl (lv_room (Nat.le_of_ble_eq_true rfl)) dX12_number_134 ⟨Nat.le_of_ble_eq_true rfl, Nat.le_of_ble_eq_true rfl⟩) hS (fun q _ h => hFc q h) hFc (fun u t H1 locs ht hvm hw hB hz1 hk1 hS => ?_)
          obtain ⟨n15, rfl⟩ : ∃ z, z = u := ⟨_, rfl⟩
          have hr14 : n15.toInt = (st 3).toInt + 1 := hw
          obtain ⟨hP1, hD1⟩ := hB
          rw [ht] at hP1
          have hD1 := hD1.weaken (fun _ q _ h => hFc q.1 h)
          clear hP hD hFc hk1 hz1
          have hP := hP1
          have hD := hD1
          clear hP1 hD1
          generalize H1 = H at hP hS ⊢
          have hP : va_P D vwCl (MW cy ad (upd st 3 n15) (updA (updA (updA ar 4 (upd (ar 4) (st 3).toNatClampNeg (1 : Int32))) 5 (upd (ar 5) (st 3).toNatClampNeg k0)) 7 (upd (ar 7) (st 3).toNatClampNeg 0)) (updJ lo 6 (vp_updL (lo 6) (st 3).toNatClampNeg y2)) re) H := hP
          have hD : va_D A (MW cy ad (upd st 3 n15) (updA (updA (updA ar 4 (upd (ar 4) (st 3).toNatClampNeg (1 : Int32))) 5 (upd (ar 5) (st 3).toNatClampNeg k0)) 7 (upd (ar 7) (st 3).toNatClampNeg 0)) (updJ lo 6 (vp_updL (lo 6) (st 3).toNatClampNeg y2)) re) := hD
          refine W.widen (k := 0) (n := 0) (Nat.le_of_ble_eq_true rfl) (Nat.le_of_ble_eq_true rfl) ?_
          refine lv_aload_n hx hb dX12_number_137 rfl (lv_at hl 4 rfl) ?_
          refine va_get (D := D) (ci := 14) (v := .ref (ad 7)) (C := RX12) (T := TX12) (N := 60) hx hb hts (fun _ h => (List.mem_append_right _ h)) hown hK hP 0 rfl rfl 7 (by decide) (hts (.fieldLink RX12 23 "PhraseDeskModel" "scale" "[I") (List.mem_of_getElem? (i := 26) rfl)) (fun _ h9 => h9) rfl dX12_number_138 ?_
          refine lv_aload_n hx hb dX12_number_141 rfl (lv_at hl 4 rfl) ?_
          refine va_get (D := D) (ci := 14) (v := .int n15) (C := RX12) (T := TX12) (N := 60) hx hb hts (fun _ h => (List.mem_append_right _ h)) hown hK hP 0 rfl rfl 3 (by decide) (hts (.fieldLink RX12 144 "PhraseDeskModel" "tokens" "I") (List.mem_of_getElem? (i := 23) rfl)) (fun _ h9 => h9) rfl dX12_number_142 ?_
          refine lv_iconst (v := 1) hx hb dX12_number_145 (by decide +kernel) ?_
          refine lv_isub hx hb dX12_number_146 ?_
          refine lv_topi (fun x16 ex16 => ?_)
          have tx16 := (v_number_8 st ar lo re k0 y1 y2 r3 x5 r6 n15 x16 hpre hi4 hr3 c4 ex5 tx5 hr6 c7 c8 hr14 ex16)
          refine lv_iload hx hb dX12_number_147 (lv_at hl 0 rfl) ?_
          refine va_iast hx hb hK hP hD hS 5 0 rfl rfl (v_number_9 st ar lo re k0 y1 y2 r3 x5 r6 n15 x16 hpre hi4 hr3 c4 ex5 tx5 hr6 c7 c8 hr14 ex16 tx16) dX12_number_149 (fun H locs hP hD hS => ?_)
          have hP : va_P D vwCl (MW cy ad (upd st 3 n15) (updA (updA (updA ar 4 (upd (ar 4) (st 3).toNatClampNeg (1 : Int32))) 5 (upd (ar 5) (st 3).toNatClampNeg k0)) 7 (upd (upd (ar 7) (st 3).toNatClampNeg 0) x16.toNatClampNeg 0)) (updJ lo 6 (vp_updL (lo 6) (st 3).toNatClampNeg y2)) re) H := hP
          have hD : va_D A (MW cy ad (upd st 3 n15) (updA (updA (updA ar 4 (upd (ar 4) (st 3).toNatClampNeg (1 : Int32))) 5 (upd (ar 5) (st 3).toNatClampNeg k0)) 7 (upd (upd (ar 7) (st 3).toNatClampNeg 0) x16.toNatClampNeg 0)) (updJ lo 6 (vp_updL (lo 6) (st 3).toNatClampNeg y2)) re) := hD
          refine lv_iload_n hx hb dX12_number_150 rfl (lv_at hl 3 rfl) ?_
          refine W.widen (k := 0) (n := 0) (Nat.le_of_ble_eq_true rfl) (Nat.le_of_ble_eq_true rfl) ?_
          exact W.iret (v := y1) hx hb hr (fun t ht hW => ⟨⟨y1, ⟨n15, (st 8), (st 9), (upd (ar 4) (st 3).toNatClampNeg (1 : Int32)), (upd (ar 5) (st 3).toNatClampNeg k0), (upd (upd (ar 7) (st 3).toNatClampNeg 0) x16.toNatClampNeg 0), (vp_updL (lo 6) (st 3).toNatClampNeg y2)⟩, rfl, (v_number_10 st ar lo re k0 y1 y2 r3 x5 r6 n15 x16 hpre hi4 hr3 c4 ex5 tx5 hr6 c7 c8 hr14 ex16 tx16), by rw [ht]; exact hP, hD⟩, hS.F ht⟩) hS.2.2 dX12_number_151
      · have c7 : r6.toInt = (46) := by have h := z_eq c7; rw [show (46 : Int32).toInt = 46 from by decide +kernel] at h; exact h
        refine lv_aload_n hx hb dX12_number_53 rfl (lv_at hl 4 rfl) ?_
        refine lv_iload_n hx hb dX12_number_54 rfl (lv_at hl 3 rfl) ?_
        refine lv_iconst (v := 1) hx hb dX12_number_55 (by decide +kernel) ?_
        refine lv_iadd hx hb dX12_number_56 ?_
        refine lv_topi (fun x17 ex17 => ?_)
        have tx17 := (v_number_11 st ar lo re k0 y1 y2 r3 x5 r6 x17 hpre hi4 hr3 c4 ex5 tx5 hr6 c7 ex17)
        have hFc := freeAll hD hS hA
        refine va_calli (va_runV (As := [.int x17]) (rest := []) ⟨hx, hb, hml, hown, hts⟩ (M_digit l D cy sz0 sa ad st ar lo re H.size x17 (v_number_12 st ar lo re k0 y1 y2 r3 x5 r6 x17 hpre hi4 hr3 c4 ex5 tx5 hr6 c7 ex17 tx17)) (cwV 1 hts (goodIn_app (goodIn_r _ [1, 2, 3, 4] rfl (by decide +kernel)) (goodIn_app (goodIn_r wqM_digit0 [5, 6, 7, 8, 4, 9, 10, 11] rfl (by decide +kernel)) (goodIn_sub (fun _ h => (List.mem_append_right _ h)) (by decide +kernel)))) rfl rfl rfl (by decide +kernel) ⟨Nat.le_of_ble_eq_true rfl, Nat.le_of_ble_eq_true rfl⟩) ⟨PcW.blind, va_recv hK hP (ci := 14) (q0 := 0) rfl rfl, PcW.mk hE hS hAF hP hD⟩ rfl rfl hl.1 rfl (lv_room (Nat.le_of_ble_eq_true rfl)) dX12_number_57 ⟨Nat.le_of_ble_eq_true rfl, Nat.le_of_ble_eq_true rfl⟩) hS (fun q _ h => hFc q h) hFc (fun r18 u t H1 locs ht hvm hw hB hz1 hk1 hS => ?_)
        have hr18 : (r18.toInt = 0 ∧ ¬ (x17.toInt < (st 1).toInt ∧ 48 ≤ ((ar 2) x17.toNatClampNeg).toInt ∧ ((ar 2) x17.toNatClampNeg).toInt ≤ 57)) ∨ (r18.toInt = 1 ∧ (x17.toInt < (st 1).toInt ∧ 48 ≤ ((ar 2) x17.toNatClampNeg).toInt ∧ ((ar 2) x17.toNatClampNeg).toInt ≤ 57)) := hw
        obtain ⟨hP1, hD1⟩ := hB
        rw [ht] at hP1
        have hD1 := hD1.weaken (fun _ q _ h => hFc q.1 h)
        clear hP hD hFc hk1 hz1
        have hP := hP1
        have hD := hD1
        clear hP1 hD1
        generalize H1 = H at hP hS ⊢
        have hP : va_P D vwCl (MW cy ad st ar lo re) H := hP
        have hD : va_D A (MW cy ad st ar lo re) := hD
        refine W.widen (k := 0) (n := 0) (Nat.le_of_ble_eq_true rfl) (Nat.le_of_ble_eq_true rfl) ?_
        refine lv_if_eq (tgt := 100) hx hb dX12_number_60 (by decide) (fun c19 => ?_) (fun c19 => ?_)
        · have c19 : r18.toInt = (0) := by have h := z_eq c19; rw [show (0 : Int32).toInt = 0 from by decide +kernel] at h; exact h
          refine lv_iload hx hb dX12_number_100 (lv_at hl 1 rfl) ?_
          refine lv_bipush (v := 6) hx hb dX12_number_102 (by decide +kernel) ?_
          refine lv_icmp_gt (tgt := 113) hx hb dX12_number_104 (by decide) (fun c20 => ?_) (fun c20 => ?_)
          · have c20 : (6) < x5.toInt := by have h := z_lt c20; rw [show (6 : Int32).toInt = 6 from by decide +kernel] at h; exact h
            refine lv_aload_n hx hb dX12_number_113 rfl (lv_at hl 4 rfl) ?_
            refine lv_iconst (v := 1) hx hb dX12_number_114 (by decide +kernel) ?_
            refine lv_iload_n hx hb dX12_number_115 rfl (lv_at hl 5 rfl) ?_
            have hFc := freeAll hD hS hA
            refine va_callv (va_runV (As := [.int 1, .int k0]) (rest := []) ⟨hx, hb, hml, hown, hts⟩ (M_wrong l D cy sz0 sa ad st ar lo re H.size 1 k0 (v_number_13 st ar lo re k0 y1 y2 r3 x5 r6 x17 r18 hpre hi4 hr3 c4 ex5 tx5 hr6 c7 ex17 tx17 hr18 c19 c20)) (cwV 2 hts (goodIn_app (goodIn_r _ [12, 13, 14, 4] rfl (by decide +kernel)) (goodIn_app (goodIn_r wqM_wrong0 [15, 16, 17] rfl (by decide +kernel)) (goodIn_sub (fun _ h => (List.mem_append_right _ h)) (by decide +kernel)))) rfl rfl rfl (by decide +kernel) ⟨Nat.le_of_ble_eq_true rfl, Nat.le_of_ble_eq_true rfl⟩) ⟨PcW.blind, va_recv hK hP (ci := 14) (q0 := 0) rfl rfl, PcW.mk hE hS hAF hP hD⟩ rfl rfl hl.1 rfl (lv_room (Nat.le_of_ble_eq_true rfl)) dX12_number_116 ⟨Nat.le_of_ble_eq_true rfl, Nat.le_of_ble_eq_true rfl⟩) hS (fun q _ h => hFc q h) hFc (fun u t H1 locs ht hvm hw hB hz1 hk1 hS => ?_)
            obtain ⟨n22, n23⟩ := u
            have hr21 : ((st 8).toInt = 0 → n22 = (1 : Int32)) ∧ (¬ (st 8).toInt = 0 → n22 = (st 8)) := hw
            obtain ⟨hP1, hD1⟩ := hB
            rw [ht] at hP1
            have hD1 := hD1.weaken (fun _ q _ h => hFc q.1 h)
            clear hP hD hFc hk1 hz1
            have hP := hP1
            have hD := hD1
            clear hP1 hD1
            generalize H1 = H at hP hS ⊢
            have hP : va_P D vwCl (MW cy ad (upd (upd st 8 n22) 9 n23) ar lo re) H := hP
            have hD : va_D A (MW cy ad (upd (upd st 8 n22) 9 n23) ar lo re) := hD
            refine W.widen (k := 0) (n := 0) (Nat.le_of_ble_eq_true rfl) (Nat.le_of_ble_eq_true rfl) ?_
            refine lv_iload_n hx hb dX12_number_119 rfl (lv_at hl 3 rfl) ?_
            refine W.widen (k := 0) (n := 0) (Nat.le_of_ble_eq_true rfl) (Nat.le_of_ble_eq_true rfl) ?_
            exact W.iret (v := y1) hx hb hr (fun t ht hW => ⟨⟨y1, ⟨(st 3), n22, n23, (ar 4), (ar 5), (ar 7), (lo 6)⟩, rfl, (v_number_14 st ar lo re k0 y1 y2 r3 x5 r6 x17 r18 n22 n23 hpre hi4 hr3 c4 ex5 tx5 hr6 c7 ex17 tx17 hr18 c19 c20 hr21), by rw [ht]; exact hP, hD⟩, hS.F ht⟩) hS.2.2 dX12_number_120
          · have c20 : x5.toInt ≤ (6) := by have h := z_nlt c20; rw [show (6 : Int32).toInt = 6 from by decide +kernel] at h; exact h
            refine lv_iload hx hb dX12_number_107 (lv_at hl 0 rfl) ?_
            refine lv_iconst (v := 3) hx hb dX12_number_109 (by decide +kernel) ?_
            refine lv_icmp_le (tgt := 121) hx hb dX12_number_110 (by decide) (fun _ => ?_) (fun c24 => absurd (by decide +kernel) c24)
            refine lv_aload_n hx hb dX12_number_121 rfl (lv_at hl 4 rfl) ?_
            refine lv_iload hx hb dX12_number_122 (lv_at hl 0 rfl) ?_
            refine lv_if_le (tgt := 131) hx hb dX12_number_124 (by decide) (fun _ => ?_) (fun c25 => absurd (by decide +kernel) c25)
            refine lv_iconst (v := 1) hx hb dX12_number_131 (by decide +kernel) ?_
            refine lv_iload_n hx hb dX12_number_132 rfl (lv_at hl 5 rfl) ?_
            refine lv_lload_n hx hb dX12_number_133 rfl (lv_at hl 2 rfl) ?_
            have hFc := freeAll hD hS hA
            refine va_callv (va_runV (As := [.int 1, .int k0, .long y2]) (rest := []) ⟨hx, hb, hml, hown, hts⟩ (M_add l D cy sz0 sa ad st ar lo re H.size 1 k0 y2 (v_number_15 st ar lo re k0 y1 y2 r3 x5 r6 x17 r18 hpre hi4 hr3 c4 ex5 tx5 hr6 c7 ex17 tx17 hr18 c19 c20)) (cwV 3 hts (goodIn_app (goodIn_r _ [18, 19, 20, 4] rfl (by decide +kernel)) (goodIn_app (goodIn_r wqM_add0 [21, 22, 23, 24, 25, 26] rfl (by decide +kernel)) (goodIn_sub (fun _ h => (List.mem_append_right _ h)) (by decide +kernel)))) rfl rfl rfl (by decide +kernel) ⟨Nat.le_of_ble_eq_true rfl, Nat.le_of_ble_eq_true rfl⟩) ⟨PcW.blind, va_recv hK hP (ci := 14) (q0 := 0) rfl rfl, PcW.mk hE hS hAF hP hD⟩ rfl rfl hl.1 rfl (lv_room (Nat.le_of_ble_eq_true rfl)) dX12_number_134 ⟨Nat.le_of_ble_eq_true rfl, Nat.le_of_ble_eq_true rfl⟩) hS (fun q _ h => hFc q h) hFc (fun u t H1 locs ht hvm hw hB hz1 hk1 hS => ?_)
            obtain ⟨n27, rfl⟩ : ∃ z, z = u := ⟨_, rfl⟩
            have hr26 : n27.toInt = (st 3).toInt + 1 := hw
            obtain ⟨hP1, hD1⟩ := hB
            rw [ht] at hP1
            have hD1 := hD1.weaken (fun _ q _ h => hFc q.1 h)
            clear hP hD hFc hk1 hz1
            have hP := hP1
            have hD := hD1
            clear hP1 hD1
            generalize H1 = H at hP hS ⊢
            have hP : va_P D vwCl (MW cy ad (upd st 3 n27) (updA (updA (updA ar 4 (upd (ar 4) (st 3).toNatClampNeg (1 : Int32))) 5 (upd (ar 5) (st 3).toNatClampNeg k0)) 7 (upd (ar 7) (st 3).toNatClampNeg 0)) (updJ lo 6 (vp_updL (lo 6) (st 3).toNatClampNeg y2)) re) H := hP
            have hD : va_D A (MW cy ad (upd st 3 n27) (updA (updA (updA ar 4 (upd (ar 4) (st 3).toNatClampNeg (1 : Int32))) 5 (upd (ar 5) (st 3).toNatClampNeg k0)) 7 (upd (ar 7) (st 3).toNatClampNeg 0)) (updJ lo 6 (vp_updL (lo 6) (st 3).toNatClampNeg y2)) re) := hD
            refine W.widen (k := 0) (n := 0) (Nat.le_of_ble_eq_true rfl) (Nat.le_of_ble_eq_true rfl) ?_
            refine lv_aload_n hx hb dX12_number_137 rfl (lv_at hl 4 rfl) ?_
            refine va_get (D := D) (ci := 14) (v := .ref (ad 7)) (C := RX12) (T := TX12) (N := 60) hx hb hts (fun _ h => (List.mem_append_right _ h)) hown hK hP 0 rfl rfl 7 (by decide) (hts (.fieldLink RX12 23 "PhraseDeskModel" "scale" "[I") (List.mem_of_getElem? (i := 26) rfl)) (fun _ h9 => h9) rfl dX12_number_138 ?_
            refine lv_aload_n hx hb dX12_number_141 rfl (lv_at hl 4 rfl) ?_
            refine va_get (D := D) (ci := 14) (v := .int n27) (C := RX12) (T := TX12) (N := 60) hx hb hts (fun _ h => (List.mem_append_right _ h)) hown hK hP 0 rfl rfl 3 (by decide) (hts (.fieldLink RX12 144 "PhraseDeskModel" "tokens" "I") (List.mem_of_getElem? (i := 23) rfl)) (fun _ h9 => h9) rfl dX12_number_142 ?_
            refine lv_iconst (v := 1) hx hb dX12_number_145 (by decide +kernel) ?_
            refine lv_isub hx hb dX12_number_146 ?_
            refine lv_topi (fun x28 ex28 => ?_)
            have tx28 := (v_number_16 st ar lo re k0 y1 y2 r3 x5 r6 x17 r18 n27 x28 hpre hi4 hr3 c4 ex5 tx5 hr6 c7 ex17 tx17 hr18 c19 c20 hr26 ex28)
            refine lv_iload hx hb dX12_number_147 (lv_at hl 0 rfl) ?_
            refine va_iast hx hb hK hP hD hS 5 0 rfl rfl (v_number_17 st ar lo re k0 y1 y2 r3 x5 r6 x17 r18 n27 x28 hpre hi4 hr3 c4 ex5 tx5 hr6 c7 ex17 tx17 hr18 c19 c20 hr26 ex28 tx28) dX12_number_149 (fun H locs hP hD hS => ?_)
            have hP : va_P D vwCl (MW cy ad (upd st 3 n27) (updA (updA (updA ar 4 (upd (ar 4) (st 3).toNatClampNeg (1 : Int32))) 5 (upd (ar 5) (st 3).toNatClampNeg k0)) 7 (upd (upd (ar 7) (st 3).toNatClampNeg 0) x28.toNatClampNeg 0)) (updJ lo 6 (vp_updL (lo 6) (st 3).toNatClampNeg y2)) re) H := hP
            have hD : va_D A (MW cy ad (upd st 3 n27) (updA (updA (updA ar 4 (upd (ar 4) (st 3).toNatClampNeg (1 : Int32))) 5 (upd (ar 5) (st 3).toNatClampNeg k0)) 7 (upd (upd (ar 7) (st 3).toNatClampNeg 0) x28.toNatClampNeg 0)) (updJ lo 6 (vp_updL (lo 6) (st 3).toNatClampNeg y2)) re) := hD
            refine lv_iload_n hx hb dX12_number_150 rfl (lv_at hl 3 rfl) ?_
            refine W.widen (k := 0) (n := 0) (Nat.le_of_ble_eq_true rfl) (Nat.le_of_ble_eq_true rfl) ?_
            exact W.iret (v := y1) hx hb hr (fun t ht hW => ⟨⟨y1, ⟨n27, (st 8), (st 9), (upd (ar 4) (st 3).toNatClampNeg (1 : Int32)), (upd (ar 5) (st 3).toNatClampNeg k0), (upd (upd (ar 7) (st 3).toNatClampNeg 0) x28.toNatClampNeg 0), (vp_updL (lo 6) (st 3).toNatClampNeg y2)⟩, rfl, (v_number_18 st ar lo re k0 y1 y2 r3 x5 r6 x17 r18 n27 x28 hpre hi4 hr3 c4 ex5 tx5 hr6 c7 ex17 tx17 hr18 c19 c20 hr26 ex28 tx28), by rw [ht]; exact hP, hD⟩, hS.F ht⟩) hS.2.2 dX12_number_151
        · have c19 : ¬ r18.toInt = (0) := by have h := z_ne c19; rw [show (0 : Int32).toInt = 0 from by decide +kernel] at h; exact h
          obtain ⟨x29, ex29⟩ : ∃ y : Int32, y = y1 + 1 := ⟨_, rfl⟩
          have tx29 := (v_number_19 st ar lo re k0 y1 y2 r3 x5 r6 x17 r18 x29 hpre hi4 hr3 c4 ex5 tx5 hr6 c7 ex17 tx17 hr18 c19 ex29)
          refine lv_iinc (v := x29) (lv' := [(2, .int x29), (6, .int 0), (5, .int x5), (3, .long y2), (0, .ref (ad 0)), (1, .int k0)]) hx hb dX12_number_63 hl (k := 3) rfl (by rw [ex29]; rfl) (by decide) rfl (fun ls hl => ?_)
          exact L_number_66_2 l D cy sz0 sa ad A st ar lo re k0 y1 y2 r3 x5 r6 x17 r18 x29 hx hb hr hml hown hts hlocks hE hAF hA hpre hi4 hr3 c4 ex5 tx5 hr6 c7 ex17 tx17 hr18 c19 ex29 tx29 (((st 1).toInt - x29.toInt).toNat + 1) x29 y2 0 _ _ _ (Nat.lt_succ_self _) (v_number_20 st ar lo re k0 y1 y2 r3 x5 r6 x17 r18 x29 hpre hi4 hr3 c4 ex5 tx5 hr6 c7 ex17 tx17 hr18 c19 ex29 tx29) hP hD hS (lv_sub hl [0, 1, 2, 3, 4, 5] rfl)
    · have c4 : ¬ r3.toInt = (0) := by have h := z_ne c4; rw [show (0 : Int32).toInt = 0 from by decide +kernel] at h; exact h
      refine lv_lload_n hx hb dX12_number_12 rfl (lv_at hl 0 rfl) ?_
      refine lv_ldc2 (v := 10) hx hb hown (hts (.constantLong RX12 151 (10)) (List.mem_of_getElem? (i := 27) rfl)) dX12_number_13 ?_
      refine lv_lmul hx hb dX12_number_16 ?_
      refine lv_topl (fun x57 ex57 => ?_)
      refine lv_aload_n hx hb dX12_number_17 rfl (lv_at hl 2 rfl) ?_
      refine lv_iload_n hx hb dX12_number_18 rfl (lv_at hl 1 rfl) ?_
      have hFc := freeAll hD hS hA
      refine va_calli (va_runV (As := [.int y1]) (rest := [.long x57]) ⟨hx, hb, hml, hown, hts⟩ (M_at l D cy sz0 sa ad st ar lo re H.size y1 (v_number_39 st ar lo re k0 y1 y2 r3 x57 hpre hi4 hr3 c4 ex57)) (cwV 1 hts (goodIn_app (goodIn_r _ [6, 7, 8, 4] rfl (by decide +kernel)) (goodIn_app (goodIn_r wqM_at0 [9, 10, 11] rfl (by decide +kernel)) (goodIn_sub (fun _ h => (List.mem_append_right _ h)) (by decide +kernel)))) rfl rfl rfl (by decide +kernel) ⟨Nat.le_of_ble_eq_true rfl, Nat.le_of_ble_eq_true rfl⟩) ⟨PcW.blind, va_recv hK hP (ci := 14) (q0 := 0) rfl rfl, PcW.mk hE hS hAF hP hD⟩ rfl rfl hl.1 rfl (lv_room (Nat.le_of_ble_eq_true rfl)) dX12_number_19 ⟨Nat.le_of_ble_eq_true rfl, Nat.le_of_ble_eq_true rfl⟩) hS (fun q _ h => hFc q h) hFc (fun r58 u t H1 locs ht hvm hw hB hz1 hk1 hS => ?_)
      have hr58 : (y1.toInt < (st 1).toInt ∧ r58.toInt = ((ar 2) y1.toNatClampNeg).toInt) ∨ ((st 1).toInt ≤ y1.toInt ∧ r58.toInt = 0) := hw
      obtain ⟨hP1, hD1⟩ := hB
      rw [ht] at hP1
      have hD1 := hD1.weaken (fun _ q _ h => hFc q.1 h)
      clear hP hD hFc hk1 hz1
      have hP := hP1
      have hD := hD1
      clear hP1 hD1
      generalize H1 = H at hP hS ⊢
      have hP : va_P D vwCl (MW cy ad st ar lo re) H := hP
      have hD : va_D A (MW cy ad st ar lo re) := hD
      refine W.widen (k := 0) (n := 0) (Nat.le_of_ble_eq_true rfl) (Nat.le_of_ble_eq_true rfl) ?_
      refine lv_i2l hx hb dX12_number_22 rfl ?_
      refine lv_topl (fun x59 ex59 => ?_)
      have tx59 : x59.toInt = r58.toInt := by rw [ex59]; exact Int32.toInt_toInt64 _
      refine lv_ladd hx hb dX12_number_23 ?_
      refine lv_topl (fun x60 ex60 => ?_)
      refine lv_ldc2 (v := 48) hx hb hown (hts (.constantLong RX12 153 (48)) (List.mem_of_getElem? (i := 28) rfl)) dX12_number_24 ?_
      refine lv_lsub hx hb dX12_number_27 ?_
      refine lv_topl (fun x61 ex61 => ?_)
      refine lv_lstore_n (lv' := [(3, .long x61), (2, .int y1), (0, .ref (ad 0)), (1, .int k0)]) hx hb dX12_number_28 rfl hl (by decide) rfl (fun ls hl => ?_)
      obtain ⟨x62, ex62⟩ : ∃ y : Int32, y = y1 + 1 := ⟨_, rfl⟩
      have tx62 := (v_number_40 st ar lo re k0 y1 y2 r3 x57 r58 x59 x60 x61 x62 hpre hi4 hr3 c4 ex57 hr58 ex59 tx59 ex60 ex61 ex62)
      refine lv_iinc (v := x62) (lv' := [(2, .int x62), (3, .long x61), (0, .ref (ad 0)), (1, .int k0)]) hx hb dX12_number_29 hl (k := 1) rfl (by rw [ex62]; rfl) (by decide) rfl (fun ls hl => ?_)
      refine lv_goto (tgt := 4) hx hb dX12_number_32 (by decide) ?_
      exact ih4 x62 x61 _ _ _ (Nat.lt_of_lt_of_le (v_number_42 st ar lo re k0 y1 y2 r3 x57 r58 x59 x60 x61 x62 hpre hi4 hr3 c4 ex57 hr58 ex59 tx59 ex60 ex61 ex62 tx62) (Nat.le_of_lt_succ hn4)) (v_number_41 st ar lo re k0 y1 y2 r3 x57 r58 x59 x60 x61 x62 hpre hi4 hr3 c4 ex57 hr58 ex59 tx59 ex60 ex61 ex62 tx62) hP hD hS (lv_sub hl [1, 0, 2, 3] rfl)
set_option maxHeartbeats 4000000 in
set_option maxRecDepth 100000 in
theorem M_number (l : Launch) (D : va_G) (cy : Nat → ClassId) (sz0 : Nat) (sa : Nat → Nat) (ad : Nat → Nat) (st : Nat → Int32) (ar : Nat → Nat → Int32) (lo : Nat → Nat → Int64) (re : Nat → UInt64) (sz : Nat) (k0 : Int32) (hpre : 0 ≤ (st 1).toInt ∧ (st 1).toInt ≤ 40 ∧ 0 ≤ (st 3).toInt ∧ (st 3).toInt ≤ k0.toInt ∧ k0.toInt < (st 1).toInt ∧ TKok (ar 4) (lo 6) (ar 7) (st 3).toInt ∧ (k0.toInt < (st 1).toInt ∧ 48 ≤ ((ar 2) k0.toNatClampNeg).toInt ∧ ((ar 2) k0.toNatClampNeg).toInt ≤ 57)) : Met l yX12_number wqM_number ({ frames := 2, cells := 0, slots := 0, locals := 42 }) (PcW D cy sz0 sa [.ref (ad 0), .int k0] (MW cy ad st ar lo re) sz) (va_Qi (fun (r : Int32) (u : Int32 × Int32 × Int32 × (Nat → Int32) × (Nat → Int32) × (Nat → Int32) × (Nat → Int64)) => k0.toInt < r.toInt ∧ r.toInt ≤ (st 1).toInt ∧ 0 ≤ u.1.toInt ∧ u.1.toInt ≤ r.toInt ∧ TKok u.2.2.2.1 u.2.2.2.2.2.2 u.2.2.2.2.2.1 u.1.toInt) (fun (u : Int32 × Int32 × Int32 × (Nat → Int32) × (Nat → Int32) × (Nat → Int32) × (Nat → Int64)) (t : State) => BW D (MW cy ad (upd (upd (upd st 3 u.1) 8 u.2.1) 9 u.2.2.1) (updA (updA (updA ar 4 u.2.2.2.1) 5 u.2.2.2.2.1) 7 u.2.2.2.2.2.1) (updJ lo 6 u.2.2.2.2.2.2) re) (va_A (MW cy ad st ar lo re) sz) t) (va_A (MW cy ad st ar lo re) sz)) 0 0 (va_A (MW cy ad st ar lo re) sz) := by
  refine Met.ofW (cc := cX12_number) (maxL := 7) (ret := (some .int)) (by decide) rfl ?_
  intro p e s m args below meth c s₁ B hml hv
  obtain ⟨rfl, hsz, hP, hD0, hE⟩ := hv
  have hx := B.exec
  have hb := B.bytes
  have hr := B.returns
  have hts := atoms_spec (ws := wqM_number) B.pre
  have hown : s.vm.findClass RX12 = some m.cls := findClass_of_methodNamed B.named
  have hlocks := B.notSynchronized
  subst hsz
  have hK := hE.1
  have hD := hD0.self (sz := s.heap.size)
  have hAF := frA hD0 hE.2.1
  generalize hAe : va_A (MW cy ad st ar lo re) s.heap.size = A at hD hAF ⊢
  have hA : ∀ q : Nat, s.heap.size ≤ q → A q := fun q h => by rw [← hAe]; exact Or.inr h
  have hS : va_S A s.heap s.heap [] := va_S.rf
  have hl := lv_entry ([.ref (ad 0), .int k0]) (n := 7) (Nat.le_of_ble_eq_true rfl)
  rw [lg_entry_eq]
  generalize (lg_sl ([.ref (ad 0), .int k0]) ++ List.replicate (7 - (lg_sl ([.ref (ad 0), .int k0])).length) Slot.unset).toArray = ls at hl ⊢
  have hl : lv_has ls 7 [(0, .ref (ad 0)), (1, .int k0)] := hl
  refine lv_iload_n hx hb dX12_number_0 rfl (lv_at hl 1 rfl) ?_
  refine lv_istore_n (lv' := [(2, .int k0), (0, .ref (ad 0)), (1, .int k0)]) hx hb dX12_number_1 rfl hl (by decide) rfl (fun ls hl => ?_)
  refine lv_lconst (v := 0) hx hb dX12_number_2 rfl ?_
  refine lv_lstore_n (lv' := [(3, .long 0), (2, .int k0), (0, .ref (ad 0)), (1, .int k0)]) hx hb dX12_number_3 rfl hl (by decide) rfl (fun ls hl => ?_)
  exact L_number_4_1 l D cy sz0 sa ad A st ar lo re k0 hx hb hr hml hown hts hlocks hE hAF hA hpre (((st 1).toInt - k0.toInt).toNat + 1) k0 0 _ _ _ (Nat.lt_succ_self _) (v_number_1 st ar lo re k0 hpre) hP hD hS (lv_sub hl [0, 1, 2, 3] rfl)

def wqM_quoted0 : List Cond := [.code yX12_quoted cX12_quoted 5 (some .int), .fieldLink RX12 131 "PhraseDeskModel" "size" "I", .methodLink RX12 134 yX12_at, .instanceMethod yX12_at, .selects RX12 yX12_at yX12_at, .initialized RX12, .code yX12_at cX12_at 2 (some .int), .fieldLink RX12 7 "PhraseDeskModel" "letters" "[I", .methodLink RX12 159 yX12_add, .instanceMethod yX12_add, .selects RX12 yX12_add yX12_add, .code yX12_add cX12_add 5 none, .fieldLink RX12 13 "PhraseDeskModel" "tokenKind" "[I", .fieldLink RX12 144 "PhraseDeskModel" "tokens" "I", .fieldLink RX12 16 "PhraseDeskModel" "tokenAt" "[I", .fieldLink RX12 19 "PhraseDeskModel" "token" "[J", .fieldLink RX12 23 "PhraseDeskModel" "scale" "[I", .methodLink RX12 155 yX12_wrong, .instanceMethod yX12_wrong, .selects RX12 yX12_wrong yX12_wrong, .code yX12_wrong cX12_wrong 3 none, .fieldLink RX12 138 "PhraseDeskModel" "error" "I", .fieldLink RX12 141 "PhraseDeskModel" "where" "I"]
def wqM_quoted : List Cond := wqM_quoted0 ++ wsX120
set_option maxHeartbeats 4000000 in
set_option maxRecDepth 100000 in
theorem L_quoted_6_1 {p : Program} {e : Env} {s : State} {m : MethodId} {below : List Frame} {meth : Method} {c : Code} (l : Launch) (D : va_G) (cy : Nat → ClassId) (sz0 : Nat) (sa : Nat → Nat) (ad : Nat → Nat) (A : Nat → Prop) (st : Nat → Int32) (ar : Nat → Nat → Int32) (lo : Nat → Nat → Int64) (re : Nat → UInt64) (k0 : Int32) (x1 : Int32) (hx : p.tables.exec = Jvm.exec) (hb : c.code = cX12_quoted) (hr : meth.sig.returnType = (some .int)) (hml : c.maxLocals = 5) (hown : s.vm.findClass RX12 = some m.cls) (hts : ∀ w ∈ wqM_quoted, w.before #[.ref (ad 0), .int k0] s = true) (hlocks : meth.locks = false) (hE : En D cy sz0 sa s) (hAF : ∀ q, A q → Fr sz0 q) (hA : ∀ q : Nat, s.heap.size ≤ q → A q) (hpre : 0 ≤ (st 1).toInt ∧ (st 1).toInt ≤ 40 ∧ 0 ≤ (st 3).toInt ∧ (st 3).toInt ≤ k0.toInt ∧ k0.toInt < (st 1).toInt ∧ TKok (ar 4) (lo 6) (ar 7) (st 3).toInt) (ex1 : x1 = k0 + 1) (tx1 : x1.toInt = k0.toInt + (1)) : ∀ (n : Nat) (y2 : Int32) (y3 : Int64) (H : Heap) (locs : List Loc) (ls : Array Slot), ((st 1).toInt - y2.toInt).toNat < n → (k0.toInt < y2.toInt ∧ y2.toInt ≤ (st 1).toInt) → va_P D vwCl (MW cy ad st ar lo re) H → va_D A (MW cy ad st ar lo re) → va_S A s.heap H locs → lv_has ls 5 [(3, .long y3), (2, .int y2), (0, .ref (ad 0)), (1, .int k0)] → W p l e (headSpec wqM_quoted ({ frames := 1, cells := 0, slots := 0, locals := 24 })).room s m #[.ref (ad 0), .int k0] below meth c H locs 0 0 (MQ below (va_Qi (fun (r : Int32) (u : Int32 × Int32 × Int32 × (Nat → Int32) × (Nat → Int32) × (Nat → Int32) × (Nat → Int64)) => k0.toInt < r.toInt ∧ r.toInt ≤ (st 1).toInt ∧ 0 ≤ u.1.toInt ∧ u.1.toInt ≤ r.toInt ∧ TKok u.2.2.2.1 u.2.2.2.2.2.2 u.2.2.2.2.2.1 u.1.toInt) (fun (u : Int32 × Int32 × Int32 × (Nat → Int32) × (Nat → Int32) × (Nat → Int32) × (Nat → Int64)) (t : State) => BW D (MW cy ad (upd (upd (upd st 3 u.1) 8 u.2.1) 9 u.2.2.1) (updA (updA (updA ar 4 u.2.2.2.1) 5 u.2.2.2.2.1) 7 u.2.2.2.2.2.1) (updJ lo 6 u.2.2.2.2.2.2) re) A t) A) #[.ref (ad 0), .int k0] s 0 0 A) (F0 m 6 ls []) := by
  have hK := hE.1
  intro n
  induction n with
  | zero => intro y2 y3 H locs ls hn; exact absurd hn (Nat.not_lt_zero _)
  | succ n ih6 =>
    intro y2 y3 H locs ls hn6 hi6 hP hD hS hl
    refine lv_iload_n hx hb dX12_quoted_6 rfl (lv_at hl 1 rfl) ?_
    refine lv_aload_n hx hb dX12_quoted_7 rfl (lv_at hl 2 rfl) ?_
    refine va_get (D := D) (ci := 14) (v := .int (st 1)) (C := RX12) (T := TX12) (N := 60) hx hb hts (fun _ h => (List.mem_append_right _ h)) hown hK hP 0 rfl rfl 1 (by decide) (hts (.fieldLink RX12 131 "PhraseDeskModel" "size" "I") (List.mem_of_getElem? (i := 1) rfl)) (fun _ h9 => h9) rfl dX12_quoted_8 ?_
    refine lv_icmp_ge (tgt := 56) hx hb dX12_quoted_11 (by decide) (fun c4 => ?_) (fun c4 => ?_)
    · have c4 : (st 1).toInt ≤ y2.toInt := by have h := z_le c4; exact h
      refine lv_aload_n hx hb dX12_quoted_56 rfl (lv_at hl 2 rfl) ?_
      refine lv_iload_n hx hb dX12_quoted_57 rfl (lv_at hl 1 rfl) ?_
      have hFc := freeAll hD hS hA
      refine va_calli (va_runV (As := [.int y2]) (rest := []) ⟨hx, hb, hml, hown, hts⟩ (M_at l D cy sz0 sa ad st ar lo re H.size y2 (v_quoted_3 st ar lo re k0 x1 y2 y3 hpre ex1 tx1 hi6 c4)) (cwV 1 hts (goodIn_app (goodIn_r _ [2, 3, 4, 5] rfl (by decide +kernel)) (goodIn_app (goodIn_r wqM_at0 [6, 1, 7] rfl (by decide +kernel)) (goodIn_sub (fun _ h => (List.mem_append_right _ h)) (by decide +kernel)))) rfl rfl rfl (by decide +kernel) ⟨Nat.le_of_ble_eq_true rfl, Nat.le_of_ble_eq_true rfl⟩) ⟨PcW.blind, va_recv hK hP (ci := 14) (q0 := 0) rfl rfl, PcW.mk hE hS hAF hP hD⟩ rfl rfl hl.1 rfl (lv_room (Nat.le_of_ble_eq_true rfl)) dX12_quoted_58 ⟨Nat.le_of_ble_eq_true rfl, Nat.le_of_ble_eq_true rfl⟩) hS (fun q _ h => hFc q h) hFc (fun r5 u t H1 locs ht hvm hw hB hz1 hk1 hS => ?_)
      have hr5 : (y2.toInt < (st 1).toInt ∧ r5.toInt = ((ar 2) y2.toNatClampNeg).toInt) ∨ ((st 1).toInt ≤ y2.toInt ∧ r5.toInt = 0) := hw
      obtain ⟨hP1, hD1⟩ := hB
      rw [ht] at hP1
      have hD1 := hD1.weaken (fun _ q _ h => hFc q.1 h)
      clear hP hD hFc hk1 hz1
      have hP := hP1
      have hD := hD1
      clear hP1 hD1
      generalize H1 = H at hP hS ⊢
      have hP : va_P D vwCl (MW cy ad st ar lo re) H := hP
      have hD : va_D A (MW cy ad st ar lo re) := hD
      refine W.widen (k := 0) (n := 0) (Nat.le_of_ble_eq_true rfl) (Nat.le_of_ble_eq_true rfl) ?_
      refine lv_bipush (v := 39) hx hb dX12_quoted_61 (by decide +kernel) ?_
      refine lv_icmp_eq (tgt := 77) hx hb dX12_quoted_63 (by decide) (fun c6 => ?_) (fun c6 => ?_)
      · have c6 : r5.toInt = (39) := by have h := z_eq c6; rw [show (39 : Int32).toInt = 39 from by decide +kernel] at h; exact h
        refine lv_aload_n hx hb dX12_quoted_77 rfl (lv_at hl 2 rfl) ?_
        refine lv_iconst (v := 4) hx hb dX12_quoted_78 (by decide +kernel) ?_
        refine lv_iload_n hx hb dX12_quoted_79 rfl (lv_at hl 3 rfl) ?_
        refine lv_lload_n hx hb dX12_quoted_80 rfl (lv_at hl 0 rfl) ?_
        refine lv_iload_n hx hb dX12_quoted_81 rfl (lv_at hl 1 rfl) ?_
        refine lv_iload_n hx hb dX12_quoted_82 rfl (lv_at hl 3 rfl) ?_
        refine lv_isub hx hb dX12_quoted_83 ?_
        refine lv_topi (fun x7 ex7 => ?_)
        have tx7 := (v_quoted_4 st ar lo re k0 x1 y2 y3 r5 x7 hpre ex1 tx1 hi6 c4 hr5 c6 ex7)
        refine lv_iconst (v := 1) hx hb dX12_quoted_84 (by decide +kernel) ?_
        refine lv_isub hx hb dX12_quoted_85 ?_
        refine lv_topi (fun x8 ex8 => ?_)
        have tx8 := (v_quoted_5 st ar lo re k0 x1 y2 y3 r5 x7 x8 hpre ex1 tx1 hi6 c4 hr5 c6 ex7 tx7 ex8)
        refine lv_i2l hx hb dX12_quoted_86 rfl ?_
        refine lv_topl (fun x9 ex9 => ?_)
        have tx9 : x9.toInt = x8.toInt := by rw [ex9]; exact Int32.toInt_toInt64 _
        refine lv_bipush (v := 56) hx hb dX12_quoted_87 (by decide +kernel) ?_
        refine lv_lshl hx hb dX12_quoted_89 rfl ?_
        refine lv_topl (fun x10 ex10 => ?_)
        refine lv_lor hx hb dX12_quoted_90 ?_
        refine lv_topl (fun x11 ex11 => ?_)
        have hFc := freeAll hD hS hA
        refine va_callv (va_runV (As := [.int 4, .int k0, .long x11]) (rest := []) ⟨hx, hb, hml, hown, hts⟩ (M_add l D cy sz0 sa ad st ar lo re H.size 4 k0 x11 (v_quoted_6 st ar lo re k0 x1 y2 y3 r5 x7 x8 x9 x10 x11 hpre ex1 tx1 hi6 c4 hr5 c6 ex7 tx7 ex8 tx8 ex9 tx9 ex10 ex11)) (cwV 3 hts (goodIn_app (goodIn_r _ [8, 9, 10, 5] rfl (by decide +kernel)) (goodIn_app (goodIn_r wqM_add0 [11, 12, 13, 14, 15, 16] rfl (by decide +kernel)) (goodIn_sub (fun _ h => (List.mem_append_right _ h)) (by decide +kernel)))) rfl rfl rfl (by decide +kernel) ⟨Nat.le_of_ble_eq_true rfl, Nat.le_of_ble_eq_true rfl⟩) ⟨PcW.blind, va_recv hK hP (ci := 14) (q0 := 0) rfl rfl, PcW.mk hE hS hAF hP hD⟩ rfl rfl hl.1 rfl (lv_room (Nat.le_of_ble_eq_true rfl)) dX12_quoted_91 ⟨Nat.le_of_ble_eq_true rfl, Nat.le_of_ble_eq_true rfl⟩) hS (fun q _ h => hFc q h) hFc (fun u t H1 locs ht hvm hw hB hz1 hk1 hS => ?_)
        obtain ⟨n13, rfl⟩ : ∃ z, z = u := ⟨_, rfl⟩
        have hr12 : n13.toInt = (st 3).toInt + 1 := hw
        obtain ⟨hP1, hD1⟩ := hB
        rw [ht] at hP1
        have hD1 := hD1.weaken (fun _ q _ h => hFc q.1 h)
        clear hP hD hFc hk1 hz1
        have hP := hP1
        have hD := hD1
        clear hP1 hD1
        generalize H1 = H at hP hS ⊢
        have hP : va_P D vwCl (MW cy ad (upd st 3 n13) (updA (updA (updA ar 4 (upd (ar 4) (st 3).toNatClampNeg (4 : Int32))) 5 (upd (ar 5) (st 3).toNatClampNeg k0)) 7 (upd (ar 7) (st 3).toNatClampNeg 0)) (updJ lo 6 (vp_updL (lo 6) (st 3).toNatClampNeg x11)) re) H := hP
        have hD : va_D A (MW cy ad (upd st 3 n13) (updA (updA (updA ar 4 (upd (ar 4) (st 3).toNatClampNeg (4 : Int32))) 5 (upd (ar 5) (st 3).toNatClampNeg k0)) 7 (upd (ar 7) (st 3).toNatClampNeg 0)) (updJ lo 6 (vp_updL (lo 6) (st 3).toNatClampNeg x11)) re) := hD
        refine W.widen (k := 0) (n := 0) (Nat.le_of_ble_eq_true rfl) (Nat.le_of_ble_eq_true rfl) ?_
        refine lv_iload_n hx hb dX12_quoted_94 rfl (lv_at hl 1 rfl) ?_
        refine lv_iconst (v := 1) hx hb dX12_quoted_95 (by decide +kernel) ?_
        refine lv_iadd hx hb dX12_quoted_96 ?_
        refine lv_topi (fun x14 ex14 => ?_)
        have tx14 := (v_quoted_7 st ar lo re k0 x1 y2 y3 r5 x7 x8 x9 x10 x11 n13 x14 hpre ex1 tx1 hi6 c4 hr5 c6 ex7 tx7 ex8 tx8 ex9 tx9 ex10 ex11 hr12 ex14)
        refine W.widen (k := 0) (n := 0) (Nat.le_of_ble_eq_true rfl) (Nat.le_of_ble_eq_true rfl) ?_
        exact W.iret (v := x14) hx hb hr (fun t ht hW => ⟨⟨x14, ⟨n13, (st 8), (st 9), (upd (ar 4) (st 3).toNatClampNeg (4 : Int32)), (upd (ar 5) (st 3).toNatClampNeg k0), (upd (ar 7) (st 3).toNatClampNeg 0), (vp_updL (lo 6) (st 3).toNatClampNeg x11)⟩, rfl, (v_quoted_8 st ar lo re k0 x1 y2 y3 r5 x7 x8 x9 x10 x11 n13 x14 hpre ex1 tx1 hi6 c4 hr5 c6 ex7 tx7 ex8 tx8 ex9 tx9 ex10 ex11 hr12 ex14 tx14), by rw [ht]; exact hP, hD⟩, hS.F ht⟩) hS.2.2 dX12_quoted_97
      · have c6 : ¬ r5.toInt = (39) := by have h := z_ne c6; rw [show (39 : Int32).toInt = 39 from by decide +kernel] at h; exact h
        refine lv_aload_n hx hb dX12_quoted_66 rfl (lv_at hl 2 rfl) ?_
        refine lv_iconst (v := 1) hx hb dX12_quoted_67 (by decide +kernel) ?_
        refine lv_iload_n hx hb dX12_quoted_68 rfl (lv_at hl 3 rfl) ?_
        have hFc := freeAll hD hS hA
        refine va_callv (va_runV (As := [.int 1, .int k0]) (rest := []) ⟨hx, hb, hml, hown, hts⟩ (M_wrong l D cy sz0 sa ad st ar lo re H.size 1 k0 (v_quoted_9 st ar lo re k0 x1 y2 y3 r5 hpre ex1 tx1 hi6 c4 hr5 c6)) (cwV 2 hts (goodIn_app (goodIn_r _ [17, 18, 19, 5] rfl (by decide +kernel)) (goodIn_app (goodIn_r wqM_wrong0 [20, 21, 22] rfl (by decide +kernel)) (goodIn_sub (fun _ h => (List.mem_append_right _ h)) (by decide +kernel)))) rfl rfl rfl (by decide +kernel) ⟨Nat.le_of_ble_eq_true rfl, Nat.le_of_ble_eq_true rfl⟩) ⟨PcW.blind, va_recv hK hP (ci := 14) (q0 := 0) rfl rfl, PcW.mk hE hS hAF hP hD⟩ rfl rfl hl.1 rfl (lv_room (Nat.le_of_ble_eq_true rfl)) dX12_quoted_69 ⟨Nat.le_of_ble_eq_true rfl, Nat.le_of_ble_eq_true rfl⟩) hS (fun q _ h => hFc q h) hFc (fun u t H1 locs ht hvm hw hB hz1 hk1 hS => ?_)
        obtain ⟨n16, n17⟩ := u
        have hr15 : ((st 8).toInt = 0 → n16 = (1 : Int32)) ∧ (¬ (st 8).toInt = 0 → n16 = (st 8)) := hw
        obtain ⟨hP1, hD1⟩ := hB
        rw [ht] at hP1
        have hD1 := hD1.weaken (fun _ q _ h => hFc q.1 h)
        clear hP hD hFc hk1 hz1
        have hP := hP1
        have hD := hD1
        clear hP1 hD1
        generalize H1 = H at hP hS ⊢
        have hP : va_P D vwCl (MW cy ad (upd (upd st 8 n16) 9 n17) ar lo re) H := hP
        have hD : va_D A (MW cy ad (upd (upd st 8 n16) 9 n17) ar lo re) := hD
        refine W.widen (k := 0) (n := 0) (Nat.le_of_ble_eq_true rfl) (Nat.le_of_ble_eq_true rfl) ?_
        refine lv_aload_n hx hb dX12_quoted_72 rfl (lv_at hl 2 rfl) ?_
        refine va_get (D := D) (ci := 14) (v := .int (st 1)) (C := RX12) (T := TX12) (N := 60) hx hb hts (fun _ h => (List.mem_append_right _ h)) hown hK hP 0 rfl rfl 1 (by decide) (hts (.fieldLink RX12 131 "PhraseDeskModel" "size" "I") (List.mem_of_getElem? (i := 1) rfl)) (fun _ h9 => h9) rfl dX12_quoted_73 ?_
        refine W.widen (k := 0) (n := 0) (Nat.le_of_ble_eq_true rfl) (Nat.le_of_ble_eq_true rfl) ?_
        exact W.iret (v := (st 1)) hx hb hr (fun t ht hW => ⟨⟨(st 1), ⟨(st 3), n16, n17, (ar 4), (ar 5), (ar 7), (lo 6)⟩, rfl, (v_quoted_10 st ar lo re k0 x1 y2 y3 r5 n16 n17 hpre ex1 tx1 hi6 c4 hr5 c6 hr15), by rw [ht]; exact hP, hD⟩, hS.F ht⟩) hS.2.2 dX12_quoted_76
    · have c4 : y2.toInt < (st 1).toInt := by have h := z_nle c4; exact h
      refine lv_aload_n hx hb dX12_quoted_14 rfl (lv_at hl 2 rfl) ?_
      refine lv_iload_n hx hb dX12_quoted_15 rfl (lv_at hl 1 rfl) ?_
      have hFc := freeAll hD hS hA
      refine va_calli (va_runV (As := [.int y2]) (rest := []) ⟨hx, hb, hml, hown, hts⟩ (M_at l D cy sz0 sa ad st ar lo re H.size y2 (v_quoted_11 st ar lo re k0 x1 y2 y3 hpre ex1 tx1 hi6 c4)) (cwV 1 hts (goodIn_app (goodIn_r _ [2, 3, 4, 5] rfl (by decide +kernel)) (goodIn_app (goodIn_r wqM_at0 [6, 1, 7] rfl (by decide +kernel)) (goodIn_sub (fun _ h => (List.mem_append_right _ h)) (by decide +kernel)))) rfl rfl rfl (by decide +kernel) ⟨Nat.le_of_ble_eq_true rfl, Nat.le_of_ble_eq_true rfl⟩) ⟨PcW.blind, va_recv hK hP (ci := 14) (q0 := 0) rfl rfl, PcW.mk hE hS hAF hP hD⟩ rfl rfl hl.1 rfl (lv_room (Nat.le_of_ble_eq_true rfl)) dX12_quoted_16 ⟨Nat.le_of_ble_eq_true rfl, Nat.le_of_ble_eq_true rfl⟩) hS (fun q _ h => hFc q h) hFc (fun r18 u t H1 locs ht hvm hw hB hz1 hk1 hS => ?_)
      have hr18 : (y2.toInt < (st 1).toInt ∧ r18.toInt = ((ar 2) y2.toNatClampNeg).toInt) ∨ ((st 1).toInt ≤ y2.toInt ∧ r18.toInt = 0) := hw
      obtain ⟨hP1, hD1⟩ := hB
      rw [ht] at hP1
      have hD1 := hD1.weaken (fun _ q _ h => hFc q.1 h)
      clear hP hD hFc hk1 hz1
      have hP := hP1
      have hD := hD1
      clear hP1 hD1
      generalize H1 = H at hP hS ⊢
      have hP : va_P D vwCl (MW cy ad st ar lo re) H := hP
      have hD : va_D A (MW cy ad st ar lo re) := hD
      refine W.widen (k := 0) (n := 0) (Nat.le_of_ble_eq_true rfl) (Nat.le_of_ble_eq_true rfl) ?_
      refine lv_bipush (v := 39) hx hb dX12_quoted_19 (by decide +kernel) ?_
      refine lv_icmp_eq (tgt := 56) hx hb dX12_quoted_21 (by decide) (fun c19 => ?_) (fun c19 => ?_)
      · have c19 : r18.toInt = (39) := by have h := z_eq c19; rw [show (39 : Int32).toInt = 39 from by decide +kernel] at h; exact h
        refine lv_aload_n hx hb dX12_quoted_56 rfl (lv_at hl 2 rfl) ?_
        refine lv_iload_n hx hb dX12_quoted_57 rfl (lv_at hl 1 rfl) ?_
        have hFc := freeAll hD hS hA
        refine va_calli (va_runV (As := [.int y2]) (rest := []) ⟨hx, hb, hml, hown, hts⟩ (M_at l D cy sz0 sa ad st ar lo re H.size y2 (v_quoted_12 st ar lo re k0 x1 y2 y3 r18 hpre ex1 tx1 hi6 c4 hr18 c19)) (cwV 1 hts (goodIn_app (goodIn_r _ [2, 3, 4, 5] rfl (by decide +kernel)) (goodIn_app (goodIn_r wqM_at0 [6, 1, 7] rfl (by decide +kernel)) (goodIn_sub (fun _ h => (List.mem_append_right _ h)) (by decide +kernel)))) rfl rfl rfl (by decide +kernel) ⟨Nat.le_of_ble_eq_true rfl, Nat.le_of_ble_eq_true rfl⟩) ⟨PcW.blind, va_recv hK hP (ci := 14) (q0 := 0) rfl rfl, PcW.mk hE hS hAF hP hD⟩ rfl rfl hl.1 rfl (lv_room (Nat.le_of_ble_eq_true rfl)) dX12_quoted_58 ⟨Nat.le_of_ble_eq_true rfl, Nat.le_of_ble_eq_true rfl⟩) hS (fun q _ h => hFc q h) hFc (fun r20 u t H1 locs ht hvm hw hB hz1 hk1 hS => ?_)
        have hr20 : (y2.toInt < (st 1).toInt ∧ r20.toInt = ((ar 2) y2.toNatClampNeg).toInt) ∨ ((st 1).toInt ≤ y2.toInt ∧ r20.toInt = 0) := hw
        obtain ⟨hP1, hD1⟩ := hB
        rw [ht] at hP1
        have hD1 := hD1.weaken (fun _ q _ h => hFc q.1 h)
        clear hP hD hFc hk1 hz1
        have hP := hP1
        have hD := hD1
        clear hP1 hD1
        generalize H1 = H at hP hS ⊢
        have hP : va_P D vwCl (MW cy ad st ar lo re) H := hP
        have hD : va_D A (MW cy ad st ar lo re) := hD
        refine W.widen (k := 0) (n := 0) (Nat.le_of_ble_eq_true rfl) (Nat.le_of_ble_eq_true rfl) ?_
        refine lv_bipush (v := 39) hx hb dX12_quoted_61 (by decide +kernel) ?_
        refine lv_icmp_eq (tgt := 77) hx hb dX12_quoted_63 (by decide) (fun c21 => ?_) (fun c21 => ?_)
        · have c21 : r20.toInt = (39) := by have h := z_eq c21; rw [show (39 : Int32).toInt = 39 from by decide +kernel] at h; exact h
          refine lv_aload_n hx hb dX12_quoted_77 rfl (lv_at hl 2 rfl) ?_
          refine lv_iconst (v := 4) hx hb dX12_quoted_78 (by decide +kernel) ?_
          refine lv_iload_n hx hb dX12_quoted_79 rfl (lv_at hl 3 rfl) ?_
          refine lv_lload_n hx hb dX12_quoted_80 rfl (lv_at hl 0 rfl) ?_
          refine lv_iload_n hx hb dX12_quoted_81 rfl (lv_at hl 1 rfl) ?_
          refine lv_iload_n hx hb dX12_quoted_82 rfl (lv_at hl 3 rfl) ?_
          refine lv_isub hx hb dX12_quoted_83 ?_
          refine lv_topi (fun x22 ex22 => ?_)
          have tx22 := (v_quoted_13 st ar lo re k0 x1 y2 y3 r18 r20 x22 hpre ex1 tx1 hi6 c4 hr18 c19 hr20 c21 ex22)
          refine lv_iconst (v := 1) hx hb dX12_quoted_84 (by decide +kernel) ?_
          refine lv_isub hx hb dX12_quoted_85 ?_
          refine lv_topi (fun x23 ex23 => ?_)
          have tx23 := (v_quoted_14 st ar lo re k0 x1 y2 y3 r18 r20 x22 x23 hpre ex1 tx1 hi6 c4 hr18 c19 hr20 c21 ex22 tx22 ex23)
          refine lv_i2l hx hb dX12_quoted_86 rfl ?_
          refine lv_topl (fun x24 ex24 => ?_)
          have tx24 : x24.toInt = x23.toInt := by rw [ex24]; exact Int32.toInt_toInt64 _
          refine lv_bipush (v := 56) hx hb dX12_quoted_87 (by decide +kernel) ?_
          refine lv_lshl hx hb dX12_quoted_89 rfl ?_
          refine lv_topl (fun x25 ex25 => ?_)
          refine lv_lor hx hb dX12_quoted_90 ?_
          refine lv_topl (fun x26 ex26 => ?_)
          have hFc := freeAll hD hS hA
          refine va_callv (va_runV (As := [.int 4, .int k0, .long x26]) (rest := []) ⟨hx, hb, hml, hown, hts⟩ (M_add l D cy sz0 sa ad st ar lo re H.size 4 k0 x26 (v_quoted_15 st ar lo re k0 x1 y2 y3 r18 r20 x22 x23 x24 x25 x26 hpre ex1 tx1 hi6 c4 hr18 c19 hr20 c21 ex22 tx22 ex23 tx23 ex24 tx24 ex25 ex26)) (cwV 3 hts (goodIn_app (goodIn_r _ [8, 9, 10, 5] rfl (by decide +kernel)) (goodIn_app (goodIn_r wqM_add0 [11, 12, 13, 14, 15, 16] rfl (by decide +kernel)) (goodIn_sub (fun _ h => (List.mem_append_right _ h)) (by decide +kernel)))) rfl rfl rfl (by decide +kernel) ⟨Nat.le_of_ble_eq_true rfl, Nat.le_of_ble_eq_true rfl⟩) ⟨PcW.blind, va_recv hK hP (ci := 14) (q0 := 0) rfl rfl, PcW.mk hE hS hAF hP hD⟩ rfl rfl hl.1 rfl (lv_room (Nat.le_of_ble_eq_true rfl)) dX12_quoted_91 ⟨Nat.le_of_ble_eq_true rfl, Nat.le_of_ble_eq_true rfl⟩) hS (fun q _ h => hFc q h) hFc (fun u t H1 locs ht hvm hw hB hz1 hk1 hS => ?_)
          obtain ⟨n28, rfl⟩ : ∃ z, z = u := ⟨_, rfl⟩
          have hr27 : n28.toInt = (st 3).toInt + 1 := hw
          obtain ⟨hP1, hD1⟩ := hB
          rw [ht] at hP1
          have hD1 := hD1.weaken (fun _ q _ h => hFc q.1 h)
          clear hP hD hFc hk1 hz1
          have hP := hP1
          have hD := hD1
          clear hP1 hD1
          generalize H1 = H at hP hS ⊢
          have hP : va_P D vwCl (MW cy ad (upd st 3 n28) (updA (updA (updA ar 4 (upd (ar 4) (st 3).toNatClampNeg (4 : Int32))) 5 (upd (ar 5) (st 3).toNatClampNeg k0)) 7 (upd (ar 7) (st 3).toNatClampNeg 0)) (updJ lo 6 (vp_updL (lo 6) (st 3).toNatClampNeg x26)) re) H := hP
          have hD : va_D A (MW cy ad (upd st 3 n28) (updA (updA (updA ar 4 (upd (ar 4) (st 3).toNatClampNeg (4 : Int32))) 5 (upd (ar 5) (st 3).toNatClampNeg k0)) 7 (upd (ar 7) (st 3).toNatClampNeg 0)) (updJ lo 6 (vp_updL (lo 6) (st 3).toNatClampNeg x26)) re) := hD
          refine W.widen (k := 0) (n := 0) (Nat.le_of_ble_eq_true rfl) (Nat.le_of_ble_eq_true rfl) ?_
          refine lv_iload_n hx hb dX12_quoted_94 rfl (lv_at hl 1 rfl) ?_
          refine lv_iconst (v := 1) hx hb dX12_quoted_95 (by decide +kernel) ?_
          refine lv_iadd hx hb dX12_quoted_96 ?_
          refine lv_topi (fun x29 ex29 => ?_)
          have tx29 := (v_quoted_16 st ar lo re k0 x1 y2 y3 r18 r20 x22 x23 x24 x25 x26 n28 x29 hpre ex1 tx1 hi6 c4 hr18 c19 hr20 c21 ex22 tx22 ex23 tx23 ex24 tx24 ex25 ex26 hr27 ex29)
          refine W.widen (k := 0) (n := 0) (Nat.le_of_ble_eq_true rfl) (Nat.le_of_ble_eq_true rfl) ?_
          exact W.iret (v := x29) hx hb hr (fun t ht hW => ⟨⟨x29, ⟨n28, (st 8), (st 9), (upd (ar 4) (st 3).toNatClampNeg (4 : Int32)), (upd (ar 5) (st 3).toNatClampNeg k0), (upd (ar 7) (st 3).toNatClampNeg 0), (vp_updL (lo 6) (st 3).toNatClampNeg x26)⟩, rfl, (v_quoted_17 st ar lo re k0 x1 y2 y3 r18 r20 x22 x23 x24 x25 x26 n28 x29 hpre ex1 tx1 hi6 c4 hr18 c19 hr20 c21 ex22 tx22 ex23 tx23 ex24 tx24 ex25 ex26 hr27 ex29 tx29), by rw [ht]; exact hP, hD⟩, hS.F ht⟩) hS.2.2 dX12_quoted_97
        · have c21 : ¬ r20.toInt = (39) := by have h := z_ne c21; rw [show (39 : Int32).toInt = 39 from by decide +kernel] at h; exact h
          refine lv_aload_n hx hb dX12_quoted_66 rfl (lv_at hl 2 rfl) ?_
          refine lv_iconst (v := 1) hx hb dX12_quoted_67 (by decide +kernel) ?_
          refine lv_iload_n hx hb dX12_quoted_68 rfl (lv_at hl 3 rfl) ?_
          have hFc := freeAll hD hS hA
          refine va_callv (va_runV (As := [.int 1, .int k0]) (rest := []) ⟨hx, hb, hml, hown, hts⟩ (M_wrong l D cy sz0 sa ad st ar lo re H.size 1 k0 (v_quoted_18 st ar lo re k0 x1 y2 y3 r18 r20 hpre ex1 tx1 hi6 c4 hr18 c19 hr20 c21)) (cwV 2 hts (goodIn_app (goodIn_r _ [17, 18, 19, 5] rfl (by decide +kernel)) (goodIn_app (goodIn_r wqM_wrong0 [20, 21, 22] rfl (by decide +kernel)) (goodIn_sub (fun _ h => (List.mem_append_right _ h)) (by decide +kernel)))) rfl rfl rfl (by decide +kernel) ⟨Nat.le_of_ble_eq_true rfl, Nat.le_of_ble_eq_true rfl⟩) ⟨PcW.blind, va_recv hK hP (ci := 14) (q0 := 0) rfl rfl, PcW.mk hE hS hAF hP hD⟩ rfl rfl hl.1 rfl (lv_room (Nat.le_of_ble_eq_true rfl)) dX12_quoted_69 ⟨Nat.le_of_ble_eq_true rfl, Nat.le_of_ble_eq_true rfl⟩) hS (fun q _ h => hFc q h) hFc (fun u t H1 locs ht hvm hw hB hz1 hk1 hS => ?_)
          obtain ⟨n31, n32⟩ := u
          have hr30 : ((st 8).toInt = 0 → n31 = (1 : Int32)) ∧ (¬ (st 8).toInt = 0 → n31 = (st 8)) := hw
          obtain ⟨hP1, hD1⟩ := hB
          rw [ht] at hP1
          have hD1 := hD1.weaken (fun _ q _ h => hFc q.1 h)
          clear hP hD hFc hk1 hz1
          have hP := hP1
          have hD := hD1
          clear hP1 hD1
          generalize H1 = H at hP hS ⊢
          have hP : va_P D vwCl (MW cy ad (upd (upd st 8 n31) 9 n32) ar lo re) H := hP
          have hD : va_D A (MW cy ad (upd (upd st 8 n31) 9 n32) ar lo re) := hD
          refine W.widen (k := 0) (n := 0) (Nat.le_of_ble_eq_true rfl) (Nat.le_of_ble_eq_true rfl) ?_
          refine lv_aload_n hx hb dX12_quoted_72 rfl (lv_at hl 2 rfl) ?_
          refine va_get (D := D) (ci := 14) (v := .int (st 1)) (C := RX12) (T := TX12) (N := 60) hx hb hts (fun _ h => (List.mem_append_right _ h)) hown hK hP 0 rfl rfl 1 (by decide) (hts (.fieldLink RX12 131 "PhraseDeskModel" "size" "I") (List.mem_of_getElem? (i := 1) rfl)) (fun _ h9 => h9) rfl dX12_quoted_73 ?_
          refine W.widen (k := 0) (n := 0) (Nat.le_of_ble_eq_true rfl) (Nat.le_of_ble_eq_true rfl) ?_
          exact W.iret (v := (st 1)) hx hb hr (fun t ht hW => ⟨⟨(st 1), ⟨(st 3), n31, n32, (ar 4), (ar 5), (ar 7), (lo 6)⟩, rfl, (v_quoted_19 st ar lo re k0 x1 y2 y3 r18 r20 n31 n32 hpre ex1 tx1 hi6 c4 hr18 c19 hr20 c21 hr30), by rw [ht]; exact hP, hD⟩, hS.F ht⟩) hS.2.2 dX12_quoted_76
      · have c19 : ¬ r18.toInt = (39) := by have h := z_ne c19; rw [show (39 : Int32).toInt = 39 from by decide +kernel] at h; exact h
        refine lv_iload_n hx hb dX12_quoted_24 rfl (lv_at hl 1 rfl) ?_
        refine lv_iload_n hx hb dX12_quoted_25 rfl (lv_at hl 3 rfl) ?_
        refine lv_isub hx hb dX12_quoted_26 ?_
        refine lv_topi (fun x33 ex33 => ?_)
        have tx33 := (v_quoted_20 st ar lo re k0 x1 y2 y3 r18 x33 hpre ex1 tx1 hi6 c4 hr18 c19 ex33)
        refine lv_bipush (v := 8) hx hb dX12_quoted_27 (by decide +kernel) ?_
        refine lv_icmp_gt (tgt := 56) hx hb dX12_quoted_29 (by decide) (fun c34 => ?_) (fun c34 => ?_)
        · have c34 : (8) < x33.toInt := by have h := z_lt c34; rw [show (8 : Int32).toInt = 8 from by decide +kernel] at h; exact h
          refine lv_aload_n hx hb dX12_quoted_56 rfl (lv_at hl 2 rfl) ?_
          refine lv_iload_n hx hb dX12_quoted_57 rfl (lv_at hl 1 rfl) ?_
          have hFc := freeAll hD hS hA
          refine va_calli (va_runV (As := [.int y2]) (rest := []) ⟨hx, hb, hml, hown, hts⟩ (M_at l D cy sz0 sa ad st ar lo re H.size y2 (v_quoted_21 st ar lo re k0 x1 y2 y3 r18 x33 hpre ex1 tx1 hi6 c4 hr18 c19 ex33 tx33 c34)) (cwV 1 hts (goodIn_app (goodIn_r _ [2, 3, 4, 5] rfl (by decide +kernel)) (goodIn_app (goodIn_r wqM_at0 [6, 1, 7] rfl (by decide +kernel)) (goodIn_sub (fun _ h => (List.mem_append_right _ h)) (by decide +kernel)))) rfl rfl rfl (by decide +kernel) ⟨Nat.le_of_ble_eq_true rfl, Nat.le_of_ble_eq_true rfl⟩) ⟨PcW.blind, va_recv hK hP (ci := 14) (q0 := 0) rfl rfl, PcW.mk hE hS hAF hP hD⟩ rfl rfl hl.1 rfl (lv_room (Nat.le_of_ble_eq_true rfl)) dX12_quoted_58 ⟨Nat.le_of_ble_eq_true rfl, Nat.le_of_ble_eq_true rfl⟩) hS (fun q _ h => hFc q h) hFc (fun r35 u t H1 locs ht hvm hw hB hz1 hk1 hS => ?_)
          have hr35 : (y2.toInt < (st 1).toInt ∧ r35.toInt = ((ar 2) y2.toNatClampNeg).toInt) ∨ ((st 1).toInt ≤ y2.toInt ∧ r35.toInt = 0) := hw
          obtain ⟨hP1, hD1⟩ := hB
          rw [ht] at hP1
          have hD1 := hD1.weaken (fun _ q _ h => hFc q.1 h)
          clear hP hD hFc hk1 hz1
          have hP := hP1
          have hD := hD1
          clear hP1 hD1
          generalize H1 = H at hP hS ⊢
          have hP : va_P D vwCl (MW cy ad st ar lo re) H := hP
          have hD : va_D A (MW cy ad st ar lo re) := hD
          refine W.widen (k := 0) (n := 0) (Nat.le_of_ble_eq_true rfl) (Nat.le_of_ble_eq_true rfl) ?_
          refine lv_bipush (v := 39) hx hb dX12_quoted_61 (by decide +kernel) ?_
          refine lv_icmp_eq (tgt := 77) hx hb dX12_quoted_63 (by decide) (fun c36 => ?_) (fun c36 => ?_)
          · have c36 : r35.toInt = (39) := by have h := z_eq c36; rw [show (39 : Int32).toInt = 39 from by decide +kernel] at h; exact h
            refine lv_aload_n hx hb dX12_quoted_77 rfl (lv_at hl 2 rfl) ?_
            refine lv_iconst (v := 4) hx hb dX12_quoted_78 (by decide +kernel) ?_
            refine lv_iload_n hx hb dX12_quoted_79 rfl (lv_at hl 3 rfl) ?_
            refine lv_lload_n hx hb dX12_quoted_80 rfl (lv_at hl 0 rfl) ?_
            refine lv_iload_n hx hb dX12_quoted_81 rfl (lv_at hl 1 rfl) ?_
            refine lv_iload_n hx hb dX12_quoted_82 rfl (lv_at hl 3 rfl) ?_
            refine lv_isub hx hb dX12_quoted_83 ?_
            refine lv_topi (fun x37 ex37 => ?_)
            have tx37 := (v_quoted_22 st ar lo re k0 x1 y2 y3 r18 x33 r35 x37 hpre ex1 tx1 hi6 c4 hr18 c19 ex33 tx33 c34 hr35 c36 ex37)
            refine lv_iconst (v := 1) hx hb dX12_quoted_84 (by decide +kernel) ?_
            refine lv_isub hx hb dX12_quoted_85 ?_
            refine lv_topi (fun x38 ex38 => ?_)
            have tx38 := (v_quoted_23 st ar lo re k0 x1 y2 y3 r18 x33 r35 x37 x38 hpre ex1 tx1 hi6 c4 hr18 c19 ex33 tx33 c34 hr35 c36 ex37 tx37 ex38)
            refine lv_i2l hx hb dX12_quoted_86 rfl ?_
            refine lv_topl (fun x39 ex39 => ?_)
            have tx39 : x39.toInt = x38.toInt := by rw [ex39]; exact Int32.toInt_toInt64 _
            refine lv_bipush (v := 56) hx hb dX12_quoted_87 (by decide +kernel) ?_
            refine lv_lshl hx hb dX12_quoted_89 rfl ?_
            refine lv_topl (fun x40 ex40 => ?_)
            refine lv_lor hx hb dX12_quoted_90 ?_
            refine lv_topl (fun x41 ex41 => ?_)
            have hFc := freeAll hD hS hA
            refine va_callv (va_runV (As := [.int 4, .int k0, .long x41]) (rest := []) ⟨hx, hb, hml, hown, hts⟩ (M_add l D cy sz0 sa ad st ar lo re H.size 4 k0 x41 (v_quoted_24 st ar lo re k0 x1 y2 y3 r18 x33 r35 x37 x38 x39 x40 x41 hpre ex1 tx1 hi6 c4 hr18 c19 ex33 tx33 c34 hr35 c36 ex37 tx37 ex38 tx38 ex39 tx39 ex40 ex41)) (cwV 3 hts (goodIn_app (goodIn_r _ [8, 9, 10, 5] rfl (by decide +kernel)) (goodIn_app (goodIn_r wqM_add0 [11, 12, 13, 14, 15, 16] rfl (by decide +kernel)) (goodIn_sub (fun _ h => (List.mem_append_right _ h)) (by decide +kernel)))) rfl rfl rfl (by decide +kernel) ⟨Nat.le_of_ble_eq_true rfl, Nat.le_of_ble_eq_true rfl⟩) ⟨PcW.blind, va_recv hK hP (ci := 14) (q0 := 0) rfl rfl, PcW.mk hE hS hAF hP hD⟩ rfl rfl hl.1 rfl (lv_room (Nat.le_of_ble_eq_true rfl)) dX12_quoted_91 ⟨Nat.le_of_ble_eq_true rfl, Nat.le_of_ble_eq_true rfl⟩) hS (fun q _ h => hFc q h) hFc (fun u t H1 locs ht hvm hw hB hz1 hk1 hS => ?_)
            obtain ⟨n43, rfl⟩ : ∃ z, z = u := ⟨_, rfl⟩
            have hr42 : n43.toInt = (st 3).toInt + 1 := hw
            obtain ⟨hP1, hD1⟩ := hB
            rw [ht] at hP1
            have hD1 := hD1.weaken (fun _ q _ h => hFc q.1 h)
            clear hP hD hFc hk1 hz1
            have hP := hP1
            have hD := hD1
            clear hP1 hD1
            generalize H1 = H at hP hS ⊢
            have hP : va_P D vwCl (MW cy ad (upd st 3 n43) (updA (updA (updA ar 4 (upd (ar 4) (st 3).toNatClampNeg (4 : Int32))) 5 (upd (ar 5) (st 3).toNatClampNeg k0)) 7 (upd (ar 7) (st 3).toNatClampNeg 0)) (updJ lo 6 (vp_updL (lo 6) (st 3).toNatClampNeg x41)) re) H := hP
            have hD : va_D A (MW cy ad (upd st 3 n43) (updA (updA (updA ar 4 (upd (ar 4) (st 3).toNatClampNeg (4 : Int32))) 5 (upd (ar 5) (st 3).toNatClampNeg k0)) 7 (upd (ar 7) (st 3).toNatClampNeg 0)) (updJ lo 6 (vp_updL (lo 6) (st 3).toNatClampNeg x41)) re) := hD
            refine W.widen (k := 0) (n := 0) (Nat.le_of_ble_eq_true rfl) (Nat.le_of_ble_eq_true rfl) ?_
            refine lv_iload_n hx hb dX12_quoted_94 rfl (lv_at hl 1 rfl) ?_
            refine lv_iconst (v := 1) hx hb dX12_quoted_95 (by decide +kernel) ?_
            refine lv_iadd hx hb dX12_quoted_96 ?_
            refine lv_topi (fun x44 ex44 => ?_)
            have tx44 := (v_quoted_25 st ar lo re k0 x1 y2 y3 r18 x33 r35 x37 x38 x39 x40 x41 n43 x44 hpre ex1 tx1 hi6 c4 hr18 c19 ex33 tx33 c34 hr35 c36 ex37 tx37 ex38 tx38 ex39 tx39 ex40 ex41 hr42 ex44)
            refine W.widen (k := 0) (n := 0) (Nat.le_of_ble_eq_true rfl) (Nat.le_of_ble_eq_true rfl) ?_
            exact W.iret (v := x44) hx hb hr (fun t ht hW => ⟨⟨x44, ⟨n43, (st 8), (st 9), (upd (ar 4) (st 3).toNatClampNeg (4 : Int32)), (upd (ar 5) (st 3).toNatClampNeg k0), (upd (ar 7) (st 3).toNatClampNeg 0), (vp_updL (lo 6) (st 3).toNatClampNeg x41)⟩, rfl, (v_quoted_26 st ar lo re k0 x1 y2 y3 r18 x33 r35 x37 x38 x39 x40 x41 n43 x44 hpre ex1 tx1 hi6 c4 hr18 c19 ex33 tx33 c34 hr35 c36 ex37 tx37 ex38 tx38 ex39 tx39 ex40 ex41 hr42 ex44 tx44), by rw [ht]; exact hP, hD⟩, hS.F ht⟩) hS.2.2 dX12_quoted_97
          · have c36 : ¬ r35.toInt = (39) := by have h := z_ne c36; rw [show (39 : Int32).toInt = 39 from by decide +kernel] at h; exact h
            refine lv_aload_n hx hb dX12_quoted_66 rfl (lv_at hl 2 rfl) ?_
            refine lv_iconst (v := 1) hx hb dX12_quoted_67 (by decide +kernel) ?_
            refine lv_iload_n hx hb dX12_quoted_68 rfl (lv_at hl 3 rfl) ?_
            have hFc := freeAll hD hS hA
            refine va_callv (va_runV (As := [.int 1, .int k0]) (rest := []) ⟨hx, hb, hml, hown, hts⟩ (M_wrong l D cy sz0 sa ad st ar lo re H.size 1 k0 (v_quoted_27 st ar lo re k0 x1 y2 y3 r18 x33 r35 hpre ex1 tx1 hi6 c4 hr18 c19 ex33 tx33 c34 hr35 c36)) (cwV 2 hts (goodIn_app (goodIn_r _ [17, 18, 19, 5] rfl (by decide +kernel)) (goodIn_app (goodIn_r wqM_wrong0 [20, 21, 22] rfl (by decide +kernel)) (goodIn_sub (fun _ h => (List.mem_append_right _ h)) (by decide +kernel)))) rfl rfl rfl (by decide +kernel) ⟨Nat.le_of_ble_eq_true rfl, Nat.le_of_ble_eq_true rfl⟩) ⟨PcW.blind, va_recv hK hP (ci := 14) (q0 := 0) rfl rfl, PcW.mk hE hS hAF hP hD⟩ rfl rfl hl.1 rfl (lv_room (Nat.le_of_ble_eq_true rfl)) dX12_quoted_69 ⟨Nat.le_of_ble_eq_true rfl, Nat.le_of_ble_eq_true rfl⟩) hS (fun q _ h => hFc q h) hFc (fun u t H1 locs ht hvm hw hB hz1 hk1 hS => ?_)
            obtain ⟨n46, n47⟩ := u
            have hr45 : ((st 8).toInt = 0 → n46 = (1 : Int32)) ∧ (¬ (st 8).toInt = 0 → n46 = (st 8)) := hw
            obtain ⟨hP1, hD1⟩ := hB
            rw [ht] at hP1
            have hD1 := hD1.weaken (fun _ q _ h => hFc q.1 h)
            clear hP hD hFc hk1 hz1
            have hP := hP1
            have hD := hD1
            clear hP1 hD1
            generalize H1 = H at hP hS ⊢
            have hP : va_P D vwCl (MW cy ad (upd (upd st 8 n46) 9 n47) ar lo re) H := hP
            have hD : va_D A (MW cy ad (upd (upd st 8 n46) 9 n47) ar lo re) := hD
            refine W.widen (k := 0) (n := 0) (Nat.le_of_ble_eq_true rfl) (Nat.le_of_ble_eq_true rfl) ?_
            refine lv_aload_n hx hb dX12_quoted_72 rfl (lv_at hl 2 rfl) ?_
            refine va_get (D := D) (ci := 14) (v := .int (st 1)) (C := RX12) (T := TX12) (N := 60) hx hb hts (fun _ h => (List.mem_append_right _ h)) hown hK hP 0 rfl rfl 1 (by decide) (hts (.fieldLink RX12 131 "PhraseDeskModel" "size" "I") (List.mem_of_getElem? (i := 1) rfl)) (fun _ h9 => h9) rfl dX12_quoted_73 ?_
            refine W.widen (k := 0) (n := 0) (Nat.le_of_ble_eq_true rfl) (Nat.le_of_ble_eq_true rfl) ?_
            exact W.iret (v := (st 1)) hx hb hr (fun t ht hW => ⟨⟨(st 1), ⟨(st 3), n46, n47, (ar 4), (ar 5), (ar 7), (lo 6)⟩, rfl, (v_quoted_28 st ar lo re k0 x1 y2 y3 r18 x33 r35 n46 n47 hpre ex1 tx1 hi6 c4 hr18 c19 ex33 tx33 c34 hr35 c36 hr45), by rw [ht]; exact hP, hD⟩, hS.F ht⟩) hS.2.2 dX12_quoted_76
        · have c34 : x33.toInt ≤ (8) := by have h := z_nlt c34; rw [show (8 : Int32).toInt = 8 from by decide +kernel] at h; exact h
          refine lv_lload_n hx hb dX12_quoted_32 rfl (lv_at hl 0 rfl) ?_
          refine lv_aload_n hx hb dX12_quoted_33 rfl (lv_at hl 2 rfl) ?_
          refine lv_iload_n hx hb dX12_quoted_34 rfl (lv_at hl 1 rfl) ?_
          have hFc := freeAll hD hS hA
          refine va_calli (va_runV (As := [.int y2]) (rest := [.long y3]) ⟨hx, hb, hml, hown, hts⟩ (M_at l D cy sz0 sa ad st ar lo re H.size y2 (v_quoted_29 st ar lo re k0 x1 y2 y3 r18 x33 hpre ex1 tx1 hi6 c4 hr18 c19 ex33 tx33 c34)) (cwV 1 hts (goodIn_app (goodIn_r _ [2, 3, 4, 5] rfl (by decide +kernel)) (goodIn_app (goodIn_r wqM_at0 [6, 1, 7] rfl (by decide +kernel)) (goodIn_sub (fun _ h => (List.mem_append_right _ h)) (by decide +kernel)))) rfl rfl rfl (by decide +kernel) ⟨Nat.le_of_ble_eq_true rfl, Nat.le_of_ble_eq_true rfl⟩) ⟨PcW.blind, va_recv hK hP (ci := 14) (q0 := 0) rfl rfl, PcW.mk hE hS hAF hP hD⟩ rfl rfl hl.1 rfl (lv_room (Nat.le_of_ble_eq_true rfl)) dX12_quoted_35 ⟨Nat.le_of_ble_eq_true rfl, Nat.le_of_ble_eq_true rfl⟩) hS (fun q _ h => hFc q h) hFc (fun r48 u t H1 locs ht hvm hw hB hz1 hk1 hS => ?_)
          have hr48 : (y2.toInt < (st 1).toInt ∧ r48.toInt = ((ar 2) y2.toNatClampNeg).toInt) ∨ ((st 1).toInt ≤ y2.toInt ∧ r48.toInt = 0) := hw
          obtain ⟨hP1, hD1⟩ := hB
          rw [ht] at hP1
          have hD1 := hD1.weaken (fun _ q _ h => hFc q.1 h)
          clear hP hD hFc hk1 hz1
          have hP := hP1
          have hD := hD1
          clear hP1 hD1
          generalize H1 = H at hP hS ⊢
          have hP : va_P D vwCl (MW cy ad st ar lo re) H := hP
          have hD : va_D A (MW cy ad st ar lo re) := hD
          refine W.widen (k := 0) (n := 0) (Nat.le_of_ble_eq_true rfl) (Nat.le_of_ble_eq_true rfl) ?_
          refine lv_i2l hx hb dX12_quoted_38 rfl ?_
          refine lv_topl (fun x49 ex49 => ?_)
          have tx49 : x49.toInt = r48.toInt := by rw [ex49]; exact Int32.toInt_toInt64 _
          refine lv_bipush (v := 7) hx hb dX12_quoted_39 (by decide +kernel) ?_
          refine lv_iload_n hx hb dX12_quoted_41 rfl (lv_at hl 1 rfl) ?_
          refine lv_iload_n hx hb dX12_quoted_42 rfl (lv_at hl 3 rfl) ?_
          refine lv_isub hx hb dX12_quoted_43 ?_
          refine lv_topi (fun x50 ex50 => ?_)
          have tx50 := (v_quoted_30 st ar lo re k0 x1 y2 y3 r18 x33 r48 x49 x50 hpre ex1 tx1 hi6 c4 hr18 c19 ex33 tx33 c34 hr48 ex49 tx49 ex50)
          refine lv_iconst (v := 1) hx hb dX12_quoted_44 (by decide +kernel) ?_
          refine lv_isub hx hb dX12_quoted_45 ?_
          refine lv_topi (fun x51 ex51 => ?_)
          have tx51 := (v_quoted_31 st ar lo re k0 x1 y2 y3 r18 x33 r48 x49 x50 x51 hpre ex1 tx1 hi6 c4 hr18 c19 ex33 tx33 c34 hr48 ex49 tx49 ex50 tx50 ex51)
          refine lv_imul hx hb dX12_quoted_46 ?_
          refine lv_topi (fun x52 ex52 => ?_)
          have tx52 := (v_quoted_32 st ar lo re k0 x1 y2 y3 r18 x33 r48 x49 x50 x51 x52 hpre ex1 tx1 hi6 c4 hr18 c19 ex33 tx33 c34 hr48 ex49 tx49 ex50 tx50 ex51 tx51 ex52)
          refine lv_lshl hx hb dX12_quoted_47 rfl ?_
          refine lv_topl (fun x53 ex53 => ?_)
          refine lv_lor hx hb dX12_quoted_48 ?_
          refine lv_topl (fun x54 ex54 => ?_)
          refine lv_lstore_n (lv' := [(3, .long x54), (2, .int y2), (0, .ref (ad 0)), (1, .int k0)]) hx hb dX12_quoted_49 rfl hl (by decide) rfl (fun ls hl => ?_)
          obtain ⟨x55, ex55⟩ : ∃ y : Int32, y = y2 + 1 := ⟨_, rfl⟩
          have tx55 := (v_quoted_33 st ar lo re k0 x1 y2 y3 r18 x33 r48 x49 x50 x51 x52 x53 x54 x55 hpre ex1 tx1 hi6 c4 hr18 c19 ex33 tx33 c34 hr48 ex49 tx49 ex50 tx50 ex51 tx51 ex52 tx52 ex53 ex54 ex55)
          refine lv_iinc (v := x55) (lv' := [(2, .int x55), (3, .long x54), (0, .ref (ad 0)), (1, .int k0)]) hx hb dX12_quoted_50 hl (k := 1) rfl (by rw [ex55]; rfl) (by decide) rfl (fun ls hl => ?_)
          refine lv_goto (tgt := 6) hx hb dX12_quoted_53 (by decide) ?_
          exact ih6 x55 x54 _ _ _ (Nat.lt_of_lt_of_le (v_quoted_35 st ar lo re k0 x1 y2 y3 r18 x33 r48 x49 x50 x51 x52 x53 x54 x55 hpre ex1 tx1 hi6 c4 hr18 c19 ex33 tx33 c34 hr48 ex49 tx49 ex50 tx50 ex51 tx51 ex52 tx52 ex53 ex54 ex55 tx55) (Nat.le_of_lt_succ hn6)) (v_quoted_34 st ar lo re k0 x1 y2 y3 r18 x33 r48 x49 x50 x51 x52 x53 x54 x55 hpre ex1 tx1 hi6 c4 hr18 c19 ex33 tx33 c34 hr48 ex49 tx49 ex50 tx50 ex51 tx51 ex52 tx52 ex53 ex54 ex55 tx55) hP hD hS (lv_sub hl [1, 0, 2, 3] rfl)
set_option maxHeartbeats 4000000 in
set_option maxRecDepth 100000 in
theorem M_quoted (l : Launch) (D : va_G) (cy : Nat → ClassId) (sz0 : Nat) (sa : Nat → Nat) (ad : Nat → Nat) (st : Nat → Int32) (ar : Nat → Nat → Int32) (lo : Nat → Nat → Int64) (re : Nat → UInt64) (sz : Nat) (k0 : Int32) (hpre : 0 ≤ (st 1).toInt ∧ (st 1).toInt ≤ 40 ∧ 0 ≤ (st 3).toInt ∧ (st 3).toInt ≤ k0.toInt ∧ k0.toInt < (st 1).toInt ∧ TKok (ar 4) (lo 6) (ar 7) (st 3).toInt) : Met l yX12_quoted wqM_quoted ({ frames := 1, cells := 0, slots := 0, locals := 24 }) (PcW D cy sz0 sa [.ref (ad 0), .int k0] (MW cy ad st ar lo re) sz) (va_Qi (fun (r : Int32) (u : Int32 × Int32 × Int32 × (Nat → Int32) × (Nat → Int32) × (Nat → Int32) × (Nat → Int64)) => k0.toInt < r.toInt ∧ r.toInt ≤ (st 1).toInt ∧ 0 ≤ u.1.toInt ∧ u.1.toInt ≤ r.toInt ∧ TKok u.2.2.2.1 u.2.2.2.2.2.2 u.2.2.2.2.2.1 u.1.toInt) (fun (u : Int32 × Int32 × Int32 × (Nat → Int32) × (Nat → Int32) × (Nat → Int32) × (Nat → Int64)) (t : State) => BW D (MW cy ad (upd (upd (upd st 3 u.1) 8 u.2.1) 9 u.2.2.1) (updA (updA (updA ar 4 u.2.2.2.1) 5 u.2.2.2.2.1) 7 u.2.2.2.2.2.1) (updJ lo 6 u.2.2.2.2.2.2) re) (va_A (MW cy ad st ar lo re) sz) t) (va_A (MW cy ad st ar lo re) sz)) 0 0 (va_A (MW cy ad st ar lo re) sz) := by
  refine Met.ofW (cc := cX12_quoted) (maxL := 5) (ret := (some .int)) (by decide) rfl ?_
  intro p e s m args below meth c s₁ B hml hv
  obtain ⟨rfl, hsz, hP, hD0, hE⟩ := hv
  have hx := B.exec
  have hb := B.bytes
  have hr := B.returns
  have hts := atoms_spec (ws := wqM_quoted) B.pre
  have hown : s.vm.findClass RX12 = some m.cls := findClass_of_methodNamed B.named
  have hlocks := B.notSynchronized
  subst hsz
  have hK := hE.1
  have hD := hD0.self (sz := s.heap.size)
  have hAF := frA hD0 hE.2.1
  generalize hAe : va_A (MW cy ad st ar lo re) s.heap.size = A at hD hAF ⊢
  have hA : ∀ q : Nat, s.heap.size ≤ q → A q := fun q h => by rw [← hAe]; exact Or.inr h
  have hS : va_S A s.heap s.heap [] := va_S.rf
  have hl := lv_entry ([.ref (ad 0), .int k0]) (n := 5) (Nat.le_of_ble_eq_true rfl)
  rw [lg_entry_eq]
  generalize (lg_sl ([.ref (ad 0), .int k0]) ++ List.replicate (5 - (lg_sl ([.ref (ad 0), .int k0])).length) Slot.unset).toArray = ls at hl ⊢
  have hl : lv_has ls 5 [(0, .ref (ad 0)), (1, .int k0)] := hl
  refine lv_iload_n hx hb dX12_quoted_0 rfl (lv_at hl 1 rfl) ?_
  refine lv_iconst (v := 1) hx hb dX12_quoted_1 (by decide +kernel) ?_
  refine lv_iadd hx hb dX12_quoted_2 ?_
  refine lv_topi (fun x1 ex1 => ?_)
  have tx1 := (v_quoted_1 st ar lo re k0 x1 hpre ex1)
  refine lv_istore_n (lv' := [(2, .int x1), (0, .ref (ad 0)), (1, .int k0)]) hx hb dX12_quoted_3 rfl hl (by decide) rfl (fun ls hl => ?_)
  refine lv_lconst (v := 0) hx hb dX12_quoted_4 rfl ?_
  refine lv_lstore_n (lv' := [(3, .long 0), (2, .int x1), (0, .ref (ad 0)), (1, .int k0)]) hx hb dX12_quoted_5 rfl hl (by decide) rfl (fun ls hl => ?_)
  exact L_quoted_6_1 l D cy sz0 sa ad A st ar lo re k0 x1 hx hb hr hml hown hts hlocks hE hAF hA hpre ex1 tx1 (((st 1).toInt - x1.toInt).toNat + 1) x1 0 _ _ _ (Nat.lt_succ_self _) (v_quoted_2 st ar lo re k0 x1 hpre ex1 tx1) hP hD hS (lv_sub hl [0, 1, 2, 3] rfl)

def wqM_single : List Cond := [.code yX12_single cX12_single 1 (some .boolean)]
set_option maxHeartbeats 4000000 in
set_option maxRecDepth 100000 in
theorem M_single (l : Launch) (D : va_G) (cy : Nat → ClassId) (sz0 : Nat) (sa : Nat → Nat) (ad : Nat → Nat) (st : Nat → Int32) (ar : Nat → Nat → Int32) (lo : Nat → Nat → Int64) (re : Nat → UInt64) (sz : Nat) (k0 : Int32) (hpre : True) : Met l yX12_single wqM_single ({ frames := 0, cells := 0, slots := 0, locals := 0 }) (PcW D cy sz0 sa [.int k0] (MW cy ad st ar lo re) sz) (va_Qi (fun (r : Int32) (u : Unit) => r.toInt = 0 ∨ r.toInt = 1) (fun (u : Unit) (t : State) => BW D (MW cy ad st ar lo re) (va_A (MW cy ad st ar lo re) sz) t) (va_A (MW cy ad st ar lo re) sz)) 0 0 (va_A (MW cy ad st ar lo re) sz) := by
  refine Met.ofW (cc := cX12_single) (maxL := 1) (ret := (some .boolean)) (by decide) rfl ?_
  intro p e s m args below meth c s₁ B hml hv
  obtain ⟨rfl, hsz, hP, hD0, hE⟩ := hv
  have hx := B.exec
  have hb := B.bytes
  have hr := B.returns
  have hts := atoms_spec (ws := wqM_single) B.pre
  have hown : s.vm.findClass RX12 = some m.cls := findClass_of_methodNamed B.named
  have hlocks := B.notSynchronized
  subst hsz
  have hK := hE.1
  have hD := hD0.self (sz := s.heap.size)
  have hAF := frA hD0 hE.2.1
  generalize hAe : va_A (MW cy ad st ar lo re) s.heap.size = A at hD hAF ⊢
  have hA : ∀ q : Nat, s.heap.size ≤ q → A q := fun q h => by rw [← hAe]; exact Or.inr h
  have hS : va_S A s.heap s.heap [] := va_S.rf
  have hl := lv_entry ([.int k0]) (n := 1) (Nat.le_of_ble_eq_true rfl)
  rw [lg_entry_eq]
  generalize (lg_sl ([.int k0]) ++ List.replicate (1 - (lg_sl ([.int k0])).length) Slot.unset).toArray = ls at hl ⊢
  have hl : lv_has ls 1 [(0, .int k0)] := hl
  refine lv_iload_n hx hb dX12_single_0 rfl (lv_at hl 0 rfl) ?_
  refine lv_bipush (v := 43) hx hb dX12_single_1 (by decide +kernel) ?_
  refine lv_icmp_eq (tgt := 96) hx hb dX12_single_3 (by decide) (fun c1 => ?_) (fun c1 => ?_)
  · have c1 : k0.toInt = (43) := by have h := z_eq c1; rw [show (43 : Int32).toInt = 43 from by decide +kernel] at h; exact h
    refine lv_iconst (v := 1) hx hb dX12_single_96 (by decide +kernel) ?_
    refine lv_goto (tgt := 101) hx hb dX12_single_97 (by decide) ?_
    refine W.widen (k := 0) (n := 0) (Nat.le_of_ble_eq_true rfl) (Nat.le_of_ble_eq_true rfl) ?_
    exact W.zret (v := 1) (ty := .boolean) hx hb hr (rfl) (fun t ht hW => ⟨⟨1, (), rfl, (v_single_1 st ar lo re k0 hpre c1), by rw [ht]; exact hP, hD⟩, hS.F ht⟩) hS.2.2 dX12_single_101
  · have c1 : ¬ k0.toInt = (43) := by have h := z_ne c1; rw [show (43 : Int32).toInt = 43 from by decide +kernel] at h; exact h
    refine lv_iload_n hx hb dX12_single_6 rfl (lv_at hl 0 rfl) ?_
    refine lv_bipush (v := 45) hx hb dX12_single_7 (by decide +kernel) ?_
    refine lv_icmp_eq (tgt := 96) hx hb dX12_single_9 (by decide) (fun c2 => ?_) (fun c2 => ?_)
    · have c2 : k0.toInt = (45) := by have h := z_eq c2; rw [show (45 : Int32).toInt = 45 from by decide +kernel] at h; exact h
      refine lv_iconst (v := 1) hx hb dX12_single_96 (by decide +kernel) ?_
      refine lv_goto (tgt := 101) hx hb dX12_single_97 (by decide) ?_
      refine W.widen (k := 0) (n := 0) (Nat.le_of_ble_eq_true rfl) (Nat.le_of_ble_eq_true rfl) ?_
      exact W.zret (v := 1) (ty := .boolean) hx hb hr (rfl) (fun t ht hW => ⟨⟨1, (), rfl, (v_single_2 st ar lo re k0 hpre c1 c2), by rw [ht]; exact hP, hD⟩, hS.F ht⟩) hS.2.2 dX12_single_101
    · have c2 : ¬ k0.toInt = (45) := by have h := z_ne c2; rw [show (45 : Int32).toInt = 45 from by decide +kernel] at h; exact h
      refine lv_iload_n hx hb dX12_single_12 rfl (lv_at hl 0 rfl) ?_
      refine lv_bipush (v := 42) hx hb dX12_single_13 (by decide +kernel) ?_
      refine lv_icmp_eq (tgt := 96) hx hb dX12_single_15 (by decide) (fun c3 => ?_) (fun c3 => ?_)
      · have c3 : k0.toInt = (42) := by have h := z_eq c3; rw [show (42 : Int32).toInt = 42 from by decide +kernel] at h; exact h
        refine lv_iconst (v := 1) hx hb dX12_single_96 (by decide +kernel) ?_
        refine lv_goto (tgt := 101) hx hb dX12_single_97 (by decide) ?_
        refine W.widen (k := 0) (n := 0) (Nat.le_of_ble_eq_true rfl) (Nat.le_of_ble_eq_true rfl) ?_
        exact W.zret (v := 1) (ty := .boolean) hx hb hr (rfl) (fun t ht hW => ⟨⟨1, (), rfl, (v_single_3 st ar lo re k0 hpre c1 c2 c3), by rw [ht]; exact hP, hD⟩, hS.F ht⟩) hS.2.2 dX12_single_101
      · have c3 : ¬ k0.toInt = (42) := by have h := z_ne c3; rw [show (42 : Int32).toInt = 42 from by decide +kernel] at h; exact h
        refine lv_iload_n hx hb dX12_single_18 rfl (lv_at hl 0 rfl) ?_
        refine lv_bipush (v := 47) hx hb dX12_single_19 (by decide +kernel) ?_
        refine lv_icmp_eq (tgt := 96) hx hb dX12_single_21 (by decide) (fun c4 => ?_) (fun c4 => ?_)
        · have c4 : k0.toInt = (47) := by have h := z_eq c4; rw [show (47 : Int32).toInt = 47 from by decide +kernel] at h; exact h
          refine lv_iconst (v := 1) hx hb dX12_single_96 (by decide +kernel) ?_
          refine lv_goto (tgt := 101) hx hb dX12_single_97 (by decide) ?_
          refine W.widen (k := 0) (n := 0) (Nat.le_of_ble_eq_true rfl) (Nat.le_of_ble_eq_true rfl) ?_
          exact W.zret (v := 1) (ty := .boolean) hx hb hr (rfl) (fun t ht hW => ⟨⟨1, (), rfl, (v_single_4 st ar lo re k0 hpre c1 c2 c3 c4), by rw [ht]; exact hP, hD⟩, hS.F ht⟩) hS.2.2 dX12_single_101
        · have c4 : ¬ k0.toInt = (47) := by have h := z_ne c4; rw [show (47 : Int32).toInt = 47 from by decide +kernel] at h; exact h
          refine lv_iload_n hx hb dX12_single_24 rfl (lv_at hl 0 rfl) ?_
          refine lv_bipush (v := 37) hx hb dX12_single_25 (by decide +kernel) ?_
          refine lv_icmp_eq (tgt := 96) hx hb dX12_single_27 (by decide) (fun c5 => ?_) (fun c5 => ?_)
          · have c5 : k0.toInt = (37) := by have h := z_eq c5; rw [show (37 : Int32).toInt = 37 from by decide +kernel] at h; exact h
            refine lv_iconst (v := 1) hx hb dX12_single_96 (by decide +kernel) ?_
            refine lv_goto (tgt := 101) hx hb dX12_single_97 (by decide) ?_
            refine W.widen (k := 0) (n := 0) (Nat.le_of_ble_eq_true rfl) (Nat.le_of_ble_eq_true rfl) ?_
            exact W.zret (v := 1) (ty := .boolean) hx hb hr (rfl) (fun t ht hW => ⟨⟨1, (), rfl, (v_single_5 st ar lo re k0 hpre c1 c2 c3 c4 c5), by rw [ht]; exact hP, hD⟩, hS.F ht⟩) hS.2.2 dX12_single_101
          · have c5 : ¬ k0.toInt = (37) := by have h := z_ne c5; rw [show (37 : Int32).toInt = 37 from by decide +kernel] at h; exact h
            refine lv_iload_n hx hb dX12_single_30 rfl (lv_at hl 0 rfl) ?_
            refine lv_bipush (v := 60) hx hb dX12_single_31 (by decide +kernel) ?_
            refine lv_icmp_eq (tgt := 96) hx hb dX12_single_33 (by decide) (fun c6 => ?_) (fun c6 => ?_)
            · have c6 : k0.toInt = (60) := by have h := z_eq c6; rw [show (60 : Int32).toInt = 60 from by decide +kernel] at h; exact h
              refine lv_iconst (v := 1) hx hb dX12_single_96 (by decide +kernel) ?_
              refine lv_goto (tgt := 101) hx hb dX12_single_97 (by decide) ?_
              refine W.widen (k := 0) (n := 0) (Nat.le_of_ble_eq_true rfl) (Nat.le_of_ble_eq_true rfl) ?_
              exact W.zret (v := 1) (ty := .boolean) hx hb hr (rfl) (fun t ht hW => ⟨⟨1, (), rfl, (v_single_6 st ar lo re k0 hpre c1 c2 c3 c4 c5 c6), by rw [ht]; exact hP, hD⟩, hS.F ht⟩) hS.2.2 dX12_single_101
            · have c6 : ¬ k0.toInt = (60) := by have h := z_ne c6; rw [show (60 : Int32).toInt = 60 from by decide +kernel] at h; exact h
              refine lv_iload_n hx hb dX12_single_36 rfl (lv_at hl 0 rfl) ?_
              refine lv_bipush (v := 62) hx hb dX12_single_37 (by decide +kernel) ?_
              refine lv_icmp_eq (tgt := 96) hx hb dX12_single_39 (by decide) (fun c7 => ?_) (fun c7 => ?_)
              · have c7 : k0.toInt = (62) := by have h := z_eq c7; rw [show (62 : Int32).toInt = 62 from by decide +kernel] at h; exact h
                refine lv_iconst (v := 1) hx hb dX12_single_96 (by decide +kernel) ?_
                refine lv_goto (tgt := 101) hx hb dX12_single_97 (by decide) ?_
                refine W.widen (k := 0) (n := 0) (Nat.le_of_ble_eq_true rfl) (Nat.le_of_ble_eq_true rfl) ?_
                exact W.zret (v := 1) (ty := .boolean) hx hb hr (rfl) (fun t ht hW => ⟨⟨1, (), rfl, (v_single_7 st ar lo re k0 hpre c1 c2 c3 c4 c5 c6 c7), by rw [ht]; exact hP, hD⟩, hS.F ht⟩) hS.2.2 dX12_single_101
              · have c7 : ¬ k0.toInt = (62) := by have h := z_ne c7; rw [show (62 : Int32).toInt = 62 from by decide +kernel] at h; exact h
                refine lv_iload_n hx hb dX12_single_42 rfl (lv_at hl 0 rfl) ?_
                refine lv_bipush (v := 33) hx hb dX12_single_43 (by decide +kernel) ?_
                refine lv_icmp_eq (tgt := 96) hx hb dX12_single_45 (by decide) (fun c8 => ?_) (fun c8 => ?_)
                · have c8 : k0.toInt = (33) := by have h := z_eq c8; rw [show (33 : Int32).toInt = 33 from by decide +kernel] at h; exact h
                  refine lv_iconst (v := 1) hx hb dX12_single_96 (by decide +kernel) ?_
                  refine lv_goto (tgt := 101) hx hb dX12_single_97 (by decide) ?_
                  refine W.widen (k := 0) (n := 0) (Nat.le_of_ble_eq_true rfl) (Nat.le_of_ble_eq_true rfl) ?_
                  exact W.zret (v := 1) (ty := .boolean) hx hb hr (rfl) (fun t ht hW => ⟨⟨1, (), rfl, (v_single_8 st ar lo re k0 hpre c1 c2 c3 c4 c5 c6 c7 c8), by rw [ht]; exact hP, hD⟩, hS.F ht⟩) hS.2.2 dX12_single_101
                · have c8 : ¬ k0.toInt = (33) := by have h := z_ne c8; rw [show (33 : Int32).toInt = 33 from by decide +kernel] at h; exact h
                  refine lv_iload_n hx hb dX12_single_48 rfl (lv_at hl 0 rfl) ?_
                  refine lv_bipush (v := 63) hx hb dX12_single_49 (by decide +kernel) ?_
                  refine lv_icmp_eq (tgt := 96) hx hb dX12_single_51 (by decide) (fun c9 => ?_) (fun c9 => ?_)
                  · have c9 : k0.toInt = (63) := by have h := z_eq c9; rw [show (63 : Int32).toInt = 63 from by decide +kernel] at h; exact h
                    refine lv_iconst (v := 1) hx hb dX12_single_96 (by decide +kernel) ?_
                    refine lv_goto (tgt := 101) hx hb dX12_single_97 (by decide) ?_
                    refine W.widen (k := 0) (n := 0) (Nat.le_of_ble_eq_true rfl) (Nat.le_of_ble_eq_true rfl) ?_
                    exact W.zret (v := 1) (ty := .boolean) hx hb hr (rfl) (fun t ht hW => ⟨⟨1, (), rfl, (v_single_9 st ar lo re k0 hpre c1 c2 c3 c4 c5 c6 c7 c8 c9), by rw [ht]; exact hP, hD⟩, hS.F ht⟩) hS.2.2 dX12_single_101
                  · have c9 : ¬ k0.toInt = (63) := by have h := z_ne c9; rw [show (63 : Int32).toInt = 63 from by decide +kernel] at h; exact h
                    refine lv_iload_n hx hb dX12_single_54 rfl (lv_at hl 0 rfl) ?_
                    refine lv_bipush (v := 58) hx hb dX12_single_55 (by decide +kernel) ?_
                    refine lv_icmp_eq (tgt := 96) hx hb dX12_single_57 (by decide) (fun c10 => ?_) (fun c10 => ?_)
                    · have c10 : k0.toInt = (58) := by have h := z_eq c10; rw [show (58 : Int32).toInt = 58 from by decide +kernel] at h; exact h
                      refine lv_iconst (v := 1) hx hb dX12_single_96 (by decide +kernel) ?_
                      refine lv_goto (tgt := 101) hx hb dX12_single_97 (by decide) ?_
                      refine W.widen (k := 0) (n := 0) (Nat.le_of_ble_eq_true rfl) (Nat.le_of_ble_eq_true rfl) ?_
                      exact W.zret (v := 1) (ty := .boolean) hx hb hr (rfl) (fun t ht hW => ⟨⟨1, (), rfl, (v_single_10 st ar lo re k0 hpre c1 c2 c3 c4 c5 c6 c7 c8 c9 c10), by rw [ht]; exact hP, hD⟩, hS.F ht⟩) hS.2.2 dX12_single_101
                    · have c10 : ¬ k0.toInt = (58) := by have h := z_ne c10; rw [show (58 : Int32).toInt = 58 from by decide +kernel] at h; exact h
                      refine lv_iload_n hx hb dX12_single_60 rfl (lv_at hl 0 rfl) ?_
                      refine lv_bipush (v := 46) hx hb dX12_single_61 (by decide +kernel) ?_
                      refine lv_icmp_eq (tgt := 96) hx hb dX12_single_63 (by decide) (fun c11 => ?_) (fun c11 => ?_)
                      · have c11 : k0.toInt = (46) := by have h := z_eq c11; rw [show (46 : Int32).toInt = 46 from by decide +kernel] at h; exact h
                        refine lv_iconst (v := 1) hx hb dX12_single_96 (by decide +kernel) ?_
                        refine lv_goto (tgt := 101) hx hb dX12_single_97 (by decide) ?_
                        refine W.widen (k := 0) (n := 0) (Nat.le_of_ble_eq_true rfl) (Nat.le_of_ble_eq_true rfl) ?_
                        exact W.zret (v := 1) (ty := .boolean) hx hb hr (rfl) (fun t ht hW => ⟨⟨1, (), rfl, (v_single_11 st ar lo re k0 hpre c1 c2 c3 c4 c5 c6 c7 c8 c9 c10 c11), by rw [ht]; exact hP, hD⟩, hS.F ht⟩) hS.2.2 dX12_single_101
                      · have c11 : ¬ k0.toInt = (46) := by have h := z_ne c11; rw [show (46 : Int32).toInt = 46 from by decide +kernel] at h; exact h
                        refine lv_iload_n hx hb dX12_single_66 rfl (lv_at hl 0 rfl) ?_
                        refine lv_bipush (v := 40) hx hb dX12_single_67 (by decide +kernel) ?_
                        refine lv_icmp_eq (tgt := 96) hx hb dX12_single_69 (by decide) (fun c12 => ?_) (fun c12 => ?_)
                        · have c12 : k0.toInt = (40) := by have h := z_eq c12; rw [show (40 : Int32).toInt = 40 from by decide +kernel] at h; exact h
                          refine lv_iconst (v := 1) hx hb dX12_single_96 (by decide +kernel) ?_
                          refine lv_goto (tgt := 101) hx hb dX12_single_97 (by decide) ?_
                          refine W.widen (k := 0) (n := 0) (Nat.le_of_ble_eq_true rfl) (Nat.le_of_ble_eq_true rfl) ?_
                          exact W.zret (v := 1) (ty := .boolean) hx hb hr (rfl) (fun t ht hW => ⟨⟨1, (), rfl, (v_single_12 st ar lo re k0 hpre c1 c2 c3 c4 c5 c6 c7 c8 c9 c10 c11 c12), by rw [ht]; exact hP, hD⟩, hS.F ht⟩) hS.2.2 dX12_single_101
                        · have c12 : ¬ k0.toInt = (40) := by have h := z_ne c12; rw [show (40 : Int32).toInt = 40 from by decide +kernel] at h; exact h
                          refine lv_iload_n hx hb dX12_single_72 rfl (lv_at hl 0 rfl) ?_
                          refine lv_bipush (v := 41) hx hb dX12_single_73 (by decide +kernel) ?_
                          refine lv_icmp_eq (tgt := 96) hx hb dX12_single_75 (by decide) (fun c13 => ?_) (fun c13 => ?_)
                          · have c13 : k0.toInt = (41) := by have h := z_eq c13; rw [show (41 : Int32).toInt = 41 from by decide +kernel] at h; exact h
                            refine lv_iconst (v := 1) hx hb dX12_single_96 (by decide +kernel) ?_
                            refine lv_goto (tgt := 101) hx hb dX12_single_97 (by decide) ?_
                            refine W.widen (k := 0) (n := 0) (Nat.le_of_ble_eq_true rfl) (Nat.le_of_ble_eq_true rfl) ?_
                            exact W.zret (v := 1) (ty := .boolean) hx hb hr (rfl) (fun t ht hW => ⟨⟨1, (), rfl, (v_single_13 st ar lo re k0 hpre c1 c2 c3 c4 c5 c6 c7 c8 c9 c10 c11 c12 c13), by rw [ht]; exact hP, hD⟩, hS.F ht⟩) hS.2.2 dX12_single_101
                          · have c13 : ¬ k0.toInt = (41) := by have h := z_ne c13; rw [show (41 : Int32).toInt = 41 from by decide +kernel] at h; exact h
                            refine lv_iload_n hx hb dX12_single_78 rfl (lv_at hl 0 rfl) ?_
                            refine lv_bipush (v := 44) hx hb dX12_single_79 (by decide +kernel) ?_
                            refine lv_icmp_eq (tgt := 96) hx hb dX12_single_81 (by decide) (fun c14 => ?_) (fun c14 => ?_)
                            · have c14 : k0.toInt = (44) := by have h := z_eq c14; rw [show (44 : Int32).toInt = 44 from by decide +kernel] at h; exact h
                              refine lv_iconst (v := 1) hx hb dX12_single_96 (by decide +kernel) ?_
                              refine lv_goto (tgt := 101) hx hb dX12_single_97 (by decide) ?_
                              refine W.widen (k := 0) (n := 0) (Nat.le_of_ble_eq_true rfl) (Nat.le_of_ble_eq_true rfl) ?_
                              exact W.zret (v := 1) (ty := .boolean) hx hb hr (rfl) (fun t ht hW => ⟨⟨1, (), rfl, (v_single_14 st ar lo re k0 hpre c1 c2 c3 c4 c5 c6 c7 c8 c9 c10 c11 c12 c13 c14), by rw [ht]; exact hP, hD⟩, hS.F ht⟩) hS.2.2 dX12_single_101
                            · have c14 : ¬ k0.toInt = (44) := by have h := z_ne c14; rw [show (44 : Int32).toInt = 44 from by decide +kernel] at h; exact h
                              refine lv_iload_n hx hb dX12_single_84 rfl (lv_at hl 0 rfl) ?_
                              refine lv_bipush (v := 35) hx hb dX12_single_85 (by decide +kernel) ?_
                              refine lv_icmp_eq (tgt := 96) hx hb dX12_single_87 (by decide) (fun c15 => ?_) (fun c15 => ?_)
                              · have c15 : k0.toInt = (35) := by have h := z_eq c15; rw [show (35 : Int32).toInt = 35 from by decide +kernel] at h; exact h
                                refine lv_iconst (v := 1) hx hb dX12_single_96 (by decide +kernel) ?_
                                refine lv_goto (tgt := 101) hx hb dX12_single_97 (by decide) ?_
                                refine W.widen (k := 0) (n := 0) (Nat.le_of_ble_eq_true rfl) (Nat.le_of_ble_eq_true rfl) ?_
                                exact W.zret (v := 1) (ty := .boolean) hx hb hr (rfl) (fun t ht hW => ⟨⟨1, (), rfl, (v_single_15 st ar lo re k0 hpre c1 c2 c3 c4 c5 c6 c7 c8 c9 c10 c11 c12 c13 c14 c15), by rw [ht]; exact hP, hD⟩, hS.F ht⟩) hS.2.2 dX12_single_101
                              · have c15 : ¬ k0.toInt = (35) := by have h := z_ne c15; rw [show (35 : Int32).toInt = 35 from by decide +kernel] at h; exact h
                                refine lv_iload_n hx hb dX12_single_90 rfl (lv_at hl 0 rfl) ?_
                                refine lv_bipush (v := 61) hx hb dX12_single_91 (by decide +kernel) ?_
                                refine lv_icmp_ne (tgt := 100) hx hb dX12_single_93 (by decide) (fun c16 => ?_) (fun c16 => ?_)
                                · have c16 : ¬ k0.toInt = (61) := by have h := z_ne c16; rw [show (61 : Int32).toInt = 61 from by decide +kernel] at h; exact h
                                  refine lv_iconst (v := 0) hx hb dX12_single_100 (by decide +kernel) ?_
                                  refine W.widen (k := 0) (n := 0) (Nat.le_of_ble_eq_true rfl) (Nat.le_of_ble_eq_true rfl) ?_
                                  exact W.zret (v := 0) (ty := .boolean) hx hb hr (rfl) (fun t ht hW => ⟨⟨0, (), rfl, (v_single_16 st ar lo re k0 hpre c1 c2 c3 c4 c5 c6 c7 c8 c9 c10 c11 c12 c13 c14 c15 c16), by rw [ht]; exact hP, hD⟩, hS.F ht⟩) hS.2.2 dX12_single_101
                                · have c16 : k0.toInt = (61) := by have h := z_eq c16; rw [show (61 : Int32).toInt = 61 from by decide +kernel] at h; exact h
                                  refine lv_iconst (v := 1) hx hb dX12_single_96 (by decide +kernel) ?_
                                  refine lv_goto (tgt := 101) hx hb dX12_single_97 (by decide) ?_
                                  refine W.widen (k := 0) (n := 0) (Nat.le_of_ble_eq_true rfl) (Nat.le_of_ble_eq_true rfl) ?_
                                  exact W.zret (v := 1) (ty := .boolean) hx hb hr (rfl) (fun t ht hW => ⟨⟨1, (), rfl, (v_single_17 st ar lo re k0 hpre c1 c2 c3 c4 c5 c6 c7 c8 c9 c10 c11 c12 c13 c14 c15 c16), by rw [ht]; exact hP, hD⟩, hS.F ht⟩) hS.2.2 dX12_single_101

def wqM_twice : List Cond := [.code yX12_twice cX12_twice 2 (some .boolean)]
set_option maxHeartbeats 4000000 in
set_option maxRecDepth 100000 in
theorem M_twice (l : Launch) (D : va_G) (cy : Nat → ClassId) (sz0 : Nat) (sa : Nat → Nat) (ad : Nat → Nat) (st : Nat → Int32) (ar : Nat → Nat → Int32) (lo : Nat → Nat → Int64) (re : Nat → UInt64) (sz : Nat) (k0 : Int32) (k1 : Int32) (hpre : True) : Met l yX12_twice wqM_twice ({ frames := 0, cells := 0, slots := 0, locals := 0 }) (PcW D cy sz0 sa [.int k0, .int k1] (MW cy ad st ar lo re) sz) (va_Qi (fun (r : Int32) (u : Unit) => r.toInt = 0 ∨ (r.toInt = 1 ∧ ¬ k1.toInt = 0)) (fun (u : Unit) (t : State) => BW D (MW cy ad st ar lo re) (va_A (MW cy ad st ar lo re) sz) t) (va_A (MW cy ad st ar lo re) sz)) 0 0 (va_A (MW cy ad st ar lo re) sz) := by
  refine Met.ofW (cc := cX12_twice) (maxL := 2) (ret := (some .boolean)) (by decide) rfl ?_
  intro p e s m args below meth c s₁ B hml hv
  obtain ⟨rfl, hsz, hP, hD0, hE⟩ := hv
  have hx := B.exec
  have hb := B.bytes
  have hr := B.returns
  have hts := atoms_spec (ws := wqM_twice) B.pre
  have hown : s.vm.findClass RX12 = some m.cls := findClass_of_methodNamed B.named
  have hlocks := B.notSynchronized
  subst hsz
  have hK := hE.1
  have hD := hD0.self (sz := s.heap.size)
  have hAF := frA hD0 hE.2.1
  generalize hAe : va_A (MW cy ad st ar lo re) s.heap.size = A at hD hAF ⊢
  have hA : ∀ q : Nat, s.heap.size ≤ q → A q := fun q h => by rw [← hAe]; exact Or.inr h
  have hS : va_S A s.heap s.heap [] := va_S.rf
  have hl := lv_entry ([.int k0, .int k1]) (n := 2) (Nat.le_of_ble_eq_true rfl)
  rw [lg_entry_eq]
  generalize (lg_sl ([.int k0, .int k1]) ++ List.replicate (2 - (lg_sl ([.int k0, .int k1])).length) Slot.unset).toArray = ls at hl ⊢
  have hl : lv_has ls 2 [(0, .int k0), (1, .int k1)] := hl
  refine lv_iload_n hx hb dX12_twice_0 rfl (lv_at hl 1 rfl) ?_
  refine lv_bipush (v := 61) hx hb dX12_twice_1 (by decide +kernel) ?_
  refine lv_icmp_ne (tgt := 30) hx hb dX12_twice_3 (by decide) (fun c1 => ?_) (fun c1 => ?_)
  · have c1 : ¬ k1.toInt = (61) := by have h := z_ne c1; rw [show (61 : Int32).toInt = 61 from by decide +kernel] at h; exact h
    refine lv_iload_n hx hb dX12_twice_30 rfl (lv_at hl 0 rfl) ?_
    refine lv_bipush (v := 38) hx hb dX12_twice_31 (by decide +kernel) ?_
    refine lv_icmp_ne (tgt := 42) hx hb dX12_twice_33 (by decide) (fun c2 => ?_) (fun c2 => ?_)
    · have c2 : ¬ k0.toInt = (38) := by have h := z_ne c2; rw [show (38 : Int32).toInt = 38 from by decide +kernel] at h; exact h
      refine lv_iload_n hx hb dX12_twice_42 rfl (lv_at hl 0 rfl) ?_
      refine lv_bipush (v := 124) hx hb dX12_twice_43 (by decide +kernel) ?_
      refine lv_icmp_ne (tgt := 54) hx hb dX12_twice_45 (by decide) (fun c3 => ?_) (fun c3 => ?_)
      · have c3 : ¬ k0.toInt = (124) := by have h := z_ne c3; rw [show (124 : Int32).toInt = 124 from by decide +kernel] at h; exact h
        refine lv_iload_n hx hb dX12_twice_54 rfl (lv_at hl 0 rfl) ?_
        refine lv_bipush (v := 63) hx hb dX12_twice_55 (by decide +kernel) ?_
        refine lv_icmp_ne (tgt := 76) hx hb dX12_twice_57 (by decide) (fun c4 => ?_) (fun c4 => ?_)
        · have c4 : ¬ k0.toInt = (63) := by have h := z_ne c4; rw [show (63 : Int32).toInt = 63 from by decide +kernel] at h; exact h
          refine lv_iconst (v := 0) hx hb dX12_twice_76 (by decide +kernel) ?_
          refine W.widen (k := 0) (n := 0) (Nat.le_of_ble_eq_true rfl) (Nat.le_of_ble_eq_true rfl) ?_
          exact W.zret (v := 0) (ty := .boolean) hx hb hr (rfl) (fun t ht hW => ⟨⟨0, (), rfl, (v_twice_1 st ar lo re k0 k1 hpre c1 c2 c3 c4), by rw [ht]; exact hP, hD⟩, hS.F ht⟩) hS.2.2 dX12_twice_77
        · have c4 : k0.toInt = (63) := by have h := z_eq c4; rw [show (63 : Int32).toInt = 63 from by decide +kernel] at h; exact h
          refine lv_iload_n hx hb dX12_twice_60 rfl (lv_at hl 1 rfl) ?_
          refine lv_bipush (v := 58) hx hb dX12_twice_61 (by decide +kernel) ?_
          refine lv_icmp_eq (tgt := 72) hx hb dX12_twice_63 (by decide) (fun c5 => ?_) (fun c5 => ?_)
          · have c5 : k1.toInt = (58) := by have h := z_eq c5; rw [show (58 : Int32).toInt = 58 from by decide +kernel] at h; exact h
            refine lv_iconst (v := 1) hx hb dX12_twice_72 (by decide +kernel) ?_
            refine lv_goto (tgt := 77) hx hb dX12_twice_73 (by decide) ?_
            refine W.widen (k := 0) (n := 0) (Nat.le_of_ble_eq_true rfl) (Nat.le_of_ble_eq_true rfl) ?_
            exact W.zret (v := 1) (ty := .boolean) hx hb hr (rfl) (fun t ht hW => ⟨⟨1, (), rfl, (v_twice_2 st ar lo re k0 k1 hpre c1 c2 c3 c4 c5), by rw [ht]; exact hP, hD⟩, hS.F ht⟩) hS.2.2 dX12_twice_77
          · have c5 : ¬ k1.toInt = (58) := by have h := z_ne c5; rw [show (58 : Int32).toInt = 58 from by decide +kernel] at h; exact h
            refine lv_iload_n hx hb dX12_twice_66 rfl (lv_at hl 1 rfl) ?_
            refine lv_bipush (v := 46) hx hb dX12_twice_67 (by decide +kernel) ?_
            refine lv_icmp_ne (tgt := 76) hx hb dX12_twice_69 (by decide) (fun c6 => ?_) (fun c6 => ?_)
            · have c6 : ¬ k1.toInt = (46) := by have h := z_ne c6; rw [show (46 : Int32).toInt = 46 from by decide +kernel] at h; exact h
              refine lv_iconst (v := 0) hx hb dX12_twice_76 (by decide +kernel) ?_
              refine W.widen (k := 0) (n := 0) (Nat.le_of_ble_eq_true rfl) (Nat.le_of_ble_eq_true rfl) ?_
              exact W.zret (v := 0) (ty := .boolean) hx hb hr (rfl) (fun t ht hW => ⟨⟨0, (), rfl, (v_twice_3 st ar lo re k0 k1 hpre c1 c2 c3 c4 c5 c6), by rw [ht]; exact hP, hD⟩, hS.F ht⟩) hS.2.2 dX12_twice_77
            · have c6 : k1.toInt = (46) := by have h := z_eq c6; rw [show (46 : Int32).toInt = 46 from by decide +kernel] at h; exact h
              refine lv_iconst (v := 1) hx hb dX12_twice_72 (by decide +kernel) ?_
              refine lv_goto (tgt := 77) hx hb dX12_twice_73 (by decide) ?_
              refine W.widen (k := 0) (n := 0) (Nat.le_of_ble_eq_true rfl) (Nat.le_of_ble_eq_true rfl) ?_
              exact W.zret (v := 1) (ty := .boolean) hx hb hr (rfl) (fun t ht hW => ⟨⟨1, (), rfl, (v_twice_4 st ar lo re k0 k1 hpre c1 c2 c3 c4 c5 c6), by rw [ht]; exact hP, hD⟩, hS.F ht⟩) hS.2.2 dX12_twice_77
      · have c3 : k0.toInt = (124) := by have h := z_eq c3; rw [show (124 : Int32).toInt = 124 from by decide +kernel] at h; exact h
        refine lv_iload_n hx hb dX12_twice_48 rfl (lv_at hl 1 rfl) ?_
        refine lv_bipush (v := 124) hx hb dX12_twice_49 (by decide +kernel) ?_
        refine lv_icmp_eq (tgt := 72) hx hb dX12_twice_51 (by decide) (fun c7 => ?_) (fun c7 => ?_)
        · have c7 : k1.toInt = (124) := by have h := z_eq c7; rw [show (124 : Int32).toInt = 124 from by decide +kernel] at h; exact h
          refine lv_iconst (v := 1) hx hb dX12_twice_72 (by decide +kernel) ?_
          refine lv_goto (tgt := 77) hx hb dX12_twice_73 (by decide) ?_
          refine W.widen (k := 0) (n := 0) (Nat.le_of_ble_eq_true rfl) (Nat.le_of_ble_eq_true rfl) ?_
          exact W.zret (v := 1) (ty := .boolean) hx hb hr (rfl) (fun t ht hW => ⟨⟨1, (), rfl, (v_twice_5 st ar lo re k0 k1 hpre c1 c2 c3 c7), by rw [ht]; exact hP, hD⟩, hS.F ht⟩) hS.2.2 dX12_twice_77
        · have c7 : ¬ k1.toInt = (124) := by have h := z_ne c7; rw [show (124 : Int32).toInt = 124 from by decide +kernel] at h; exact h
          refine lv_iload_n hx hb dX12_twice_54 rfl (lv_at hl 0 rfl) ?_
          refine lv_bipush (v := 63) hx hb dX12_twice_55 (by decide +kernel) ?_
          refine lv_icmp_ne (tgt := 76) hx hb dX12_twice_57 (by decide) (fun c8 => ?_) (fun c8 => ?_)
          · have c8 : ¬ k0.toInt = (63) := by have h := z_ne c8; rw [show (63 : Int32).toInt = 63 from by decide +kernel] at h; exact h
            refine lv_iconst (v := 0) hx hb dX12_twice_76 (by decide +kernel) ?_
            refine W.widen (k := 0) (n := 0) (Nat.le_of_ble_eq_true rfl) (Nat.le_of_ble_eq_true rfl) ?_
            exact W.zret (v := 0) (ty := .boolean) hx hb hr (rfl) (fun t ht hW => ⟨⟨0, (), rfl, (v_twice_6 st ar lo re k0 k1 hpre c1 c2 c3 c7 c8), by rw [ht]; exact hP, hD⟩, hS.F ht⟩) hS.2.2 dX12_twice_77
          · have c8 : k0.toInt = (63) := by have h := z_eq c8; rw [show (63 : Int32).toInt = 63 from by decide +kernel] at h; exact h
            refine lv_iload_n hx hb dX12_twice_60 rfl (lv_at hl 1 rfl) ?_
            refine lv_bipush (v := 58) hx hb dX12_twice_61 (by decide +kernel) ?_
            refine lv_icmp_eq (tgt := 72) hx hb dX12_twice_63 (by decide) (fun c9 => ?_) (fun c9 => ?_)
            · have c9 : k1.toInt = (58) := by have h := z_eq c9; rw [show (58 : Int32).toInt = 58 from by decide +kernel] at h; exact h
              refine lv_iconst (v := 1) hx hb dX12_twice_72 (by decide +kernel) ?_
              refine lv_goto (tgt := 77) hx hb dX12_twice_73 (by decide) ?_
              refine W.widen (k := 0) (n := 0) (Nat.le_of_ble_eq_true rfl) (Nat.le_of_ble_eq_true rfl) ?_
              exact W.zret (v := 1) (ty := .boolean) hx hb hr (rfl) (fun t ht hW => ⟨⟨1, (), rfl, (v_twice_7 st ar lo re k0 k1 hpre c1 c2 c3 c7 c8 c9), by rw [ht]; exact hP, hD⟩, hS.F ht⟩) hS.2.2 dX12_twice_77
            · have c9 : ¬ k1.toInt = (58) := by have h := z_ne c9; rw [show (58 : Int32).toInt = 58 from by decide +kernel] at h; exact h
              refine lv_iload_n hx hb dX12_twice_66 rfl (lv_at hl 1 rfl) ?_
              refine lv_bipush (v := 46) hx hb dX12_twice_67 (by decide +kernel) ?_
              refine lv_icmp_ne (tgt := 76) hx hb dX12_twice_69 (by decide) (fun c10 => ?_) (fun c10 => ?_)
              · have c10 : ¬ k1.toInt = (46) := by have h := z_ne c10; rw [show (46 : Int32).toInt = 46 from by decide +kernel] at h; exact h
                refine lv_iconst (v := 0) hx hb dX12_twice_76 (by decide +kernel) ?_
                refine W.widen (k := 0) (n := 0) (Nat.le_of_ble_eq_true rfl) (Nat.le_of_ble_eq_true rfl) ?_
                exact W.zret (v := 0) (ty := .boolean) hx hb hr (rfl) (fun t ht hW => ⟨⟨0, (), rfl, (v_twice_8 st ar lo re k0 k1 hpre c1 c2 c3 c7 c8 c9 c10), by rw [ht]; exact hP, hD⟩, hS.F ht⟩) hS.2.2 dX12_twice_77
              · have c10 : k1.toInt = (46) := by have h := z_eq c10; rw [show (46 : Int32).toInt = 46 from by decide +kernel] at h; exact h
                refine lv_iconst (v := 1) hx hb dX12_twice_72 (by decide +kernel) ?_
                refine lv_goto (tgt := 77) hx hb dX12_twice_73 (by decide) ?_
                refine W.widen (k := 0) (n := 0) (Nat.le_of_ble_eq_true rfl) (Nat.le_of_ble_eq_true rfl) ?_
                exact W.zret (v := 1) (ty := .boolean) hx hb hr (rfl) (fun t ht hW => ⟨⟨1, (), rfl, (v_twice_9 st ar lo re k0 k1 hpre c1 c2 c3 c7 c8 c9 c10), by rw [ht]; exact hP, hD⟩, hS.F ht⟩) hS.2.2 dX12_twice_77
    · have c2 : k0.toInt = (38) := by have h := z_eq c2; rw [show (38 : Int32).toInt = 38 from by decide +kernel] at h; exact h
      refine lv_iload_n hx hb dX12_twice_36 rfl (lv_at hl 1 rfl) ?_
      refine lv_bipush (v := 38) hx hb dX12_twice_37 (by decide +kernel) ?_
      refine lv_icmp_eq (tgt := 72) hx hb dX12_twice_39 (by decide) (fun c11 => ?_) (fun c11 => ?_)
      · have c11 : k1.toInt = (38) := by have h := z_eq c11; rw [show (38 : Int32).toInt = 38 from by decide +kernel] at h; exact h
        refine lv_iconst (v := 1) hx hb dX12_twice_72 (by decide +kernel) ?_
        refine lv_goto (tgt := 77) hx hb dX12_twice_73 (by decide) ?_
        refine W.widen (k := 0) (n := 0) (Nat.le_of_ble_eq_true rfl) (Nat.le_of_ble_eq_true rfl) ?_
        exact W.zret (v := 1) (ty := .boolean) hx hb hr (rfl) (fun t ht hW => ⟨⟨1, (), rfl, (v_twice_10 st ar lo re k0 k1 hpre c1 c2 c11), by rw [ht]; exact hP, hD⟩, hS.F ht⟩) hS.2.2 dX12_twice_77
      · have c11 : ¬ k1.toInt = (38) := by have h := z_ne c11; rw [show (38 : Int32).toInt = 38 from by decide +kernel] at h; exact h
        refine lv_iload_n hx hb dX12_twice_42 rfl (lv_at hl 0 rfl) ?_
        refine lv_bipush (v := 124) hx hb dX12_twice_43 (by decide +kernel) ?_
        refine lv_icmp_ne (tgt := 54) hx hb dX12_twice_45 (by decide) (fun c12 => ?_) (fun c12 => ?_)
        · have c12 : ¬ k0.toInt = (124) := by have h := z_ne c12; rw [show (124 : Int32).toInt = 124 from by decide +kernel] at h; exact h
          refine lv_iload_n hx hb dX12_twice_54 rfl (lv_at hl 0 rfl) ?_
          refine lv_bipush (v := 63) hx hb dX12_twice_55 (by decide +kernel) ?_
          refine lv_icmp_ne (tgt := 76) hx hb dX12_twice_57 (by decide) (fun c13 => ?_) (fun c13 => ?_)
          · have c13 : ¬ k0.toInt = (63) := by have h := z_ne c13; rw [show (63 : Int32).toInt = 63 from by decide +kernel] at h; exact h
            refine lv_iconst (v := 0) hx hb dX12_twice_76 (by decide +kernel) ?_
            refine W.widen (k := 0) (n := 0) (Nat.le_of_ble_eq_true rfl) (Nat.le_of_ble_eq_true rfl) ?_
            exact W.zret (v := 0) (ty := .boolean) hx hb hr (rfl) (fun t ht hW => ⟨⟨0, (), rfl, (v_twice_11 st ar lo re k0 k1 hpre c1 c2 c11 c12 c13), by rw [ht]; exact hP, hD⟩, hS.F ht⟩) hS.2.2 dX12_twice_77
          · have c13 : k0.toInt = (63) := by have h := z_eq c13; rw [show (63 : Int32).toInt = 63 from by decide +kernel] at h; exact h
            refine lv_iload_n hx hb dX12_twice_60 rfl (lv_at hl 1 rfl) ?_
            refine lv_bipush (v := 58) hx hb dX12_twice_61 (by decide +kernel) ?_
            refine lv_icmp_eq (tgt := 72) hx hb dX12_twice_63 (by decide) (fun c14 => ?_) (fun c14 => ?_)
            · have c14 : k1.toInt = (58) := by have h := z_eq c14; rw [show (58 : Int32).toInt = 58 from by decide +kernel] at h; exact h
              refine lv_iconst (v := 1) hx hb dX12_twice_72 (by decide +kernel) ?_
              refine lv_goto (tgt := 77) hx hb dX12_twice_73 (by decide) ?_
              refine W.widen (k := 0) (n := 0) (Nat.le_of_ble_eq_true rfl) (Nat.le_of_ble_eq_true rfl) ?_
              exact W.zret (v := 1) (ty := .boolean) hx hb hr (rfl) (fun t ht hW => ⟨⟨1, (), rfl, (v_twice_12 st ar lo re k0 k1 hpre c1 c2 c11 c12 c13 c14), by rw [ht]; exact hP, hD⟩, hS.F ht⟩) hS.2.2 dX12_twice_77
            · have c14 : ¬ k1.toInt = (58) := by have h := z_ne c14; rw [show (58 : Int32).toInt = 58 from by decide +kernel] at h; exact h
              refine lv_iload_n hx hb dX12_twice_66 rfl (lv_at hl 1 rfl) ?_
              refine lv_bipush (v := 46) hx hb dX12_twice_67 (by decide +kernel) ?_
              refine lv_icmp_ne (tgt := 76) hx hb dX12_twice_69 (by decide) (fun c15 => ?_) (fun c15 => ?_)
              · have c15 : ¬ k1.toInt = (46) := by have h := z_ne c15; rw [show (46 : Int32).toInt = 46 from by decide +kernel] at h; exact h
                refine lv_iconst (v := 0) hx hb dX12_twice_76 (by decide +kernel) ?_
                refine W.widen (k := 0) (n := 0) (Nat.le_of_ble_eq_true rfl) (Nat.le_of_ble_eq_true rfl) ?_
                exact W.zret (v := 0) (ty := .boolean) hx hb hr (rfl) (fun t ht hW => ⟨⟨0, (), rfl, (v_twice_13 st ar lo re k0 k1 hpre c1 c2 c11 c12 c13 c14 c15), by rw [ht]; exact hP, hD⟩, hS.F ht⟩) hS.2.2 dX12_twice_77
              · have c15 : k1.toInt = (46) := by have h := z_eq c15; rw [show (46 : Int32).toInt = 46 from by decide +kernel] at h; exact h
                refine lv_iconst (v := 1) hx hb dX12_twice_72 (by decide +kernel) ?_
                refine lv_goto (tgt := 77) hx hb dX12_twice_73 (by decide) ?_
                refine W.widen (k := 0) (n := 0) (Nat.le_of_ble_eq_true rfl) (Nat.le_of_ble_eq_true rfl) ?_
                exact W.zret (v := 1) (ty := .boolean) hx hb hr (rfl) (fun t ht hW => ⟨⟨1, (), rfl, (v_twice_14 st ar lo re k0 k1 hpre c1 c2 c11 c12 c13 c14 c15), by rw [ht]; exact hP, hD⟩, hS.F ht⟩) hS.2.2 dX12_twice_77
        · have c12 : k0.toInt = (124) := by have h := z_eq c12; rw [show (124 : Int32).toInt = 124 from by decide +kernel] at h; exact h
          refine lv_iload_n hx hb dX12_twice_48 rfl (lv_at hl 1 rfl) ?_
          refine lv_bipush (v := 124) hx hb dX12_twice_49 (by decide +kernel) ?_
          refine lv_icmp_eq (tgt := 72) hx hb dX12_twice_51 (by decide) (fun c16 => ?_) (fun c16 => ?_)
          · have c16 : k1.toInt = (124) := by have h := z_eq c16; rw [show (124 : Int32).toInt = 124 from by decide +kernel] at h; exact h
            refine lv_iconst (v := 1) hx hb dX12_twice_72 (by decide +kernel) ?_
            refine lv_goto (tgt := 77) hx hb dX12_twice_73 (by decide) ?_
            refine W.widen (k := 0) (n := 0) (Nat.le_of_ble_eq_true rfl) (Nat.le_of_ble_eq_true rfl) ?_
            exact W.zret (v := 1) (ty := .boolean) hx hb hr (rfl) (fun t ht hW => ⟨⟨1, (), rfl, (v_twice_15 st ar lo re k0 k1 hpre c1 c2 c11 c12 c16), by rw [ht]; exact hP, hD⟩, hS.F ht⟩) hS.2.2 dX12_twice_77
          · have c16 : ¬ k1.toInt = (124) := by have h := z_ne c16; rw [show (124 : Int32).toInt = 124 from by decide +kernel] at h; exact h
            refine lv_iload_n hx hb dX12_twice_54 rfl (lv_at hl 0 rfl) ?_
            refine lv_bipush (v := 63) hx hb dX12_twice_55 (by decide +kernel) ?_
            refine lv_icmp_ne (tgt := 76) hx hb dX12_twice_57 (by decide) (fun c17 => ?_) (fun c17 => ?_)
            · have c17 : ¬ k0.toInt = (63) := by have h := z_ne c17; rw [show (63 : Int32).toInt = 63 from by decide +kernel] at h; exact h
              refine lv_iconst (v := 0) hx hb dX12_twice_76 (by decide +kernel) ?_
              refine W.widen (k := 0) (n := 0) (Nat.le_of_ble_eq_true rfl) (Nat.le_of_ble_eq_true rfl) ?_
              exact W.zret (v := 0) (ty := .boolean) hx hb hr (rfl) (fun t ht hW => ⟨⟨0, (), rfl, (v_twice_16 st ar lo re k0 k1 hpre c1 c2 c11 c12 c16 c17), by rw [ht]; exact hP, hD⟩, hS.F ht⟩) hS.2.2 dX12_twice_77
            · have c17 : k0.toInt = (63) := by have h := z_eq c17; rw [show (63 : Int32).toInt = 63 from by decide +kernel] at h; exact h
              refine lv_iload_n hx hb dX12_twice_60 rfl (lv_at hl 1 rfl) ?_
              refine lv_bipush (v := 58) hx hb dX12_twice_61 (by decide +kernel) ?_
              refine lv_icmp_eq (tgt := 72) hx hb dX12_twice_63 (by decide) (fun c18 => ?_) (fun c18 => ?_)
              · have c18 : k1.toInt = (58) := by have h := z_eq c18; rw [show (58 : Int32).toInt = 58 from by decide +kernel] at h; exact h
                refine lv_iconst (v := 1) hx hb dX12_twice_72 (by decide +kernel) ?_
                refine lv_goto (tgt := 77) hx hb dX12_twice_73 (by decide) ?_
                refine W.widen (k := 0) (n := 0) (Nat.le_of_ble_eq_true rfl) (Nat.le_of_ble_eq_true rfl) ?_
                exact W.zret (v := 1) (ty := .boolean) hx hb hr (rfl) (fun t ht hW => ⟨⟨1, (), rfl, (v_twice_17 st ar lo re k0 k1 hpre c1 c2 c11 c12 c16 c17 c18), by rw [ht]; exact hP, hD⟩, hS.F ht⟩) hS.2.2 dX12_twice_77
              · have c18 : ¬ k1.toInt = (58) := by have h := z_ne c18; rw [show (58 : Int32).toInt = 58 from by decide +kernel] at h; exact h
                refine lv_iload_n hx hb dX12_twice_66 rfl (lv_at hl 1 rfl) ?_
                refine lv_bipush (v := 46) hx hb dX12_twice_67 (by decide +kernel) ?_
                refine lv_icmp_ne (tgt := 76) hx hb dX12_twice_69 (by decide) (fun c19 => ?_) (fun c19 => ?_)
                · have c19 : ¬ k1.toInt = (46) := by have h := z_ne c19; rw [show (46 : Int32).toInt = 46 from by decide +kernel] at h; exact h
                  refine lv_iconst (v := 0) hx hb dX12_twice_76 (by decide +kernel) ?_
                  refine W.widen (k := 0) (n := 0) (Nat.le_of_ble_eq_true rfl) (Nat.le_of_ble_eq_true rfl) ?_
                  exact W.zret (v := 0) (ty := .boolean) hx hb hr (rfl) (fun t ht hW => ⟨⟨0, (), rfl, (v_twice_18 st ar lo re k0 k1 hpre c1 c2 c11 c12 c16 c17 c18 c19), by rw [ht]; exact hP, hD⟩, hS.F ht⟩) hS.2.2 dX12_twice_77
                · have c19 : k1.toInt = (46) := by have h := z_eq c19; rw [show (46 : Int32).toInt = 46 from by decide +kernel] at h; exact h
                  refine lv_iconst (v := 1) hx hb dX12_twice_72 (by decide +kernel) ?_
                  refine lv_goto (tgt := 77) hx hb dX12_twice_73 (by decide) ?_
                  refine W.widen (k := 0) (n := 0) (Nat.le_of_ble_eq_true rfl) (Nat.le_of_ble_eq_true rfl) ?_
                  exact W.zret (v := 1) (ty := .boolean) hx hb hr (rfl) (fun t ht hW => ⟨⟨1, (), rfl, (v_twice_19 st ar lo re k0 k1 hpre c1 c2 c11 c12 c16 c17 c18 c19), by rw [ht]; exact hP, hD⟩, hS.F ht⟩) hS.2.2 dX12_twice_77
  · have c1 : k1.toInt = (61) := by have h := z_eq c1; rw [show (61 : Int32).toInt = 61 from by decide +kernel] at h; exact h
    refine lv_iload_n hx hb dX12_twice_6 rfl (lv_at hl 0 rfl) ?_
    refine lv_bipush (v := 60) hx hb dX12_twice_7 (by decide +kernel) ?_
    refine lv_icmp_eq (tgt := 72) hx hb dX12_twice_9 (by decide) (fun c20 => ?_) (fun c20 => ?_)
    · have c20 : k0.toInt = (60) := by have h := z_eq c20; rw [show (60 : Int32).toInt = 60 from by decide +kernel] at h; exact h
      refine lv_iconst (v := 1) hx hb dX12_twice_72 (by decide +kernel) ?_
      refine lv_goto (tgt := 77) hx hb dX12_twice_73 (by decide) ?_
      refine W.widen (k := 0) (n := 0) (Nat.le_of_ble_eq_true rfl) (Nat.le_of_ble_eq_true rfl) ?_
      exact W.zret (v := 1) (ty := .boolean) hx hb hr (rfl) (fun t ht hW => ⟨⟨1, (), rfl, (v_twice_20 st ar lo re k0 k1 hpre c1 c20), by rw [ht]; exact hP, hD⟩, hS.F ht⟩) hS.2.2 dX12_twice_77
    · have c20 : ¬ k0.toInt = (60) := by have h := z_ne c20; rw [show (60 : Int32).toInt = 60 from by decide +kernel] at h; exact h
      refine lv_iload_n hx hb dX12_twice_12 rfl (lv_at hl 0 rfl) ?_
      refine lv_bipush (v := 62) hx hb dX12_twice_13 (by decide +kernel) ?_
      refine lv_icmp_eq (tgt := 72) hx hb dX12_twice_15 (by decide) (fun c21 => ?_) (fun c21 => ?_)
      · have c21 : k0.toInt = (62) := by have h := z_eq c21; rw [show (62 : Int32).toInt = 62 from by decide +kernel] at h; exact h
        refine lv_iconst (v := 1) hx hb dX12_twice_72 (by decide +kernel) ?_
        refine lv_goto (tgt := 77) hx hb dX12_twice_73 (by decide) ?_
        refine W.widen (k := 0) (n := 0) (Nat.le_of_ble_eq_true rfl) (Nat.le_of_ble_eq_true rfl) ?_
        exact W.zret (v := 1) (ty := .boolean) hx hb hr (rfl) (fun t ht hW => ⟨⟨1, (), rfl, (v_twice_21 st ar lo re k0 k1 hpre c1 c20 c21), by rw [ht]; exact hP, hD⟩, hS.F ht⟩) hS.2.2 dX12_twice_77
      · have c21 : ¬ k0.toInt = (62) := by have h := z_ne c21; rw [show (62 : Int32).toInt = 62 from by decide +kernel] at h; exact h
        refine lv_iload_n hx hb dX12_twice_18 rfl (lv_at hl 0 rfl) ?_
        refine lv_bipush (v := 61) hx hb dX12_twice_19 (by decide +kernel) ?_
        refine lv_icmp_eq (tgt := 72) hx hb dX12_twice_21 (by decide) (fun c22 => ?_) (fun c22 => ?_)
        · have c22 : k0.toInt = (61) := by have h := z_eq c22; rw [show (61 : Int32).toInt = 61 from by decide +kernel] at h; exact h
          refine lv_iconst (v := 1) hx hb dX12_twice_72 (by decide +kernel) ?_
          refine lv_goto (tgt := 77) hx hb dX12_twice_73 (by decide) ?_
          refine W.widen (k := 0) (n := 0) (Nat.le_of_ble_eq_true rfl) (Nat.le_of_ble_eq_true rfl) ?_
          exact W.zret (v := 1) (ty := .boolean) hx hb hr (rfl) (fun t ht hW => ⟨⟨1, (), rfl, (v_twice_22 st ar lo re k0 k1 hpre c1 c20 c21 c22), by rw [ht]; exact hP, hD⟩, hS.F ht⟩) hS.2.2 dX12_twice_77
        · have c22 : ¬ k0.toInt = (61) := by have h := z_ne c22; rw [show (61 : Int32).toInt = 61 from by decide +kernel] at h; exact h
          refine lv_iload_n hx hb dX12_twice_24 rfl (lv_at hl 0 rfl) ?_
          refine lv_bipush (v := 33) hx hb dX12_twice_25 (by decide +kernel) ?_
          refine lv_icmp_eq (tgt := 72) hx hb dX12_twice_27 (by decide) (fun c23 => ?_) (fun c23 => ?_)
          · have c23 : k0.toInt = (33) := by have h := z_eq c23; rw [show (33 : Int32).toInt = 33 from by decide +kernel] at h; exact h
            refine lv_iconst (v := 1) hx hb dX12_twice_72 (by decide +kernel) ?_
            refine lv_goto (tgt := 77) hx hb dX12_twice_73 (by decide) ?_
            refine W.widen (k := 0) (n := 0) (Nat.le_of_ble_eq_true rfl) (Nat.le_of_ble_eq_true rfl) ?_
            exact W.zret (v := 1) (ty := .boolean) hx hb hr (rfl) (fun t ht hW => ⟨⟨1, (), rfl, (v_twice_23 st ar lo re k0 k1 hpre c1 c20 c21 c22 c23), by rw [ht]; exact hP, hD⟩, hS.F ht⟩) hS.2.2 dX12_twice_77
          · have c23 : ¬ k0.toInt = (33) := by have h := z_ne c23; rw [show (33 : Int32).toInt = 33 from by decide +kernel] at h; exact h
            refine lv_iload_n hx hb dX12_twice_30 rfl (lv_at hl 0 rfl) ?_
            refine lv_bipush (v := 38) hx hb dX12_twice_31 (by decide +kernel) ?_
            refine lv_icmp_ne (tgt := 42) hx hb dX12_twice_33 (by decide) (fun c24 => ?_) (fun c24 => ?_)
            · have c24 : ¬ k0.toInt = (38) := by have h := z_ne c24; rw [show (38 : Int32).toInt = 38 from by decide +kernel] at h; exact h
              refine lv_iload_n hx hb dX12_twice_42 rfl (lv_at hl 0 rfl) ?_
              refine lv_bipush (v := 124) hx hb dX12_twice_43 (by decide +kernel) ?_
              refine lv_icmp_ne (tgt := 54) hx hb dX12_twice_45 (by decide) (fun c25 => ?_) (fun c25 => ?_)
              · have c25 : ¬ k0.toInt = (124) := by have h := z_ne c25; rw [show (124 : Int32).toInt = 124 from by decide +kernel] at h; exact h
                refine lv_iload_n hx hb dX12_twice_54 rfl (lv_at hl 0 rfl) ?_
                refine lv_bipush (v := 63) hx hb dX12_twice_55 (by decide +kernel) ?_
                refine lv_icmp_ne (tgt := 76) hx hb dX12_twice_57 (by decide) (fun c26 => ?_) (fun c26 => ?_)
                · have c26 : ¬ k0.toInt = (63) := by have h := z_ne c26; rw [show (63 : Int32).toInt = 63 from by decide +kernel] at h; exact h
                  refine lv_iconst (v := 0) hx hb dX12_twice_76 (by decide +kernel) ?_
                  refine W.widen (k := 0) (n := 0) (Nat.le_of_ble_eq_true rfl) (Nat.le_of_ble_eq_true rfl) ?_
                  exact W.zret (v := 0) (ty := .boolean) hx hb hr (rfl) (fun t ht hW => ⟨⟨0, (), rfl, (v_twice_24 st ar lo re k0 k1 hpre c1 c20 c21 c22 c23 c24 c25 c26), by rw [ht]; exact hP, hD⟩, hS.F ht⟩) hS.2.2 dX12_twice_77
                · have c26 : k0.toInt = (63) := by have h := z_eq c26; rw [show (63 : Int32).toInt = 63 from by decide +kernel] at h; exact h
                  refine lv_iload_n hx hb dX12_twice_60 rfl (lv_at hl 1 rfl) ?_
                  refine lv_bipush (v := 58) hx hb dX12_twice_61 (by decide +kernel) ?_
                  refine lv_icmp_eq (tgt := 72) hx hb dX12_twice_63 (by decide) (fun c27 => ?_) (fun c27 => ?_)
                  · have c27 : k1.toInt = (58) := by have h := z_eq c27; rw [show (58 : Int32).toInt = 58 from by decide +kernel] at h; exact h
                    refine lv_iconst (v := 1) hx hb dX12_twice_72 (by decide +kernel) ?_
                    refine lv_goto (tgt := 77) hx hb dX12_twice_73 (by decide) ?_
                    refine W.widen (k := 0) (n := 0) (Nat.le_of_ble_eq_true rfl) (Nat.le_of_ble_eq_true rfl) ?_
                    exact W.zret (v := 1) (ty := .boolean) hx hb hr (rfl) (fun t ht hW => ⟨⟨1, (), rfl, (v_twice_25 st ar lo re k0 k1 hpre c1 c20 c21 c22 c23 c24 c25 c26 c27), by rw [ht]; exact hP, hD⟩, hS.F ht⟩) hS.2.2 dX12_twice_77
                  · have c27 : ¬ k1.toInt = (58) := by have h := z_ne c27; rw [show (58 : Int32).toInt = 58 from by decide +kernel] at h; exact h
                    refine lv_iload_n hx hb dX12_twice_66 rfl (lv_at hl 1 rfl) ?_
                    refine lv_bipush (v := 46) hx hb dX12_twice_67 (by decide +kernel) ?_
                    refine lv_icmp_ne (tgt := 76) hx hb dX12_twice_69 (by decide) (fun c28 => ?_) (fun c28 => ?_)
                    · have c28 : ¬ k1.toInt = (46) := by have h := z_ne c28; rw [show (46 : Int32).toInt = 46 from by decide +kernel] at h; exact h
                      refine lv_iconst (v := 0) hx hb dX12_twice_76 (by decide +kernel) ?_
                      refine W.widen (k := 0) (n := 0) (Nat.le_of_ble_eq_true rfl) (Nat.le_of_ble_eq_true rfl) ?_
                      exact W.zret (v := 0) (ty := .boolean) hx hb hr (rfl) (fun t ht hW => ⟨⟨0, (), rfl, (v_twice_26 st ar lo re k0 k1 hpre c1 c20 c21 c22 c23 c24 c25 c26 c27 c28), by rw [ht]; exact hP, hD⟩, hS.F ht⟩) hS.2.2 dX12_twice_77
                    · have c28 : k1.toInt = (46) := by have h := z_eq c28; rw [show (46 : Int32).toInt = 46 from by decide +kernel] at h; exact h
                      refine lv_iconst (v := 1) hx hb dX12_twice_72 (by decide +kernel) ?_
                      refine lv_goto (tgt := 77) hx hb dX12_twice_73 (by decide) ?_
                      refine W.widen (k := 0) (n := 0) (Nat.le_of_ble_eq_true rfl) (Nat.le_of_ble_eq_true rfl) ?_
                      exact W.zret (v := 1) (ty := .boolean) hx hb hr (rfl) (fun t ht hW => ⟨⟨1, (), rfl, (v_twice_27 st ar lo re k0 k1 hpre c1 c20 c21 c22 c23 c24 c25 c26 c27 c28), by rw [ht]; exact hP, hD⟩, hS.F ht⟩) hS.2.2 dX12_twice_77
              · have c25 : k0.toInt = (124) := by have h := z_eq c25; rw [show (124 : Int32).toInt = 124 from by decide +kernel] at h; exact h
                refine lv_iload_n hx hb dX12_twice_48 rfl (lv_at hl 1 rfl) ?_
                refine lv_bipush (v := 124) hx hb dX12_twice_49 (by decide +kernel) ?_
                refine lv_icmp_eq (tgt := 72) hx hb dX12_twice_51 (by decide) (fun c29 => ?_) (fun c29 => ?_)
                · have c29 : k1.toInt = (124) := by have h := z_eq c29; rw [show (124 : Int32).toInt = 124 from by decide +kernel] at h; exact h
                  refine lv_iconst (v := 1) hx hb dX12_twice_72 (by decide +kernel) ?_
                  refine lv_goto (tgt := 77) hx hb dX12_twice_73 (by decide) ?_
                  refine W.widen (k := 0) (n := 0) (Nat.le_of_ble_eq_true rfl) (Nat.le_of_ble_eq_true rfl) ?_
                  exact W.zret (v := 1) (ty := .boolean) hx hb hr (rfl) (fun t ht hW => ⟨⟨1, (), rfl, (v_twice_28 st ar lo re k0 k1 hpre c1 c20 c21 c22 c23 c24 c25 c29), by rw [ht]; exact hP, hD⟩, hS.F ht⟩) hS.2.2 dX12_twice_77
                · have c29 : ¬ k1.toInt = (124) := by have h := z_ne c29; rw [show (124 : Int32).toInt = 124 from by decide +kernel] at h; exact h
                  refine lv_iload_n hx hb dX12_twice_54 rfl (lv_at hl 0 rfl) ?_
                  refine lv_bipush (v := 63) hx hb dX12_twice_55 (by decide +kernel) ?_
                  refine lv_icmp_ne (tgt := 76) hx hb dX12_twice_57 (by decide) (fun c30 => ?_) (fun c30 => ?_)
                  · have c30 : ¬ k0.toInt = (63) := by have h := z_ne c30; rw [show (63 : Int32).toInt = 63 from by decide +kernel] at h; exact h
                    refine lv_iconst (v := 0) hx hb dX12_twice_76 (by decide +kernel) ?_
                    refine W.widen (k := 0) (n := 0) (Nat.le_of_ble_eq_true rfl) (Nat.le_of_ble_eq_true rfl) ?_
                    exact W.zret (v := 0) (ty := .boolean) hx hb hr (rfl) (fun t ht hW => ⟨⟨0, (), rfl, (v_twice_29 st ar lo re k0 k1 hpre c1 c20 c21 c22 c23 c24 c25 c29 c30), by rw [ht]; exact hP, hD⟩, hS.F ht⟩) hS.2.2 dX12_twice_77
                  · have c30 : k0.toInt = (63) := by have h := z_eq c30; rw [show (63 : Int32).toInt = 63 from by decide +kernel] at h; exact h
                    refine lv_iload_n hx hb dX12_twice_60 rfl (lv_at hl 1 rfl) ?_
                    refine lv_bipush (v := 58) hx hb dX12_twice_61 (by decide +kernel) ?_
                    refine lv_icmp_eq (tgt := 72) hx hb dX12_twice_63 (by decide) (fun c31 => ?_) (fun c31 => ?_)
                    · have c31 : k1.toInt = (58) := by have h := z_eq c31; rw [show (58 : Int32).toInt = 58 from by decide +kernel] at h; exact h
                      refine lv_iconst (v := 1) hx hb dX12_twice_72 (by decide +kernel) ?_
                      refine lv_goto (tgt := 77) hx hb dX12_twice_73 (by decide) ?_
                      refine W.widen (k := 0) (n := 0) (Nat.le_of_ble_eq_true rfl) (Nat.le_of_ble_eq_true rfl) ?_
                      exact W.zret (v := 1) (ty := .boolean) hx hb hr (rfl) (fun t ht hW => ⟨⟨1, (), rfl, (v_twice_30 st ar lo re k0 k1 hpre c1 c20 c21 c22 c23 c24 c25 c29 c30 c31), by rw [ht]; exact hP, hD⟩, hS.F ht⟩) hS.2.2 dX12_twice_77
                    · have c31 : ¬ k1.toInt = (58) := by have h := z_ne c31; rw [show (58 : Int32).toInt = 58 from by decide +kernel] at h; exact h
                      refine lv_iload_n hx hb dX12_twice_66 rfl (lv_at hl 1 rfl) ?_
                      refine lv_bipush (v := 46) hx hb dX12_twice_67 (by decide +kernel) ?_
                      refine lv_icmp_ne (tgt := 76) hx hb dX12_twice_69 (by decide) (fun c32 => ?_) (fun c32 => ?_)
                      · have c32 : ¬ k1.toInt = (46) := by have h := z_ne c32; rw [show (46 : Int32).toInt = 46 from by decide +kernel] at h; exact h
                        refine lv_iconst (v := 0) hx hb dX12_twice_76 (by decide +kernel) ?_
                        refine W.widen (k := 0) (n := 0) (Nat.le_of_ble_eq_true rfl) (Nat.le_of_ble_eq_true rfl) ?_
                        exact W.zret (v := 0) (ty := .boolean) hx hb hr (rfl) (fun t ht hW => ⟨⟨0, (), rfl, (v_twice_31 st ar lo re k0 k1 hpre c1 c20 c21 c22 c23 c24 c25 c29 c30 c31 c32), by rw [ht]; exact hP, hD⟩, hS.F ht⟩) hS.2.2 dX12_twice_77
                      · have c32 : k1.toInt = (46) := by have h := z_eq c32; rw [show (46 : Int32).toInt = 46 from by decide +kernel] at h; exact h
                        refine lv_iconst (v := 1) hx hb dX12_twice_72 (by decide +kernel) ?_
                        refine lv_goto (tgt := 77) hx hb dX12_twice_73 (by decide) ?_
                        refine W.widen (k := 0) (n := 0) (Nat.le_of_ble_eq_true rfl) (Nat.le_of_ble_eq_true rfl) ?_
                        exact W.zret (v := 1) (ty := .boolean) hx hb hr (rfl) (fun t ht hW => ⟨⟨1, (), rfl, (v_twice_32 st ar lo re k0 k1 hpre c1 c20 c21 c22 c23 c24 c25 c29 c30 c31 c32), by rw [ht]; exact hP, hD⟩, hS.F ht⟩) hS.2.2 dX12_twice_77
            · have c24 : k0.toInt = (38) := by have h := z_eq c24; rw [show (38 : Int32).toInt = 38 from by decide +kernel] at h; exact h
              refine lv_iload_n hx hb dX12_twice_36 rfl (lv_at hl 1 rfl) ?_
              refine lv_bipush (v := 38) hx hb dX12_twice_37 (by decide +kernel) ?_
              refine lv_icmp_eq (tgt := 72) hx hb dX12_twice_39 (by decide) (fun c33 => ?_) (fun c33 => ?_)
              · have c33 : k1.toInt = (38) := by have h := z_eq c33; rw [show (38 : Int32).toInt = 38 from by decide +kernel] at h; exact h
                refine lv_iconst (v := 1) hx hb dX12_twice_72 (by decide +kernel) ?_
                refine lv_goto (tgt := 77) hx hb dX12_twice_73 (by decide) ?_
                refine W.widen (k := 0) (n := 0) (Nat.le_of_ble_eq_true rfl) (Nat.le_of_ble_eq_true rfl) ?_
                exact W.zret (v := 1) (ty := .boolean) hx hb hr (rfl) (fun t ht hW => ⟨⟨1, (), rfl, (v_twice_33 st ar lo re k0 k1 hpre c1 c20 c21 c22 c23 c24 c33), by rw [ht]; exact hP, hD⟩, hS.F ht⟩) hS.2.2 dX12_twice_77
              · have c33 : ¬ k1.toInt = (38) := by have h := z_ne c33; rw [show (38 : Int32).toInt = 38 from by decide +kernel] at h; exact h
                refine lv_iload_n hx hb dX12_twice_42 rfl (lv_at hl 0 rfl) ?_
                refine lv_bipush (v := 124) hx hb dX12_twice_43 (by decide +kernel) ?_
                refine lv_icmp_ne (tgt := 54) hx hb dX12_twice_45 (by decide) (fun c34 => ?_) (fun c34 => ?_)
                · have c34 : ¬ k0.toInt = (124) := by have h := z_ne c34; rw [show (124 : Int32).toInt = 124 from by decide +kernel] at h; exact h
                  refine lv_iload_n hx hb dX12_twice_54 rfl (lv_at hl 0 rfl) ?_
                  refine lv_bipush (v := 63) hx hb dX12_twice_55 (by decide +kernel) ?_
                  refine lv_icmp_ne (tgt := 76) hx hb dX12_twice_57 (by decide) (fun c35 => ?_) (fun c35 => ?_)
                  · have c35 : ¬ k0.toInt = (63) := by have h := z_ne c35; rw [show (63 : Int32).toInt = 63 from by decide +kernel] at h; exact h
                    refine lv_iconst (v := 0) hx hb dX12_twice_76 (by decide +kernel) ?_
                    refine W.widen (k := 0) (n := 0) (Nat.le_of_ble_eq_true rfl) (Nat.le_of_ble_eq_true rfl) ?_
                    exact W.zret (v := 0) (ty := .boolean) hx hb hr (rfl) (fun t ht hW => ⟨⟨0, (), rfl, (v_twice_34 st ar lo re k0 k1 hpre c1 c20 c21 c22 c23 c24 c33 c34 c35), by rw [ht]; exact hP, hD⟩, hS.F ht⟩) hS.2.2 dX12_twice_77
                  · have c35 : k0.toInt = (63) := by have h := z_eq c35; rw [show (63 : Int32).toInt = 63 from by decide +kernel] at h; exact h
                    refine lv_iload_n hx hb dX12_twice_60 rfl (lv_at hl 1 rfl) ?_
                    refine lv_bipush (v := 58) hx hb dX12_twice_61 (by decide +kernel) ?_
                    refine lv_icmp_eq (tgt := 72) hx hb dX12_twice_63 (by decide) (fun c36 => ?_) (fun c36 => ?_)
                    · have c36 : k1.toInt = (58) := by have h := z_eq c36; rw [show (58 : Int32).toInt = 58 from by decide +kernel] at h; exact h
                      refine lv_iconst (v := 1) hx hb dX12_twice_72 (by decide +kernel) ?_
                      refine lv_goto (tgt := 77) hx hb dX12_twice_73 (by decide) ?_
                      refine W.widen (k := 0) (n := 0) (Nat.le_of_ble_eq_true rfl) (Nat.le_of_ble_eq_true rfl) ?_
                      exact W.zret (v := 1) (ty := .boolean) hx hb hr (rfl) (fun t ht hW => ⟨⟨1, (), rfl, (v_twice_35 st ar lo re k0 k1 hpre c1 c20 c21 c22 c23 c24 c33 c34 c35 c36), by rw [ht]; exact hP, hD⟩, hS.F ht⟩) hS.2.2 dX12_twice_77
                    · have c36 : ¬ k1.toInt = (58) := by have h := z_ne c36; rw [show (58 : Int32).toInt = 58 from by decide +kernel] at h; exact h
                      refine lv_iload_n hx hb dX12_twice_66 rfl (lv_at hl 1 rfl) ?_
                      refine lv_bipush (v := 46) hx hb dX12_twice_67 (by decide +kernel) ?_
                      refine lv_icmp_ne (tgt := 76) hx hb dX12_twice_69 (by decide) (fun c37 => ?_) (fun c37 => ?_)
                      · have c37 : ¬ k1.toInt = (46) := by have h := z_ne c37; rw [show (46 : Int32).toInt = 46 from by decide +kernel] at h; exact h
                        refine lv_iconst (v := 0) hx hb dX12_twice_76 (by decide +kernel) ?_
                        refine W.widen (k := 0) (n := 0) (Nat.le_of_ble_eq_true rfl) (Nat.le_of_ble_eq_true rfl) ?_
                        exact W.zret (v := 0) (ty := .boolean) hx hb hr (rfl) (fun t ht hW => ⟨⟨0, (), rfl, (v_twice_36 st ar lo re k0 k1 hpre c1 c20 c21 c22 c23 c24 c33 c34 c35 c36 c37), by rw [ht]; exact hP, hD⟩, hS.F ht⟩) hS.2.2 dX12_twice_77
                      · have c37 : k1.toInt = (46) := by have h := z_eq c37; rw [show (46 : Int32).toInt = 46 from by decide +kernel] at h; exact h
                        refine lv_iconst (v := 1) hx hb dX12_twice_72 (by decide +kernel) ?_
                        refine lv_goto (tgt := 77) hx hb dX12_twice_73 (by decide) ?_
                        refine W.widen (k := 0) (n := 0) (Nat.le_of_ble_eq_true rfl) (Nat.le_of_ble_eq_true rfl) ?_
                        exact W.zret (v := 1) (ty := .boolean) hx hb hr (rfl) (fun t ht hW => ⟨⟨1, (), rfl, (v_twice_37 st ar lo re k0 k1 hpre c1 c20 c21 c22 c23 c24 c33 c34 c35 c36 c37), by rw [ht]; exact hP, hD⟩, hS.F ht⟩) hS.2.2 dX12_twice_77
                · have c34 : k0.toInt = (124) := by have h := z_eq c34; rw [show (124 : Int32).toInt = 124 from by decide +kernel] at h; exact h
                  refine lv_iload_n hx hb dX12_twice_48 rfl (lv_at hl 1 rfl) ?_
                  refine lv_bipush (v := 124) hx hb dX12_twice_49 (by decide +kernel) ?_
                  refine lv_icmp_eq (tgt := 72) hx hb dX12_twice_51 (by decide) (fun c38 => ?_) (fun c38 => ?_)
                  · have c38 : k1.toInt = (124) := by have h := z_eq c38; rw [show (124 : Int32).toInt = 124 from by decide +kernel] at h; exact h
                    refine lv_iconst (v := 1) hx hb dX12_twice_72 (by decide +kernel) ?_
                    refine lv_goto (tgt := 77) hx hb dX12_twice_73 (by decide) ?_
                    refine W.widen (k := 0) (n := 0) (Nat.le_of_ble_eq_true rfl) (Nat.le_of_ble_eq_true rfl) ?_
                    exact W.zret (v := 1) (ty := .boolean) hx hb hr (rfl) (fun t ht hW => ⟨⟨1, (), rfl, (v_twice_38 st ar lo re k0 k1 hpre c1 c20 c21 c22 c23 c24 c33 c34 c38), by rw [ht]; exact hP, hD⟩, hS.F ht⟩) hS.2.2 dX12_twice_77
                  · have c38 : ¬ k1.toInt = (124) := by have h := z_ne c38; rw [show (124 : Int32).toInt = 124 from by decide +kernel] at h; exact h
                    refine lv_iload_n hx hb dX12_twice_54 rfl (lv_at hl 0 rfl) ?_
                    refine lv_bipush (v := 63) hx hb dX12_twice_55 (by decide +kernel) ?_
                    refine lv_icmp_ne (tgt := 76) hx hb dX12_twice_57 (by decide) (fun c39 => ?_) (fun c39 => ?_)
                    · have c39 : ¬ k0.toInt = (63) := by have h := z_ne c39; rw [show (63 : Int32).toInt = 63 from by decide +kernel] at h; exact h
                      refine lv_iconst (v := 0) hx hb dX12_twice_76 (by decide +kernel) ?_
                      refine W.widen (k := 0) (n := 0) (Nat.le_of_ble_eq_true rfl) (Nat.le_of_ble_eq_true rfl) ?_
                      exact W.zret (v := 0) (ty := .boolean) hx hb hr (rfl) (fun t ht hW => ⟨⟨0, (), rfl, (v_twice_39 st ar lo re k0 k1 hpre c1 c20 c21 c22 c23 c24 c33 c34 c38 c39), by rw [ht]; exact hP, hD⟩, hS.F ht⟩) hS.2.2 dX12_twice_77
                    · have c39 : k0.toInt = (63) := by have h := z_eq c39; rw [show (63 : Int32).toInt = 63 from by decide +kernel] at h; exact h
                      refine lv_iload_n hx hb dX12_twice_60 rfl (lv_at hl 1 rfl) ?_
                      refine lv_bipush (v := 58) hx hb dX12_twice_61 (by decide +kernel) ?_
                      refine lv_icmp_eq (tgt := 72) hx hb dX12_twice_63 (by decide) (fun c40 => ?_) (fun c40 => ?_)
                      · have c40 : k1.toInt = (58) := by have h := z_eq c40; rw [show (58 : Int32).toInt = 58 from by decide +kernel] at h; exact h
                        refine lv_iconst (v := 1) hx hb dX12_twice_72 (by decide +kernel) ?_
                        refine lv_goto (tgt := 77) hx hb dX12_twice_73 (by decide) ?_
                        refine W.widen (k := 0) (n := 0) (Nat.le_of_ble_eq_true rfl) (Nat.le_of_ble_eq_true rfl) ?_
                        exact W.zret (v := 1) (ty := .boolean) hx hb hr (rfl) (fun t ht hW => ⟨⟨1, (), rfl, (v_twice_40 st ar lo re k0 k1 hpre c1 c20 c21 c22 c23 c24 c33 c34 c38 c39 c40), by rw [ht]; exact hP, hD⟩, hS.F ht⟩) hS.2.2 dX12_twice_77
                      · have c40 : ¬ k1.toInt = (58) := by have h := z_ne c40; rw [show (58 : Int32).toInt = 58 from by decide +kernel] at h; exact h
                        refine lv_iload_n hx hb dX12_twice_66 rfl (lv_at hl 1 rfl) ?_
                        refine lv_bipush (v := 46) hx hb dX12_twice_67 (by decide +kernel) ?_
                        refine lv_icmp_ne (tgt := 76) hx hb dX12_twice_69 (by decide) (fun c41 => ?_) (fun c41 => ?_)
                        · have c41 : ¬ k1.toInt = (46) := by have h := z_ne c41; rw [show (46 : Int32).toInt = 46 from by decide +kernel] at h; exact h
                          refine lv_iconst (v := 0) hx hb dX12_twice_76 (by decide +kernel) ?_
                          refine W.widen (k := 0) (n := 0) (Nat.le_of_ble_eq_true rfl) (Nat.le_of_ble_eq_true rfl) ?_
                          exact W.zret (v := 0) (ty := .boolean) hx hb hr (rfl) (fun t ht hW => ⟨⟨0, (), rfl, (v_twice_41 st ar lo re k0 k1 hpre c1 c20 c21 c22 c23 c24 c33 c34 c38 c39 c40 c41), by rw [ht]; exact hP, hD⟩, hS.F ht⟩) hS.2.2 dX12_twice_77
                        · have c41 : k1.toInt = (46) := by have h := z_eq c41; rw [show (46 : Int32).toInt = 46 from by decide +kernel] at h; exact h
                          refine lv_iconst (v := 1) hx hb dX12_twice_72 (by decide +kernel) ?_
                          refine lv_goto (tgt := 77) hx hb dX12_twice_73 (by decide) ?_
                          refine W.widen (k := 0) (n := 0) (Nat.le_of_ble_eq_true rfl) (Nat.le_of_ble_eq_true rfl) ?_
                          exact W.zret (v := 1) (ty := .boolean) hx hb hr (rfl) (fun t ht hW => ⟨⟨1, (), rfl, (v_twice_42 st ar lo re k0 k1 hpre c1 c20 c21 c22 c23 c24 c33 c34 c38 c39 c40 c41), by rw [ht]; exact hP, hD⟩, hS.F ht⟩) hS.2.2 dX12_twice_77

def wqM_sign0 : List Cond := [.code yX12_sign cX12_sign 3 (some .int), .methodLink RX12 134 yX12_at, .instanceMethod yX12_at, .selects RX12 yX12_at yX12_at, .initialized RX12, .code yX12_at cX12_at 2 (some .int), .fieldLink RX12 131 "PhraseDeskModel" "size" "I", .fieldLink RX12 7 "PhraseDeskModel" "letters" "[I", .methodLink RX12 170 yX12_twice, .static yX12_twice, .code yX12_twice cX12_twice 2 (some .boolean), .methodLink RX12 176 yX12_single, .static yX12_single, .code yX12_single cX12_single 1 (some .boolean), .methodLink RX12 155 yX12_wrong, .instanceMethod yX12_wrong, .selects RX12 yX12_wrong yX12_wrong, .code yX12_wrong cX12_wrong 3 none, .fieldLink RX12 138 "PhraseDeskModel" "error" "I", .fieldLink RX12 141 "PhraseDeskModel" "where" "I", .methodLink RX12 159 yX12_add, .instanceMethod yX12_add, .selects RX12 yX12_add yX12_add, .code yX12_add cX12_add 5 none, .fieldLink RX12 13 "PhraseDeskModel" "tokenKind" "[I", .fieldLink RX12 144 "PhraseDeskModel" "tokens" "I", .fieldLink RX12 16 "PhraseDeskModel" "tokenAt" "[I", .fieldLink RX12 19 "PhraseDeskModel" "token" "[J", .fieldLink RX12 23 "PhraseDeskModel" "scale" "[I", .constantLong RX12 174 (256)]
def wqM_sign : List Cond := wqM_sign0 ++ wsX120
set_option maxHeartbeats 4000000 in
set_option maxRecDepth 100000 in
theorem M_sign (l : Launch) (D : va_G) (cy : Nat → ClassId) (sz0 : Nat) (sa : Nat → Nat) (ad : Nat → Nat) (st : Nat → Int32) (ar : Nat → Nat → Int32) (lo : Nat → Nat → Int64) (re : Nat → UInt64) (sz : Nat) (k0 : Int32) (hpre : 0 ≤ (st 1).toInt ∧ (st 1).toInt ≤ 40 ∧ 0 ≤ (st 3).toInt ∧ (st 3).toInt ≤ k0.toInt ∧ k0.toInt < (st 1).toInt ∧ TKok (ar 4) (lo 6) (ar 7) (st 3).toInt) : Met l yX12_sign wqM_sign ({ frames := 1, cells := 0, slots := 0, locals := 24 }) (PcW D cy sz0 sa [.ref (ad 0), .int k0] (MW cy ad st ar lo re) sz) (va_Qi (fun (r : Int32) (u : Int32 × Int32 × Int32 × (Nat → Int32) × (Nat → Int32) × (Nat → Int32) × (Nat → Int64)) => k0.toInt < r.toInt ∧ r.toInt ≤ (st 1).toInt ∧ 0 ≤ u.1.toInt ∧ u.1.toInt ≤ r.toInt ∧ TKok u.2.2.2.1 u.2.2.2.2.2.2 u.2.2.2.2.2.1 u.1.toInt) (fun (u : Int32 × Int32 × Int32 × (Nat → Int32) × (Nat → Int32) × (Nat → Int32) × (Nat → Int64)) (t : State) => BW D (MW cy ad (upd (upd (upd st 3 u.1) 8 u.2.1) 9 u.2.2.1) (updA (updA (updA ar 4 u.2.2.2.1) 5 u.2.2.2.2.1) 7 u.2.2.2.2.2.1) (updJ lo 6 u.2.2.2.2.2.2) re) (va_A (MW cy ad st ar lo re) sz) t) (va_A (MW cy ad st ar lo re) sz)) 0 0 (va_A (MW cy ad st ar lo re) sz) := by
  refine Met.ofW (cc := cX12_sign) (maxL := 3) (ret := (some .int)) (by decide) rfl ?_
  intro p e s m args below meth c s₁ B hml hv
  obtain ⟨rfl, hsz, hP, hD0, hE⟩ := hv
  have hx := B.exec
  have hb := B.bytes
  have hr := B.returns
  have hts := atoms_spec (ws := wqM_sign) B.pre
  have hown : s.vm.findClass RX12 = some m.cls := findClass_of_methodNamed B.named
  have hlocks := B.notSynchronized
  subst hsz
  have hK := hE.1
  have hD := hD0.self (sz := s.heap.size)
  have hAF := frA hD0 hE.2.1
  generalize hAe : va_A (MW cy ad st ar lo re) s.heap.size = A at hD hAF ⊢
  have hA : ∀ q : Nat, s.heap.size ≤ q → A q := fun q h => by rw [← hAe]; exact Or.inr h
  have hS : va_S A s.heap s.heap [] := va_S.rf
  have hl := lv_entry ([.ref (ad 0), .int k0]) (n := 3) (Nat.le_of_ble_eq_true rfl)
  rw [lg_entry_eq]
  generalize (lg_sl ([.ref (ad 0), .int k0]) ++ List.replicate (3 - (lg_sl ([.ref (ad 0), .int k0])).length) Slot.unset).toArray = ls at hl ⊢
  have hl : lv_has ls 3 [(0, .ref (ad 0)), (1, .int k0)] := hl
  refine lv_aload_n hx hb dX12_sign_0 rfl (lv_at hl 0 rfl) ?_
  refine lv_iload_n hx hb dX12_sign_1 rfl (lv_at hl 1 rfl) ?_
  have hFc := freeAll hD hS hA
  refine va_calli (va_runV (As := [.int k0]) (rest := []) ⟨hx, hb, hml, hown, hts⟩ (M_at l D cy sz0 sa ad st ar lo re s.heap.size k0 (v_sign_1 st ar lo re k0 hpre)) (cwV 1 hts (goodIn_app (goodIn_r _ [1, 2, 3, 4] rfl (by decide +kernel)) (goodIn_app (goodIn_r wqM_at0 [5, 6, 7] rfl (by decide +kernel)) (goodIn_sub (fun _ h => (List.mem_append_right _ h)) (by decide +kernel)))) rfl rfl rfl (by decide +kernel) ⟨Nat.le_of_ble_eq_true rfl, Nat.le_of_ble_eq_true rfl⟩) ⟨PcW.blind, va_recv hK hP (ci := 14) (q0 := 0) rfl rfl, PcW.mk hE hS hAF hP hD⟩ rfl rfl hl.1 rfl (lv_room (Nat.le_of_ble_eq_true rfl)) dX12_sign_2 ⟨Nat.le_of_ble_eq_true rfl, Nat.le_of_ble_eq_true rfl⟩) hS (fun q _ h => hFc q h) hFc (fun r1 u t H1 locs ht hvm hw hB hz1 hk1 hS => ?_)
  have hr1 : (k0.toInt < (st 1).toInt ∧ r1.toInt = ((ar 2) k0.toNatClampNeg).toInt) ∨ ((st 1).toInt ≤ k0.toInt ∧ r1.toInt = 0) := hw
  obtain ⟨hP1, hD1⟩ := hB
  rw [ht] at hP1
  have hD1 := hD1.weaken (fun _ q _ h => hFc q.1 h)
  clear hP hD hFc hk1 hz1
  have hP := hP1
  have hD := hD1
  clear hP1 hD1
  generalize H1 = H at hP hS ⊢
  have hP : va_P D vwCl (MW cy ad st ar lo re) H := hP
  have hD : va_D A (MW cy ad st ar lo re) := hD
  refine W.widen (k := 0) (n := 0) (Nat.le_of_ble_eq_true rfl) (Nat.le_of_ble_eq_true rfl) ?_
  refine lv_istore_n (lv' := [(2, .int r1), (0, .ref (ad 0)), (1, .int k0)]) hx hb dX12_sign_5 rfl hl (by decide) rfl (fun ls hl => ?_)
  refine lv_iload_n hx hb dX12_sign_6 rfl (lv_at hl 0 rfl) ?_
  refine lv_aload_n hx hb dX12_sign_7 rfl (lv_at hl 1 rfl) ?_
  refine lv_iload_n hx hb dX12_sign_8 rfl (lv_at hl 2 rfl) ?_
  refine lv_iconst (v := 1) hx hb dX12_sign_9 (by decide +kernel) ?_
  refine lv_iadd hx hb dX12_sign_10 ?_
  refine lv_topi (fun x2 ex2 => ?_)
  have tx2 := (v_sign_2 st ar lo re k0 r1 x2 hpre hr1 ex2)
  have hFc := freeAll hD hS hA
  refine va_calli (va_runV (As := [.int x2]) (rest := [.int r1]) ⟨hx, hb, hml, hown, hts⟩ (M_at l D cy sz0 sa ad st ar lo re H.size x2 (v_sign_3 st ar lo re k0 r1 x2 hpre hr1 ex2 tx2)) (cwV 1 hts (goodIn_app (goodIn_r _ [1, 2, 3, 4] rfl (by decide +kernel)) (goodIn_app (goodIn_r wqM_at0 [5, 6, 7] rfl (by decide +kernel)) (goodIn_sub (fun _ h => (List.mem_append_right _ h)) (by decide +kernel)))) rfl rfl rfl (by decide +kernel) ⟨Nat.le_of_ble_eq_true rfl, Nat.le_of_ble_eq_true rfl⟩) ⟨PcW.blind, va_recv hK hP (ci := 14) (q0 := 0) rfl rfl, PcW.mk hE hS hAF hP hD⟩ rfl rfl hl.1 rfl (lv_room (Nat.le_of_ble_eq_true rfl)) dX12_sign_11 ⟨Nat.le_of_ble_eq_true rfl, Nat.le_of_ble_eq_true rfl⟩) hS (fun q _ h => hFc q h) hFc (fun r3 u t H1 locs ht hvm hw hB hz1 hk1 hS => ?_)
  have hr3 : (x2.toInt < (st 1).toInt ∧ r3.toInt = ((ar 2) x2.toNatClampNeg).toInt) ∨ ((st 1).toInt ≤ x2.toInt ∧ r3.toInt = 0) := hw
  obtain ⟨hP1, hD1⟩ := hB
  rw [ht] at hP1
  have hD1 := hD1.weaken (fun _ q _ h => hFc q.1 h)
  clear hP hD hFc hk1 hz1
  have hP := hP1
  have hD := hD1
  clear hP1 hD1
  generalize H1 = H at hP hS ⊢
  have hP : va_P D vwCl (MW cy ad st ar lo re) H := hP
  have hD : va_D A (MW cy ad st ar lo re) := hD
  refine W.widen (k := 0) (n := 0) (Nat.le_of_ble_eq_true rfl) (Nat.le_of_ble_eq_true rfl) ?_
  have hFc := freeAll hD hS hA
  refine va_calli (va_runS (As := [.int r1, .int r3]) (rest := []) ⟨hx, hb, hml, hown, hts⟩ (M_twice l D cy sz0 sa ad st ar lo re H.size r1 r3 (v_sign_4 st ar lo re k0 r1 x2 r3 hpre hr1 ex2 tx2 hr3)) (va_cwS 2 hts (goodIn_app (goodIn_r _ [8, 9, 4] rfl (by decide +kernel)) (goodIn_r wqM_twice [10] rfl (by decide +kernel))) rfl rfl rfl (by decide +kernel) ⟨Nat.le_of_ble_eq_true rfl, Nat.le_of_ble_eq_true rfl⟩) ⟨PcW.blind, PcW.mk hE hS hAF hP hD⟩ rfl rfl hl.1 rfl (lv_room (Nat.le_of_ble_eq_true rfl)) dX12_sign_14 ⟨Nat.le_of_ble_eq_true rfl, Nat.le_of_ble_eq_true rfl⟩) hS (fun q _ h => hFc q h) hFc (fun r4 u t H1 locs ht hvm hw hB hz1 hk1 hS => ?_)
  have hr4 : r4.toInt = 0 ∨ (r4.toInt = 1 ∧ ¬ r3.toInt = 0) := hw
  obtain ⟨hP1, hD1⟩ := hB
  rw [ht] at hP1
  have hD1 := hD1.weaken (fun _ q _ h => hFc q.1 h)
  clear hP hD hFc hk1 hz1
  have hP := hP1
  have hD := hD1
  clear hP1 hD1
  generalize H1 = H at hP hS ⊢
  have hP : va_P D vwCl (MW cy ad st ar lo re) H := hP
  have hD : va_D A (MW cy ad st ar lo re) := hD
  refine W.widen (k := 0) (n := 0) (Nat.le_of_ble_eq_true rfl) (Nat.le_of_ble_eq_true rfl) ?_
  refine lv_if_eq (tgt := 45) hx hb dX12_sign_17 (by decide) (fun c5 => ?_) (fun c5 => ?_)
  · have c5 : r4.toInt = (0) := by have h := z_eq c5; rw [show (0 : Int32).toInt = 0 from by decide +kernel] at h; exact h
    refine lv_iload_n hx hb dX12_sign_45 rfl (lv_at hl 0 rfl) ?_
    have hFc := freeAll hD hS hA
    refine va_calli (va_runS (As := [.int r1]) (rest := []) ⟨hx, hb, hml, hown, hts⟩ (M_single l D cy sz0 sa ad st ar lo re H.size r1 (v_sign_5 st ar lo re k0 r1 x2 r3 r4 hpre hr1 ex2 tx2 hr3 hr4 c5)) (va_cwS 1 hts (goodIn_app (goodIn_r _ [11, 12, 4] rfl (by decide +kernel)) (goodIn_r wqM_single [13] rfl (by decide +kernel))) rfl rfl rfl (by decide +kernel) ⟨Nat.le_of_ble_eq_true rfl, Nat.le_of_ble_eq_true rfl⟩) ⟨PcW.blind, PcW.mk hE hS hAF hP hD⟩ rfl rfl hl.1 rfl (lv_room (Nat.le_of_ble_eq_true rfl)) dX12_sign_46 ⟨Nat.le_of_ble_eq_true rfl, Nat.le_of_ble_eq_true rfl⟩) hS (fun q _ h => hFc q h) hFc (fun r6 u t H1 locs ht hvm hw hB hz1 hk1 hS => ?_)
    have hr6 : r6.toInt = 0 ∨ r6.toInt = 1 := hw
    obtain ⟨hP1, hD1⟩ := hB
    rw [ht] at hP1
    have hD1 := hD1.weaken (fun _ q _ h => hFc q.1 h)
    clear hP hD hFc hk1 hz1
    have hP := hP1
    have hD := hD1
    clear hP1 hD1
    generalize H1 = H at hP hS ⊢
    have hP : va_P D vwCl (MW cy ad st ar lo re) H := hP
    have hD : va_D A (MW cy ad st ar lo re) := hD
    refine W.widen (k := 0) (n := 0) (Nat.le_of_ble_eq_true rfl) (Nat.le_of_ble_eq_true rfl) ?_
    refine lv_if_eq (tgt := 63) hx hb dX12_sign_49 (by decide) (fun c7 => ?_) (fun c7 => ?_)
    · have c7 : r6.toInt = (0) := by have h := z_eq c7; rw [show (0 : Int32).toInt = 0 from by decide +kernel] at h; exact h
      refine lv_aload_n hx hb dX12_sign_63 rfl (lv_at hl 1 rfl) ?_
      refine lv_iconst (v := 1) hx hb dX12_sign_64 (by decide +kernel) ?_
      refine lv_iload_n hx hb dX12_sign_65 rfl (lv_at hl 2 rfl) ?_
      have hFc := freeAll hD hS hA
      refine va_callv (va_runV (As := [.int 1, .int k0]) (rest := []) ⟨hx, hb, hml, hown, hts⟩ (M_wrong l D cy sz0 sa ad st ar lo re H.size 1 k0 (v_sign_6 st ar lo re k0 r1 x2 r3 r4 r6 hpre hr1 ex2 tx2 hr3 hr4 c5 hr6 c7)) (cwV 2 hts (goodIn_app (goodIn_r _ [14, 15, 16, 4] rfl (by decide +kernel)) (goodIn_app (goodIn_r wqM_wrong0 [17, 18, 19] rfl (by decide +kernel)) (goodIn_sub (fun _ h => (List.mem_append_right _ h)) (by decide +kernel)))) rfl rfl rfl (by decide +kernel) ⟨Nat.le_of_ble_eq_true rfl, Nat.le_of_ble_eq_true rfl⟩) ⟨PcW.blind, va_recv hK hP (ci := 14) (q0 := 0) rfl rfl, PcW.mk hE hS hAF hP hD⟩ rfl rfl hl.1 rfl (lv_room (Nat.le_of_ble_eq_true rfl)) dX12_sign_66 ⟨Nat.le_of_ble_eq_true rfl, Nat.le_of_ble_eq_true rfl⟩) hS (fun q _ h => hFc q h) hFc (fun u t H1 locs ht hvm hw hB hz1 hk1 hS => ?_)
      obtain ⟨n9, n10⟩ := u
      have hr8 : ((st 8).toInt = 0 → n9 = (1 : Int32)) ∧ (¬ (st 8).toInt = 0 → n9 = (st 8)) := hw
      obtain ⟨hP1, hD1⟩ := hB
      rw [ht] at hP1
      have hD1 := hD1.weaken (fun _ q _ h => hFc q.1 h)
      clear hP hD hFc hk1 hz1
      have hP := hP1
      have hD := hD1
      clear hP1 hD1
      generalize H1 = H at hP hS ⊢
      have hP : va_P D vwCl (MW cy ad (upd (upd st 8 n9) 9 n10) ar lo re) H := hP
      have hD : va_D A (MW cy ad (upd (upd st 8 n9) 9 n10) ar lo re) := hD
      refine W.widen (k := 0) (n := 0) (Nat.le_of_ble_eq_true rfl) (Nat.le_of_ble_eq_true rfl) ?_
      refine lv_iload_n hx hb dX12_sign_69 rfl (lv_at hl 2 rfl) ?_
      refine lv_iconst (v := 1) hx hb dX12_sign_70 (by decide +kernel) ?_
      refine lv_iadd hx hb dX12_sign_71 ?_
      refine lv_topi (fun x11 ex11 => ?_)
      have tx11 := (v_sign_7 st ar lo re k0 r1 x2 r3 r4 r6 n9 n10 x11 hpre hr1 ex2 tx2 hr3 hr4 c5 hr6 c7 hr8 ex11)
      refine W.widen (k := 0) (n := 0) (Nat.le_of_ble_eq_true rfl) (Nat.le_of_ble_eq_true rfl) ?_
      exact W.iret (v := x11) hx hb hr (fun t ht hW => ⟨⟨x11, ⟨(st 3), n9, n10, (ar 4), (ar 5), (ar 7), (lo 6)⟩, rfl, (v_sign_8 st ar lo re k0 r1 x2 r3 r4 r6 n9 n10 x11 hpre hr1 ex2 tx2 hr3 hr4 c5 hr6 c7 hr8 ex11 tx11), by rw [ht]; exact hP, hD⟩, hS.F ht⟩) hS.2.2 dX12_sign_72
    · have c7 : ¬ r6.toInt = (0) := by have h := z_ne c7; rw [show (0 : Int32).toInt = 0 from by decide +kernel] at h; exact h
      refine lv_aload_n hx hb dX12_sign_52 rfl (lv_at hl 1 rfl) ?_
      refine lv_iconst (v := 5) hx hb dX12_sign_53 (by decide +kernel) ?_
      refine lv_iload_n hx hb dX12_sign_54 rfl (lv_at hl 2 rfl) ?_
      refine lv_iload_n hx hb dX12_sign_55 rfl (lv_at hl 0 rfl) ?_
      refine lv_i2l hx hb dX12_sign_56 rfl ?_
      refine lv_topl (fun x12 ex12 => ?_)
      have tx12 : x12.toInt = r1.toInt := by rw [ex12]; exact Int32.toInt_toInt64 _
      have hFc := freeAll hD hS hA
      refine va_callv (va_runV (As := [.int 5, .int k0, .long x12]) (rest := []) ⟨hx, hb, hml, hown, hts⟩ (M_add l D cy sz0 sa ad st ar lo re H.size 5 k0 x12 (v_sign_9 st ar lo re k0 r1 x2 r3 r4 r6 x12 hpre hr1 ex2 tx2 hr3 hr4 c5 hr6 c7 ex12 tx12)) (cwV 3 hts (goodIn_app (goodIn_r _ [20, 21, 22, 4] rfl (by decide +kernel)) (goodIn_app (goodIn_r wqM_add0 [23, 24, 25, 26, 27, 28] rfl (by decide +kernel)) (goodIn_sub (fun _ h => (List.mem_append_right _ h)) (by decide +kernel)))) rfl rfl rfl (by decide +kernel) ⟨Nat.le_of_ble_eq_true rfl, Nat.le_of_ble_eq_true rfl⟩) ⟨PcW.blind, va_recv hK hP (ci := 14) (q0 := 0) rfl rfl, PcW.mk hE hS hAF hP hD⟩ rfl rfl hl.1 rfl (lv_room (Nat.le_of_ble_eq_true rfl)) dX12_sign_57 ⟨Nat.le_of_ble_eq_true rfl, Nat.le_of_ble_eq_true rfl⟩) hS (fun q _ h => hFc q h) hFc (fun u t H1 locs ht hvm hw hB hz1 hk1 hS => ?_)
      obtain ⟨n14, rfl⟩ : ∃ z, z = u := ⟨_, rfl⟩
      have hr13 : n14.toInt = (st 3).toInt + 1 := hw
      obtain ⟨hP1, hD1⟩ := hB
      rw [ht] at hP1
      have hD1 := hD1.weaken (fun _ q _ h => hFc q.1 h)
      clear hP hD hFc hk1 hz1
      have hP := hP1
      have hD := hD1
      clear hP1 hD1
      generalize H1 = H at hP hS ⊢
      have hP : va_P D vwCl (MW cy ad (upd st 3 n14) (updA (updA (updA ar 4 (upd (ar 4) (st 3).toNatClampNeg (5 : Int32))) 5 (upd (ar 5) (st 3).toNatClampNeg k0)) 7 (upd (ar 7) (st 3).toNatClampNeg 0)) (updJ lo 6 (vp_updL (lo 6) (st 3).toNatClampNeg x12)) re) H := hP
      have hD : va_D A (MW cy ad (upd st 3 n14) (updA (updA (updA ar 4 (upd (ar 4) (st 3).toNatClampNeg (5 : Int32))) 5 (upd (ar 5) (st 3).toNatClampNeg k0)) 7 (upd (ar 7) (st 3).toNatClampNeg 0)) (updJ lo 6 (vp_updL (lo 6) (st 3).toNatClampNeg x12)) re) := hD
      refine W.widen (k := 0) (n := 0) (Nat.le_of_ble_eq_true rfl) (Nat.le_of_ble_eq_true rfl) ?_
      refine lv_goto (tgt := 69) hx hb dX12_sign_60 (by decide) ?_
      refine lv_iload_n hx hb dX12_sign_69 rfl (lv_at hl 2 rfl) ?_
      refine lv_iconst (v := 1) hx hb dX12_sign_70 (by decide +kernel) ?_
      refine lv_iadd hx hb dX12_sign_71 ?_
      refine lv_topi (fun x15 ex15 => ?_)
      have tx15 := (v_sign_10 st ar lo re k0 r1 x2 r3 r4 r6 x12 n14 x15 hpre hr1 ex2 tx2 hr3 hr4 c5 hr6 c7 ex12 tx12 hr13 ex15)
      refine W.widen (k := 0) (n := 0) (Nat.le_of_ble_eq_true rfl) (Nat.le_of_ble_eq_true rfl) ?_
      exact W.iret (v := x15) hx hb hr (fun t ht hW => ⟨⟨x15, ⟨n14, (st 8), (st 9), (upd (ar 4) (st 3).toNatClampNeg (5 : Int32)), (upd (ar 5) (st 3).toNatClampNeg k0), (upd (ar 7) (st 3).toNatClampNeg 0), (vp_updL (lo 6) (st 3).toNatClampNeg x12)⟩, rfl, (v_sign_11 st ar lo re k0 r1 x2 r3 r4 r6 x12 n14 x15 hpre hr1 ex2 tx2 hr3 hr4 c5 hr6 c7 ex12 tx12 hr13 ex15 tx15), by rw [ht]; exact hP, hD⟩, hS.F ht⟩) hS.2.2 dX12_sign_72
  · have c5 : ¬ r4.toInt = (0) := by have h := z_ne c5; rw [show (0 : Int32).toInt = 0 from by decide +kernel] at h; exact h
    refine lv_aload_n hx hb dX12_sign_20 rfl (lv_at hl 1 rfl) ?_
    refine lv_iconst (v := 5) hx hb dX12_sign_21 (by decide +kernel) ?_
    refine lv_iload_n hx hb dX12_sign_22 rfl (lv_at hl 2 rfl) ?_
    refine lv_ldc2 (v := 256) hx hb hown (hts (.constantLong RX12 174 (256)) (List.mem_of_getElem? (i := 29) rfl)) dX12_sign_23 ?_
    refine lv_iload_n hx hb dX12_sign_26 rfl (lv_at hl 0 rfl) ?_
    refine lv_i2l hx hb dX12_sign_27 rfl ?_
    refine lv_topl (fun x16 ex16 => ?_)
    have tx16 : x16.toInt = r1.toInt := by rw [ex16]; exact Int32.toInt_toInt64 _
    refine lv_lmul hx hb dX12_sign_28 ?_
    refine lv_topl (fun x17 ex17 => ?_)
    refine lv_aload_n hx hb dX12_sign_29 rfl (lv_at hl 1 rfl) ?_
    refine lv_iload_n hx hb dX12_sign_30 rfl (lv_at hl 2 rfl) ?_
    refine lv_iconst (v := 1) hx hb dX12_sign_31 (by decide +kernel) ?_
    refine lv_iadd hx hb dX12_sign_32 ?_
    refine lv_topi (fun x18 ex18 => ?_)
    have tx18 := (v_sign_12 st ar lo re k0 r1 x2 r3 r4 x16 x17 x18 hpre hr1 ex2 tx2 hr3 hr4 c5 ex16 tx16 ex17 ex18)
    have hFc := freeAll hD hS hA
    refine va_calli (va_runV (As := [.int x18]) (rest := [.long x17, .int k0, .int 5, .ref (ad 0)]) ⟨hx, hb, hml, hown, hts⟩ (M_at l D cy sz0 sa ad st ar lo re H.size x18 (v_sign_13 st ar lo re k0 r1 x2 r3 r4 x16 x17 x18 hpre hr1 ex2 tx2 hr3 hr4 c5 ex16 tx16 ex17 ex18 tx18)) (cwV 1 hts (goodIn_app (goodIn_r _ [1, 2, 3, 4] rfl (by decide +kernel)) (goodIn_app (goodIn_r wqM_at0 [5, 6, 7] rfl (by decide +kernel)) (goodIn_sub (fun _ h => (List.mem_append_right _ h)) (by decide +kernel)))) rfl rfl rfl (by decide +kernel) ⟨Nat.le_of_ble_eq_true rfl, Nat.le_of_ble_eq_true rfl⟩) ⟨PcW.blind, va_recv hK hP (ci := 14) (q0 := 0) rfl rfl, PcW.mk hE hS hAF hP hD⟩ rfl rfl hl.1 rfl (lv_room (Nat.le_of_ble_eq_true rfl)) dX12_sign_33 ⟨Nat.le_of_ble_eq_true rfl, Nat.le_of_ble_eq_true rfl⟩) hS (fun q _ h => hFc q h) hFc (fun r19 u t H1 locs ht hvm hw hB hz1 hk1 hS => ?_)
    have hr19 : (x18.toInt < (st 1).toInt ∧ r19.toInt = ((ar 2) x18.toNatClampNeg).toInt) ∨ ((st 1).toInt ≤ x18.toInt ∧ r19.toInt = 0) := hw
    obtain ⟨hP1, hD1⟩ := hB
    rw [ht] at hP1
    have hD1 := hD1.weaken (fun _ q _ h => hFc q.1 h)
    clear hP hD hFc hk1 hz1
    have hP := hP1
    have hD := hD1
    clear hP1 hD1
    generalize H1 = H at hP hS ⊢
    have hP : va_P D vwCl (MW cy ad st ar lo re) H := hP
    have hD : va_D A (MW cy ad st ar lo re) := hD
    refine W.widen (k := 0) (n := 0) (Nat.le_of_ble_eq_true rfl) (Nat.le_of_ble_eq_true rfl) ?_
    refine lv_i2l hx hb dX12_sign_36 rfl ?_
    refine lv_topl (fun x20 ex20 => ?_)
    have tx20 : x20.toInt = r19.toInt := by rw [ex20]; exact Int32.toInt_toInt64 _
    refine lv_ladd hx hb dX12_sign_37 ?_
    refine lv_topl (fun x21 ex21 => ?_)
    have hFc := freeAll hD hS hA
    refine va_callv (va_runV (As := [.int 5, .int k0, .long x21]) (rest := []) ⟨hx, hb, hml, hown, hts⟩ (M_add l D cy sz0 sa ad st ar lo re H.size 5 k0 x21 (v_sign_14 st ar lo re k0 r1 x2 r3 r4 x16 x17 x18 r19 x20 x21 hpre hr1 ex2 tx2 hr3 hr4 c5 ex16 tx16 ex17 ex18 tx18 hr19 ex20 tx20 ex21)) (cwV 3 hts (goodIn_app (goodIn_r _ [20, 21, 22, 4] rfl (by decide +kernel)) (goodIn_app (goodIn_r wqM_add0 [23, 24, 25, 26, 27, 28] rfl (by decide +kernel)) (goodIn_sub (fun _ h => (List.mem_append_right _ h)) (by decide +kernel)))) rfl rfl rfl (by decide +kernel) ⟨Nat.le_of_ble_eq_true rfl, Nat.le_of_ble_eq_true rfl⟩) ⟨PcW.blind, va_recv hK hP (ci := 14) (q0 := 0) rfl rfl, PcW.mk hE hS hAF hP hD⟩ rfl rfl hl.1 rfl (lv_room (Nat.le_of_ble_eq_true rfl)) dX12_sign_38 ⟨Nat.le_of_ble_eq_true rfl, Nat.le_of_ble_eq_true rfl⟩) hS (fun q _ h => hFc q h) hFc (fun u t H1 locs ht hvm hw hB hz1 hk1 hS => ?_)
    obtain ⟨n23, rfl⟩ : ∃ z, z = u := ⟨_, rfl⟩
    have hr22 : n23.toInt = (st 3).toInt + 1 := hw
    obtain ⟨hP1, hD1⟩ := hB
    rw [ht] at hP1
    have hD1 := hD1.weaken (fun _ q _ h => hFc q.1 h)
    clear hP hD hFc hk1 hz1
    have hP := hP1
    have hD := hD1
    clear hP1 hD1
    generalize H1 = H at hP hS ⊢
    have hP : va_P D vwCl (MW cy ad (upd st 3 n23) (updA (updA (updA ar 4 (upd (ar 4) (st 3).toNatClampNeg (5 : Int32))) 5 (upd (ar 5) (st 3).toNatClampNeg k0)) 7 (upd (ar 7) (st 3).toNatClampNeg 0)) (updJ lo 6 (vp_updL (lo 6) (st 3).toNatClampNeg x21)) re) H := hP
    have hD : va_D A (MW cy ad (upd st 3 n23) (updA (updA (updA ar 4 (upd (ar 4) (st 3).toNatClampNeg (5 : Int32))) 5 (upd (ar 5) (st 3).toNatClampNeg k0)) 7 (upd (ar 7) (st 3).toNatClampNeg 0)) (updJ lo 6 (vp_updL (lo 6) (st 3).toNatClampNeg x21)) re) := hD
    refine W.widen (k := 0) (n := 0) (Nat.le_of_ble_eq_true rfl) (Nat.le_of_ble_eq_true rfl) ?_
    refine lv_iload_n hx hb dX12_sign_41 rfl (lv_at hl 2 rfl) ?_
    refine lv_iconst (v := 2) hx hb dX12_sign_42 (by decide +kernel) ?_
    refine lv_iadd hx hb dX12_sign_43 ?_
    refine lv_topi (fun x24 ex24 => ?_)
    have tx24 := (v_sign_15 st ar lo re k0 r1 x2 r3 r4 x16 x17 x18 r19 x20 x21 n23 x24 hpre hr1 ex2 tx2 hr3 hr4 c5 ex16 tx16 ex17 ex18 tx18 hr19 ex20 tx20 ex21 hr22 ex24)
    refine W.widen (k := 0) (n := 0) (Nat.le_of_ble_eq_true rfl) (Nat.le_of_ble_eq_true rfl) ?_
    exact W.iret (v := x24) hx hb hr (fun t ht hW => ⟨⟨x24, ⟨n23, (st 8), (st 9), (upd (ar 4) (st 3).toNatClampNeg (5 : Int32)), (upd (ar 5) (st 3).toNatClampNeg k0), (upd (ar 7) (st 3).toNatClampNeg 0), (vp_updL (lo 6) (st 3).toNatClampNeg x21)⟩, rfl, (v_sign_16 st ar lo re k0 r1 x2 r3 r4 x16 x17 x18 r19 x20 x21 n23 x24 hpre hr1 ex2 tx2 hr3 hr4 c5 ex16 tx16 ex17 ex18 tx18 hr19 ex20 tx20 ex21 hr22 ex24 tx24), by rw [ht]; exact hP, hD⟩, hS.F ht⟩) hS.2.2 dX12_sign_44

def wqM_cut0 : List Cond := [.code yX12_cut cX12_cut 2 none, .fieldLink RX12 144 "PhraseDeskModel" "tokens" "I", .fieldLink RX12 131 "PhraseDeskModel" "size" "I", .methodLink RX12 159 yX12_add, .instanceMethod yX12_add, .selects RX12 yX12_add yX12_add, .initialized RX12, .code yX12_add cX12_add 5 none, .fieldLink RX12 13 "PhraseDeskModel" "tokenKind" "[I", .fieldLink RX12 16 "PhraseDeskModel" "tokenAt" "[I", .fieldLink RX12 19 "PhraseDeskModel" "token" "[J", .fieldLink RX12 23 "PhraseDeskModel" "scale" "[I", .fieldLink RX12 138 "PhraseDeskModel" "error" "I", .methodLink RX12 134 yX12_at, .instanceMethod yX12_at, .selects RX12 yX12_at yX12_at, .code yX12_at cX12_at 2 (some .int), .fieldLink RX12 7 "PhraseDeskModel" "letters" "[I", .methodLink RX12 147 yX12_digit, .instanceMethod yX12_digit, .selects RX12 yX12_digit yX12_digit, .code yX12_digit cX12_digit 2 (some .boolean), .methodLink RX12 163 yX12_lower, .instanceMethod yX12_lower, .selects RX12 yX12_lower yX12_lower, .code yX12_lower cX12_lower 2 (some .boolean), .methodLink RX12 188 yX12_sign, .instanceMethod yX12_sign, .selects RX12 yX12_sign yX12_sign, .code yX12_sign cX12_sign 3 (some .int), .methodLink RX12 170 yX12_twice, .static yX12_twice, .code yX12_twice cX12_twice 2 (some .boolean), .methodLink RX12 176 yX12_single, .static yX12_single, .code yX12_single cX12_single 1 (some .boolean), .methodLink RX12 155 yX12_wrong, .instanceMethod yX12_wrong, .selects RX12 yX12_wrong yX12_wrong, .code yX12_wrong cX12_wrong 3 none, .fieldLink RX12 141 "PhraseDeskModel" "where" "I", .constantLong RX12 174 (256), .methodLink RX12 185 yX12_quoted, .instanceMethod yX12_quoted, .selects RX12 yX12_quoted yX12_quoted, .code yX12_quoted cX12_quoted 5 (some .int), .methodLink RX12 182 yX12_name, .instanceMethod yX12_name, .selects RX12 yX12_name yX12_name, .code yX12_name cX12_name 5 (some .int), .constantLong RX12 166 (27), .constantLong RX12 168 (97), .methodLink RX12 179 yX12_number, .instanceMethod yX12_number, .selects RX12 yX12_number yX12_number, .code yX12_number cX12_number 7 (some .int), .constantLong RX12 151 (10), .constantLong RX12 153 (48)]
def wqM_cut : List Cond := wqM_cut0 ++ wsX120
set_option maxHeartbeats 4000000 in
set_option maxRecDepth 100000 in
theorem L_cut_7_1 {p : Program} {e : Env} {s : State} {m : MethodId} {below : List Frame} {meth : Method} {c : Code} (l : Launch) (D : va_G) (cy : Nat → ClassId) (sz0 : Nat) (sa : Nat → Nat) (ad : Nat → Nat) (A : Nat → Prop) (st : Nat → Int32) (ar : Nat → Nat → Int32) (lo : Nat → Nat → Int64) (re : Nat → UInt64) (hx : p.tables.exec = Jvm.exec) (hb : c.code = cX12_cut) (hr : meth.sig.returnType = none) (hml : c.maxLocals = 2) (hown : s.vm.findClass RX12 = some m.cls) (hts : ∀ w ∈ wqM_cut, w.before #[.ref (ad 0)] s = true) (hlocks : meth.locks = false) (hE : En D cy sz0 sa s) (hAF : ∀ q, A q → Fr sz0 q) (hA : ∀ q : Nat, s.heap.size ≤ q → A q) (hpre : 0 ≤ (st 1).toInt ∧ (st 1).toInt ≤ 40) : ∀ (n : Nat) (y1 : Int32) (z2 : Int32) (z3 : Int32) (z4 : Int32) (Z5 : Nat → Int32) (Z6 : Nat → Int32) (Z7 : Nat → Int32) (J8 : Nat → Int64) (H : Heap) (locs : List Loc) (ls : Array Slot), ((st 1).toInt - y1.toInt).toNat < n → (0 ≤ y1.toInt ∧ y1.toInt ≤ (st 1).toInt ∧ 0 ≤ z2.toInt ∧ z2.toInt ≤ y1.toInt ∧ TKok Z5 J8 Z7 z2.toInt) → va_P D vwCl (MW cy ad (upd (upd (upd st 3 z2) 8 z3) 9 z4) (updA (updA (updA ar 4 Z5) 5 Z6) 7 Z7) (updJ lo 6 J8) re) H → va_D A (MW cy ad (upd (upd (upd st 3 z2) 8 z3) 9 z4) (updA (updA (updA ar 4 Z5) 5 Z6) 7 Z7) (updJ lo 6 J8) re) → va_S A s.heap H locs → lv_has ls 2 [(1, .int y1), (0, .ref (ad 0))] → W p l e (headSpec wqM_cut ({ frames := 3, cells := 0, slots := 0, locals := 68 })).room s m #[.ref (ad 0)] below meth c H locs 0 0 (MQ below (va_Qv (fun (u : Int32 × Int32 × Int32 × (Nat → Int32) × (Nat → Int32) × (Nat → Int32) × (Nat → Int64)) => 1 ≤ u.1.toInt ∧ u.1.toInt ≤ (st 1).toInt + 1 ∧ TKok u.2.2.2.1 u.2.2.2.2.2.2 u.2.2.2.2.2.1 (u.1.toInt - 1) ∧ (u.2.2.2.1 (u.1.toInt - 1).toNat).toInt = 0) (fun (u : Int32 × Int32 × Int32 × (Nat → Int32) × (Nat → Int32) × (Nat → Int32) × (Nat → Int64)) (t : State) => BW D (MW cy ad (upd (upd (upd st 3 u.1) 8 u.2.1) 9 u.2.2.1) (updA (updA (updA ar 4 u.2.2.2.1) 5 u.2.2.2.2.1) 7 u.2.2.2.2.2.1) (updJ lo 6 u.2.2.2.2.2.2) re) A t) A) #[.ref (ad 0)] s 0 0 A) (F0 m 7 ls []) := by
  have hK := hE.1
  intro n
  induction n with
  | zero => intro y1 z2 z3 z4 Z5 Z6 Z7 J8 H locs ls hn; exact absurd hn (Nat.not_lt_zero _)
  | succ n ih7 =>
    intro y1 z2 z3 z4 Z5 Z6 Z7 J8 H locs ls hn7 hi7 hP hD hS hl
    refine lv_iload_n hx hb dX12_cut_7 rfl (lv_at hl 0 rfl) ?_
    refine lv_aload_n hx hb dX12_cut_8 rfl (lv_at hl 1 rfl) ?_
    refine va_get (D := D) (ci := 14) (v := .int (st 1)) (C := RX12) (T := TX12) (N := 60) hx hb hts (fun _ h => (List.mem_append_right _ h)) hown hK hP 0 rfl rfl 1 (by decide) (hts (.fieldLink RX12 131 "PhraseDeskModel" "size" "I") (List.mem_of_getElem? (i := 2) rfl)) (fun _ h9 => h9) rfl dX12_cut_9 ?_
    refine lv_icmp_ge (tgt := 97) hx hb dX12_cut_12 (by decide) (fun c9 => ?_) (fun c9 => ?_)
    · have c9 : (st 1).toInt ≤ y1.toInt := by have h := z_le c9; exact h
      refine lv_aload_n hx hb dX12_cut_97 rfl (lv_at hl 1 rfl) ?_
      refine lv_iconst (v := 0) hx hb dX12_cut_98 (by decide +kernel) ?_
      refine lv_aload_n hx hb dX12_cut_99 rfl (lv_at hl 1 rfl) ?_
      refine va_get (D := D) (ci := 14) (v := .int (st 1)) (C := RX12) (T := TX12) (N := 60) hx hb hts (fun _ h => (List.mem_append_right _ h)) hown hK hP 0 rfl rfl 1 (by decide) (hts (.fieldLink RX12 131 "PhraseDeskModel" "size" "I") (List.mem_of_getElem? (i := 2) rfl)) (fun _ h9 => h9) rfl dX12_cut_100 ?_
      refine lv_lconst (v := 0) hx hb dX12_cut_103 rfl ?_
      have hFc := freeAll hD hS hA
      refine va_callv (va_runV (As := [.int 0, .int (st 1), .long 0]) (rest := []) ⟨hx, hb, hml, hown, hts⟩ (M_add l D cy sz0 sa ad (upd (upd (upd st 3 z2) 8 z3) 9 z4) (updA (updA (updA ar 4 Z5) 5 Z6) 7 Z7) (updJ lo 6 J8) re H.size 0 (st 1) 0 (v_cut_2 st ar lo re y1 z2 z3 z4 Z5 Z6 Z7 J8 hpre hi7 c9)) (cwV 3 hts (goodIn_app (goodIn_r _ [3, 4, 5, 6] rfl (by decide +kernel)) (goodIn_app (goodIn_r wqM_add0 [7, 8, 1, 9, 10, 11] rfl (by decide +kernel)) (goodIn_sub (fun _ h => (List.mem_append_right _ h)) (by decide +kernel)))) rfl rfl rfl (by decide +kernel) ⟨Nat.le_of_ble_eq_true rfl, Nat.le_of_ble_eq_true rfl⟩) ⟨PcW.blind, va_recv hK hP (ci := 14) (q0 := 0) rfl rfl, PcW.mk hE hS hAF hP hD⟩ rfl rfl hl.1 rfl (lv_room (Nat.le_of_ble_eq_true rfl)) dX12_cut_104 ⟨Nat.le_of_ble_eq_true rfl, Nat.le_of_ble_eq_true rfl⟩) hS (fun q _ h => hFc q h) hFc (fun u t H1 locs ht hvm hw hB hz1 hk1 hS => ?_)
      obtain ⟨n11, rfl⟩ : ∃ z, z = u := ⟨_, rfl⟩
      have hr10 : n11.toInt = z2.toInt + 1 := hw
      obtain ⟨hP1, hD1⟩ := hB
      rw [ht] at hP1
      have hD1 := hD1.weaken (fun _ q _ h => hFc q.1 h)
      clear hP hD hFc hk1 hz1
      have hP := hP1
      have hD := hD1
      clear hP1 hD1
      generalize H1 = H at hP hS ⊢
      have hP : va_P D vwCl (MW cy ad (upd (upd (upd st 3 n11) 8 z3) 9 z4) (updA (updA (updA ar 4 (upd Z5 z2.toNatClampNeg (0 : Int32))) 5 (upd Z6 z2.toNatClampNeg (st 1))) 7 (upd Z7 z2.toNatClampNeg 0)) (updJ lo 6 (vp_updL J8 z2.toNatClampNeg (0 : Int32))) re) H := hP
      have hD : va_D A (MW cy ad (upd (upd (upd st 3 n11) 8 z3) 9 z4) (updA (updA (updA ar 4 (upd Z5 z2.toNatClampNeg (0 : Int32))) 5 (upd Z6 z2.toNatClampNeg (st 1))) 7 (upd Z7 z2.toNatClampNeg 0)) (updJ lo 6 (vp_updL J8 z2.toNatClampNeg (0 : Int32))) re) := hD
      refine W.widen (k := 0) (n := 0) (Nat.le_of_ble_eq_true rfl) (Nat.le_of_ble_eq_true rfl) ?_
      refine W.widen (k := 0) (n := 0) (Nat.le_of_ble_eq_true rfl) (Nat.le_of_ble_eq_true rfl) ?_
      exact W.vret hx hb hr (fun t ht hW => ⟨⟨⟨n11, z3, z4, (upd Z5 z2.toNatClampNeg (0 : Int32)), (upd Z6 z2.toNatClampNeg (st 1)), (upd Z7 z2.toNatClampNeg 0), (vp_updL J8 z2.toNatClampNeg (0 : Int32))⟩, rfl, (v_cut_3 st ar lo re y1 z2 z3 z4 Z5 Z6 Z7 J8 n11 hpre hi7 c9 hr10), by rw [ht]; exact hP, hD⟩, hS.F ht⟩) hS.2.2 dX12_cut_107
    · have c9 : y1.toInt < (st 1).toInt := by have h := z_nle c9; exact h
      refine lv_aload_n hx hb dX12_cut_15 rfl (lv_at hl 1 rfl) ?_
      refine va_get (D := D) (ci := 14) (v := .int z3) (C := RX12) (T := TX12) (N := 60) hx hb hts (fun _ h => (List.mem_append_right _ h)) hown hK hP 0 rfl rfl 8 (by decide) (hts (.fieldLink RX12 138 "PhraseDeskModel" "error" "I") (List.mem_of_getElem? (i := 12) rfl)) (fun _ h9 => h9) rfl dX12_cut_16 ?_
      refine lv_if_ne (tgt := 97) hx hb dX12_cut_19 (by decide) (fun c12 => ?_) (fun c12 => ?_)
      · have c12 : ¬ z3.toInt = (0) := by have h := z_ne c12; rw [show (0 : Int32).toInt = 0 from by decide +kernel] at h; exact h
        refine lv_aload_n hx hb dX12_cut_97 rfl (lv_at hl 1 rfl) ?_
        refine lv_iconst (v := 0) hx hb dX12_cut_98 (by decide +kernel) ?_
        refine lv_aload_n hx hb dX12_cut_99 rfl (lv_at hl 1 rfl) ?_
        refine va_get (D := D) (ci := 14) (v := .int (st 1)) (C := RX12) (T := TX12) (N := 60) hx hb hts (fun _ h => (List.mem_append_right _ h)) hown hK hP 0 rfl rfl 1 (by decide) (hts (.fieldLink RX12 131 "PhraseDeskModel" "size" "I") (List.mem_of_getElem? (i := 2) rfl)) (fun _ h9 => h9) rfl dX12_cut_100 ?_
        refine lv_lconst (v := 0) hx hb dX12_cut_103 rfl ?_
        have hFc := freeAll hD hS hA
        refine va_callv (va_runV (As := [.int 0, .int (st 1), .long 0]) (rest := []) ⟨hx, hb, hml, hown, hts⟩ (M_add l D cy sz0 sa ad (upd (upd (upd st 3 z2) 8 z3) 9 z4) (updA (updA (updA ar 4 Z5) 5 Z6) 7 Z7) (updJ lo 6 J8) re H.size 0 (st 1) 0 (v_cut_4 st ar lo re y1 z2 z3 z4 Z5 Z6 Z7 J8 hpre hi7 c9 c12)) (cwV 3 hts (goodIn_app (goodIn_r _ [3, 4, 5, 6] rfl (by decide +kernel)) (goodIn_app (goodIn_r wqM_add0 [7, 8, 1, 9, 10, 11] rfl (by decide +kernel)) (goodIn_sub (fun _ h => (List.mem_append_right _ h)) (by decide +kernel)))) rfl rfl rfl (by decide +kernel) ⟨Nat.le_of_ble_eq_true rfl, Nat.le_of_ble_eq_true rfl⟩) ⟨PcW.blind, va_recv hK hP (ci := 14) (q0 := 0) rfl rfl, PcW.mk hE hS hAF hP hD⟩ rfl rfl hl.1 rfl (lv_room (Nat.le_of_ble_eq_true rfl)) dX12_cut_104 ⟨Nat.le_of_ble_eq_true rfl, Nat.le_of_ble_eq_true rfl⟩) hS (fun q _ h => hFc q h) hFc (fun u t H1 locs ht hvm hw hB hz1 hk1 hS => ?_)
        obtain ⟨n14, rfl⟩ : ∃ z, z = u := ⟨_, rfl⟩
        have hr13 : n14.toInt = z2.toInt + 1 := hw
        obtain ⟨hP1, hD1⟩ := hB
        rw [ht] at hP1
        have hD1 := hD1.weaken (fun _ q _ h => hFc q.1 h)
        clear hP hD hFc hk1 hz1
        have hP := hP1
        have hD := hD1
        clear hP1 hD1
        generalize H1 = H at hP hS ⊢
        have hP : va_P D vwCl (MW cy ad (upd (upd (upd st 3 n14) 8 z3) 9 z4) (updA (updA (updA ar 4 (upd Z5 z2.toNatClampNeg (0 : Int32))) 5 (upd Z6 z2.toNatClampNeg (st 1))) 7 (upd Z7 z2.toNatClampNeg 0)) (updJ lo 6 (vp_updL J8 z2.toNatClampNeg (0 : Int32))) re) H := hP
        have hD : va_D A (MW cy ad (upd (upd (upd st 3 n14) 8 z3) 9 z4) (updA (updA (updA ar 4 (upd Z5 z2.toNatClampNeg (0 : Int32))) 5 (upd Z6 z2.toNatClampNeg (st 1))) 7 (upd Z7 z2.toNatClampNeg 0)) (updJ lo 6 (vp_updL J8 z2.toNatClampNeg (0 : Int32))) re) := hD
        refine W.widen (k := 0) (n := 0) (Nat.le_of_ble_eq_true rfl) (Nat.le_of_ble_eq_true rfl) ?_
        refine W.widen (k := 0) (n := 0) (Nat.le_of_ble_eq_true rfl) (Nat.le_of_ble_eq_true rfl) ?_
        exact W.vret hx hb hr (fun t ht hW => ⟨⟨⟨n14, z3, z4, (upd Z5 z2.toNatClampNeg (0 : Int32)), (upd Z6 z2.toNatClampNeg (st 1)), (upd Z7 z2.toNatClampNeg 0), (vp_updL J8 z2.toNatClampNeg (0 : Int32))⟩, rfl, (v_cut_5 st ar lo re y1 z2 z3 z4 Z5 Z6 Z7 J8 n14 hpre hi7 c9 c12 hr13), by rw [ht]; exact hP, hD⟩, hS.F ht⟩) hS.2.2 dX12_cut_107
      · have c12 : z3.toInt = (0) := by have h := z_eq c12; rw [show (0 : Int32).toInt = 0 from by decide +kernel] at h; exact h
        refine lv_aload_n hx hb dX12_cut_22 rfl (lv_at hl 1 rfl) ?_
        refine lv_iload_n hx hb dX12_cut_23 rfl (lv_at hl 0 rfl) ?_
        have hFc := freeAll hD hS hA
        refine va_calli (va_runV (As := [.int y1]) (rest := []) ⟨hx, hb, hml, hown, hts⟩ (M_at l D cy sz0 sa ad (upd (upd (upd st 3 z2) 8 z3) 9 z4) (updA (updA (updA ar 4 Z5) 5 Z6) 7 Z7) (updJ lo 6 J8) re H.size y1 (v_cut_6 st ar lo re y1 z2 z3 z4 Z5 Z6 Z7 J8 hpre hi7 c9 c12)) (cwV 1 hts (goodIn_app (goodIn_r _ [13, 14, 15, 6] rfl (by decide +kernel)) (goodIn_app (goodIn_r wqM_at0 [16, 2, 17] rfl (by decide +kernel)) (goodIn_sub (fun _ h => (List.mem_append_right _ h)) (by decide +kernel)))) rfl rfl rfl (by decide +kernel) ⟨Nat.le_of_ble_eq_true rfl, Nat.le_of_ble_eq_true rfl⟩) ⟨PcW.blind, va_recv hK hP (ci := 14) (q0 := 0) rfl rfl, PcW.mk hE hS hAF hP hD⟩ rfl rfl hl.1 rfl (lv_room (Nat.le_of_ble_eq_true rfl)) dX12_cut_24 ⟨Nat.le_of_ble_eq_true rfl, Nat.le_of_ble_eq_true rfl⟩) hS (fun q _ h => hFc q h) hFc (fun r15 u t H1 locs ht hvm hw hB hz1 hk1 hS => ?_)
        have hr15 : (y1.toInt < (st 1).toInt ∧ r15.toInt = ((ar 2) y1.toNatClampNeg).toInt) ∨ ((st 1).toInt ≤ y1.toInt ∧ r15.toInt = 0) := hw
        obtain ⟨hP1, hD1⟩ := hB
        rw [ht] at hP1
        have hD1 := hD1.weaken (fun _ q _ h => hFc q.1 h)
        clear hP hD hFc hk1 hz1
        have hP := hP1
        have hD := hD1
        clear hP1 hD1
        generalize H1 = H at hP hS ⊢
        have hP : va_P D vwCl (MW cy ad (upd (upd (upd st 3 z2) 8 z3) 9 z4) (updA (updA (updA ar 4 Z5) 5 Z6) 7 Z7) (updJ lo 6 J8) re) H := hP
        have hD : va_D A (MW cy ad (upd (upd (upd st 3 z2) 8 z3) 9 z4) (updA (updA (updA ar 4 Z5) 5 Z6) 7 Z7) (updJ lo 6 J8) re) := hD
        refine W.widen (k := 0) (n := 0) (Nat.le_of_ble_eq_true rfl) (Nat.le_of_ble_eq_true rfl) ?_
        refine lv_bipush (v := 32) hx hb dX12_cut_27 (by decide +kernel) ?_
        refine lv_icmp_ne (tgt := 38) hx hb dX12_cut_29 (by decide) (fun c16 => ?_) (fun c16 => ?_)
        · have c16 : ¬ r15.toInt = (32) := by have h := z_ne c16; rw [show (32 : Int32).toInt = 32 from by decide +kernel] at h; exact h
          refine lv_aload_n hx hb dX12_cut_38 rfl (lv_at hl 1 rfl) ?_
          refine lv_iload_n hx hb dX12_cut_39 rfl (lv_at hl 0 rfl) ?_
          have hFc := freeAll hD hS hA
          refine va_calli (va_runV (As := [.int y1]) (rest := []) ⟨hx, hb, hml, hown, hts⟩ (M_digit l D cy sz0 sa ad (upd (upd (upd st 3 z2) 8 z3) 9 z4) (updA (updA (updA ar 4 Z5) 5 Z6) 7 Z7) (updJ lo 6 J8) re H.size y1 (v_cut_7 st ar lo re y1 z2 z3 z4 Z5 Z6 Z7 J8 r15 hpre hi7 c9 c12 hr15 c16)) (cwV 1 hts (goodIn_app (goodIn_r _ [18, 19, 20, 6] rfl (by decide +kernel)) (goodIn_app (goodIn_r wqM_digit0 [21, 13, 14, 15, 6, 16, 2, 17] rfl (by decide +kernel)) (goodIn_sub (fun _ h => (List.mem_append_right _ h)) (by decide +kernel)))) rfl rfl rfl (by decide +kernel) ⟨Nat.le_of_ble_eq_true rfl, Nat.le_of_ble_eq_true rfl⟩) ⟨PcW.blind, va_recv hK hP (ci := 14) (q0 := 0) rfl rfl, PcW.mk hE hS hAF hP hD⟩ rfl rfl hl.1 rfl (lv_room (Nat.le_of_ble_eq_true rfl)) dX12_cut_40 ⟨Nat.le_of_ble_eq_true rfl, Nat.le_of_ble_eq_true rfl⟩) hS (fun q _ h => hFc q h) hFc (fun r17 u t H1 locs ht hvm hw hB hz1 hk1 hS => ?_)
          have hr17 : (r17.toInt = 0 ∧ ¬ (y1.toInt < (st 1).toInt ∧ 48 ≤ ((ar 2) y1.toNatClampNeg).toInt ∧ ((ar 2) y1.toNatClampNeg).toInt ≤ 57)) ∨ (r17.toInt = 1 ∧ (y1.toInt < (st 1).toInt ∧ 48 ≤ ((ar 2) y1.toNatClampNeg).toInt ∧ ((ar 2) y1.toNatClampNeg).toInt ≤ 57)) := hw
          obtain ⟨hP1, hD1⟩ := hB
          rw [ht] at hP1
          have hD1 := hD1.weaken (fun _ q _ h => hFc q.1 h)
          clear hP hD hFc hk1 hz1
          have hP := hP1
          have hD := hD1
          clear hP1 hD1
          generalize H1 = H at hP hS ⊢
          have hP : va_P D vwCl (MW cy ad (upd (upd (upd st 3 z2) 8 z3) 9 z4) (updA (updA (updA ar 4 Z5) 5 Z6) 7 Z7) (updJ lo 6 J8) re) H := hP
          have hD : va_D A (MW cy ad (upd (upd (upd st 3 z2) 8 z3) 9 z4) (updA (updA (updA ar 4 Z5) 5 Z6) 7 Z7) (updJ lo 6 J8) re) := hD
          refine W.widen (k := 0) (n := 0) (Nat.le_of_ble_eq_true rfl) (Nat.le_of_ble_eq_true rfl) ?_
          refine lv_if_eq (tgt := 54) hx hb dX12_cut_43 (by decide) (fun c18 => ?_) (fun c18 => ?_)
          · have c18 : r17.toInt = (0) := by have h := z_eq c18; rw [show (0 : Int32).toInt = 0 from by decide +kernel] at h; exact h
            refine lv_aload_n hx hb dX12_cut_54 rfl (lv_at hl 1 rfl) ?_
            refine lv_iload_n hx hb dX12_cut_55 rfl (lv_at hl 0 rfl) ?_
            have hFc := freeAll hD hS hA
            refine va_calli (va_runV (As := [.int y1]) (rest := []) ⟨hx, hb, hml, hown, hts⟩ (M_lower l D cy sz0 sa ad (upd (upd (upd st 3 z2) 8 z3) 9 z4) (updA (updA (updA ar 4 Z5) 5 Z6) 7 Z7) (updJ lo 6 J8) re H.size y1 (v_cut_8 st ar lo re y1 z2 z3 z4 Z5 Z6 Z7 J8 r15 r17 hpre hi7 c9 c12 hr15 c16 hr17 c18)) (cwV 1 hts (goodIn_app (goodIn_r _ [22, 23, 24, 6] rfl (by decide +kernel)) (goodIn_app (goodIn_r wqM_lower0 [25, 13, 14, 15, 6, 16, 2, 17] rfl (by decide +kernel)) (goodIn_sub (fun _ h => (List.mem_append_right _ h)) (by decide +kernel)))) rfl rfl rfl (by decide +kernel) ⟨Nat.le_of_ble_eq_true rfl, Nat.le_of_ble_eq_true rfl⟩) ⟨PcW.blind, va_recv hK hP (ci := 14) (q0 := 0) rfl rfl, PcW.mk hE hS hAF hP hD⟩ rfl rfl hl.1 rfl (lv_room (Nat.le_of_ble_eq_true rfl)) dX12_cut_56 ⟨Nat.le_of_ble_eq_true rfl, Nat.le_of_ble_eq_true rfl⟩) hS (fun q _ h => hFc q h) hFc (fun r19 u t H1 locs ht hvm hw hB hz1 hk1 hS => ?_)
            have hr19 : (r19.toInt = 0 ∧ ¬ (y1.toInt < (st 1).toInt ∧ 97 ≤ ((ar 2) y1.toNatClampNeg).toInt ∧ ((ar 2) y1.toNatClampNeg).toInt ≤ 122)) ∨ (r19.toInt = 1 ∧ (y1.toInt < (st 1).toInt ∧ 97 ≤ ((ar 2) y1.toNatClampNeg).toInt ∧ ((ar 2) y1.toNatClampNeg).toInt ≤ 122)) := hw
            obtain ⟨hP1, hD1⟩ := hB
            rw [ht] at hP1
            have hD1 := hD1.weaken (fun _ q _ h => hFc q.1 h)
            clear hP hD hFc hk1 hz1
            have hP := hP1
            have hD := hD1
            clear hP1 hD1
            generalize H1 = H at hP hS ⊢
            have hP : va_P D vwCl (MW cy ad (upd (upd (upd st 3 z2) 8 z3) 9 z4) (updA (updA (updA ar 4 Z5) 5 Z6) 7 Z7) (updJ lo 6 J8) re) H := hP
            have hD : va_D A (MW cy ad (upd (upd (upd st 3 z2) 8 z3) 9 z4) (updA (updA (updA ar 4 Z5) 5 Z6) 7 Z7) (updJ lo 6 J8) re) := hD
            refine W.widen (k := 0) (n := 0) (Nat.le_of_ble_eq_true rfl) (Nat.le_of_ble_eq_true rfl) ?_
            refine lv_if_eq (tgt := 70) hx hb dX12_cut_59 (by decide) (fun c20 => ?_) (fun c20 => ?_)
            · have c20 : r19.toInt = (0) := by have h := z_eq c20; rw [show (0 : Int32).toInt = 0 from by decide +kernel] at h; exact h
              refine lv_aload_n hx hb dX12_cut_70 rfl (lv_at hl 1 rfl) ?_
              refine lv_iload_n hx hb dX12_cut_71 rfl (lv_at hl 0 rfl) ?_
              have hFc := freeAll hD hS hA
              refine va_calli (va_runV (As := [.int y1]) (rest := []) ⟨hx, hb, hml, hown, hts⟩ (M_at l D cy sz0 sa ad (upd (upd (upd st 3 z2) 8 z3) 9 z4) (updA (updA (updA ar 4 Z5) 5 Z6) 7 Z7) (updJ lo 6 J8) re H.size y1 (v_cut_9 st ar lo re y1 z2 z3 z4 Z5 Z6 Z7 J8 r15 r17 r19 hpre hi7 c9 c12 hr15 c16 hr17 c18 hr19 c20)) (cwV 1 hts (goodIn_app (goodIn_r _ [13, 14, 15, 6] rfl (by decide +kernel)) (goodIn_app (goodIn_r wqM_at0 [16, 2, 17] rfl (by decide +kernel)) (goodIn_sub (fun _ h => (List.mem_append_right _ h)) (by decide +kernel)))) rfl rfl rfl (by decide +kernel) ⟨Nat.le_of_ble_eq_true rfl, Nat.le_of_ble_eq_true rfl⟩) ⟨PcW.blind, va_recv hK hP (ci := 14) (q0 := 0) rfl rfl, PcW.mk hE hS hAF hP hD⟩ rfl rfl hl.1 rfl (lv_room (Nat.le_of_ble_eq_true rfl)) dX12_cut_72 ⟨Nat.le_of_ble_eq_true rfl, Nat.le_of_ble_eq_true rfl⟩) hS (fun q _ h => hFc q h) hFc (fun r21 u t H1 locs ht hvm hw hB hz1 hk1 hS => ?_)
              have hr21 : (y1.toInt < (st 1).toInt ∧ r21.toInt = ((ar 2) y1.toNatClampNeg).toInt) ∨ ((st 1).toInt ≤ y1.toInt ∧ r21.toInt = 0) := hw
              obtain ⟨hP1, hD1⟩ := hB
              rw [ht] at hP1
              have hD1 := hD1.weaken (fun _ q _ h => hFc q.1 h)
              clear hP hD hFc hk1 hz1
              have hP := hP1
              have hD := hD1
              clear hP1 hD1
              generalize H1 = H at hP hS ⊢
              have hP : va_P D vwCl (MW cy ad (upd (upd (upd st 3 z2) 8 z3) 9 z4) (updA (updA (updA ar 4 Z5) 5 Z6) 7 Z7) (updJ lo 6 J8) re) H := hP
              have hD : va_D A (MW cy ad (upd (upd (upd st 3 z2) 8 z3) 9 z4) (updA (updA (updA ar 4 Z5) 5 Z6) 7 Z7) (updJ lo 6 J8) re) := hD
              refine W.widen (k := 0) (n := 0) (Nat.le_of_ble_eq_true rfl) (Nat.le_of_ble_eq_true rfl) ?_
              refine lv_bipush (v := 39) hx hb dX12_cut_75 (by decide +kernel) ?_
              refine lv_icmp_ne (tgt := 88) hx hb dX12_cut_77 (by decide) (fun c22 => ?_) (fun c22 => ?_)
              · have c22 : ¬ r21.toInt = (39) := by have h := z_ne c22; rw [show (39 : Int32).toInt = 39 from by decide +kernel] at h; exact h
                refine lv_aload_n hx hb dX12_cut_88 rfl (lv_at hl 1 rfl) ?_
                refine lv_iload_n hx hb dX12_cut_89 rfl (lv_at hl 0 rfl) ?_
                have hFc := freeAll hD hS hA
                refine va_calli (va_runV (As := [.int y1]) (rest := []) ⟨hx, hb, hml, hown, hts⟩ (M_sign l D cy sz0 sa ad (upd (upd (upd st 3 z2) 8 z3) 9 z4) (updA (updA (updA ar 4 Z5) 5 Z6) 7 Z7) (updJ lo 6 J8) re H.size y1 (v_cut_10 st ar lo re y1 z2 z3 z4 Z5 Z6 Z7 J8 r15 r17 r19 r21 hpre hi7 c9 c12 hr15 c16 hr17 c18 hr19 c20 hr21 c22)) (cwV 1 hts (goodIn_app (goodIn_r _ [26, 27, 28, 6] rfl (by decide +kernel)) (goodIn_app (goodIn_r wqM_sign0 [29, 13, 14, 15, 6, 16, 2, 17, 30, 31, 32, 33, 34, 35, 36, 37, 38, 39, 12, 40, 3, 4, 5, 7, 8, 1, 9, 10, 11, 41] rfl (by decide +kernel)) (goodIn_sub (fun _ h => (List.mem_append_right _ h)) (by decide +kernel)))) rfl rfl rfl (by decide +kernel) ⟨Nat.le_of_ble_eq_true rfl, Nat.le_of_ble_eq_true rfl⟩) ⟨PcW.blind, va_recv hK hP (ci := 14) (q0 := 0) rfl rfl, PcW.mk hE hS hAF hP hD⟩ rfl rfl hl.1 rfl (lv_room (Nat.le_of_ble_eq_true rfl)) dX12_cut_90 ⟨Nat.le_of_ble_eq_true rfl, Nat.le_of_ble_eq_true rfl⟩) hS (fun q _ h => hFc q h) hFc (fun r23 u t H1 locs ht hvm hw hB hz1 hk1 hS => ?_)
                obtain ⟨n24, n25, n26, A27, A28, A29, B30⟩ := u
                have hr23 : y1.toInt < r23.toInt ∧ r23.toInt ≤ (st 1).toInt ∧ 0 ≤ n24.toInt ∧ n24.toInt ≤ r23.toInt ∧ TKok A27 B30 A29 n24.toInt := hw
                obtain ⟨hP1, hD1⟩ := hB
                rw [ht] at hP1
                have hD1 := hD1.weaken (fun _ q _ h => hFc q.1 h)
                clear hP hD hFc hk1 hz1
                have hP := hP1
                have hD := hD1
                clear hP1 hD1
                generalize H1 = H at hP hS ⊢
                have hP : va_P D vwCl (MW cy ad (upd (upd (upd st 3 n24) 8 n25) 9 n26) (updA (updA (updA ar 4 A27) 5 A28) 7 A29) (updJ lo 6 B30) re) H := hP
                have hD : va_D A (MW cy ad (upd (upd (upd st 3 n24) 8 n25) 9 n26) (updA (updA (updA ar 4 A27) 5 A28) 7 A29) (updJ lo 6 B30) re) := hD
                refine W.widen (k := 0) (n := 0) (Nat.le_of_ble_eq_true rfl) (Nat.le_of_ble_eq_true rfl) ?_
                refine lv_istore_n (lv' := [(1, .int r23), (0, .ref (ad 0))]) hx hb dX12_cut_93 rfl hl (by decide) rfl (fun ls hl => ?_)
                refine lv_goto (tgt := 7) hx hb dX12_cut_94 (by decide) ?_
                exact ih7 r23 n24 n25 n26 A27 A28 A29 B30 _ _ _ (Nat.lt_of_lt_of_le (v_cut_12 st ar lo re y1 z2 z3 z4 Z5 Z6 Z7 J8 r15 r17 r19 r21 n24 n25 n26 A27 A28 A29 B30 r23 hpre hi7 c9 c12 hr15 c16 hr17 c18 hr19 c20 hr21 c22 hr23) (Nat.le_of_lt_succ hn7)) (v_cut_11 st ar lo re y1 z2 z3 z4 Z5 Z6 Z7 J8 r15 r17 r19 r21 n24 n25 n26 A27 A28 A29 B30 r23 hpre hi7 c9 c12 hr15 c16 hr17 c18 hr19 c20 hr21 c22 hr23) hP hD hS (lv_sub hl [0, 1] rfl)
              · have c22 : r21.toInt = (39) := by have h := z_eq c22; rw [show (39 : Int32).toInt = 39 from by decide +kernel] at h; exact h
                refine lv_aload_n hx hb dX12_cut_80 rfl (lv_at hl 1 rfl) ?_
                refine lv_iload_n hx hb dX12_cut_81 rfl (lv_at hl 0 rfl) ?_
                have hFc := freeAll hD hS hA
                refine va_calli (va_runV (As := [.int y1]) (rest := []) ⟨hx, hb, hml, hown, hts⟩ (M_quoted l D cy sz0 sa ad (upd (upd (upd st 3 z2) 8 z3) 9 z4) (updA (updA (updA ar 4 Z5) 5 Z6) 7 Z7) (updJ lo 6 J8) re H.size y1 (v_cut_13 st ar lo re y1 z2 z3 z4 Z5 Z6 Z7 J8 r15 r17 r19 r21 hpre hi7 c9 c12 hr15 c16 hr17 c18 hr19 c20 hr21 c22)) (cwV 1 hts (goodIn_app (goodIn_r _ [42, 43, 44, 6] rfl (by decide +kernel)) (goodIn_app (goodIn_r wqM_quoted0 [45, 2, 13, 14, 15, 6, 16, 17, 3, 4, 5, 7, 8, 1, 9, 10, 11, 36, 37, 38, 39, 12, 40] rfl (by decide +kernel)) (goodIn_sub (fun _ h => (List.mem_append_right _ h)) (by decide +kernel)))) rfl rfl rfl (by decide +kernel) ⟨Nat.le_of_ble_eq_true rfl, Nat.le_of_ble_eq_true rfl⟩) ⟨PcW.blind, va_recv hK hP (ci := 14) (q0 := 0) rfl rfl, PcW.mk hE hS hAF hP hD⟩ rfl rfl hl.1 rfl (lv_room (Nat.le_of_ble_eq_true rfl)) dX12_cut_82 ⟨Nat.le_of_ble_eq_true rfl, Nat.le_of_ble_eq_true rfl⟩) hS (fun q _ h => hFc q h) hFc (fun r31 u t H1 locs ht hvm hw hB hz1 hk1 hS => ?_)
                obtain ⟨n32, n33, n34, A35, A36, A37, B38⟩ := u
                have hr31 : y1.toInt < r31.toInt ∧ r31.toInt ≤ (st 1).toInt ∧ 0 ≤ n32.toInt ∧ n32.toInt ≤ r31.toInt ∧ TKok A35 B38 A37 n32.toInt := hw
                obtain ⟨hP1, hD1⟩ := hB
                rw [ht] at hP1
                have hD1 := hD1.weaken (fun _ q _ h => hFc q.1 h)
                clear hP hD hFc hk1 hz1
                have hP := hP1
                have hD := hD1
                clear hP1 hD1
                generalize H1 = H at hP hS ⊢
                have hP : va_P D vwCl (MW cy ad (upd (upd (upd st 3 n32) 8 n33) 9 n34) (updA (updA (updA ar 4 A35) 5 A36) 7 A37) (updJ lo 6 B38) re) H := hP
                have hD : va_D A (MW cy ad (upd (upd (upd st 3 n32) 8 n33) 9 n34) (updA (updA (updA ar 4 A35) 5 A36) 7 A37) (updJ lo 6 B38) re) := hD
                refine W.widen (k := 0) (n := 0) (Nat.le_of_ble_eq_true rfl) (Nat.le_of_ble_eq_true rfl) ?_
                refine lv_goto (tgt := 93) hx hb dX12_cut_85 (by decide) ?_
                refine lv_istore_n (lv' := [(1, .int r31), (0, .ref (ad 0))]) hx hb dX12_cut_93 rfl hl (by decide) rfl (fun ls hl => ?_)
                refine lv_goto (tgt := 7) hx hb dX12_cut_94 (by decide) ?_
                exact ih7 r31 n32 n33 n34 A35 A36 A37 B38 _ _ _ (Nat.lt_of_lt_of_le (v_cut_15 st ar lo re y1 z2 z3 z4 Z5 Z6 Z7 J8 r15 r17 r19 r21 n32 n33 n34 A35 A36 A37 B38 r31 hpre hi7 c9 c12 hr15 c16 hr17 c18 hr19 c20 hr21 c22 hr31) (Nat.le_of_lt_succ hn7)) (v_cut_14 st ar lo re y1 z2 z3 z4 Z5 Z6 Z7 J8 r15 r17 r19 r21 n32 n33 n34 A35 A36 A37 B38 r31 hpre hi7 c9 c12 hr15 c16 hr17 c18 hr19 c20 hr21 c22 hr31) hP hD hS (lv_sub hl [0, 1] rfl)
            · have c20 : ¬ r19.toInt = (0) := by have h := z_ne c20; rw [show (0 : Int32).toInt = 0 from by decide +kernel] at h; exact h
              refine lv_aload_n hx hb dX12_cut_62 rfl (lv_at hl 1 rfl) ?_
              refine lv_iload_n hx hb dX12_cut_63 rfl (lv_at hl 0 rfl) ?_
              have hFc := freeAll hD hS hA
              refine va_calli (va_runV (As := [.int y1]) (rest := []) ⟨hx, hb, hml, hown, hts⟩ (M_name l D cy sz0 sa ad (upd (upd (upd st 3 z2) 8 z3) 9 z4) (updA (updA (updA ar 4 Z5) 5 Z6) 7 Z7) (updJ lo 6 J8) re H.size y1 (v_cut_16 st ar lo re y1 z2 z3 z4 Z5 Z6 Z7 J8 r15 r17 r19 hpre hi7 c9 c12 hr15 c16 hr17 c18 hr19 c20)) (cwV 1 hts (goodIn_app (goodIn_r _ [46, 47, 48, 6] rfl (by decide +kernel)) (goodIn_app (goodIn_r wqM_name0 [49, 22, 23, 24, 6, 25, 13, 14, 15, 16, 2, 17, 3, 4, 5, 7, 8, 1, 9, 10, 11, 36, 37, 38, 39, 12, 40, 50, 51] rfl (by decide +kernel)) (goodIn_sub (fun _ h => (List.mem_append_right _ h)) (by decide +kernel)))) rfl rfl rfl (by decide +kernel) ⟨Nat.le_of_ble_eq_true rfl, Nat.le_of_ble_eq_true rfl⟩) ⟨PcW.blind, va_recv hK hP (ci := 14) (q0 := 0) rfl rfl, PcW.mk hE hS hAF hP hD⟩ rfl rfl hl.1 rfl (lv_room (Nat.le_of_ble_eq_true rfl)) dX12_cut_64 ⟨Nat.le_of_ble_eq_true rfl, Nat.le_of_ble_eq_true rfl⟩) hS (fun q _ h => hFc q h) hFc (fun r39 u t H1 locs ht hvm hw hB hz1 hk1 hS => ?_)
              obtain ⟨n40, n41, n42, A43, A44, A45, B46⟩ := u
              have hr39 : y1.toInt < r39.toInt ∧ r39.toInt ≤ (st 1).toInt ∧ 0 ≤ n40.toInt ∧ n40.toInt ≤ r39.toInt ∧ TKok A43 B46 A45 n40.toInt := hw
              obtain ⟨hP1, hD1⟩ := hB
              rw [ht] at hP1
              have hD1 := hD1.weaken (fun _ q _ h => hFc q.1 h)
              clear hP hD hFc hk1 hz1
              have hP := hP1
              have hD := hD1
              clear hP1 hD1
              generalize H1 = H at hP hS ⊢
              have hP : va_P D vwCl (MW cy ad (upd (upd (upd st 3 n40) 8 n41) 9 n42) (updA (updA (updA ar 4 A43) 5 A44) 7 A45) (updJ lo 6 B46) re) H := hP
              have hD : va_D A (MW cy ad (upd (upd (upd st 3 n40) 8 n41) 9 n42) (updA (updA (updA ar 4 A43) 5 A44) 7 A45) (updJ lo 6 B46) re) := hD
              refine W.widen (k := 0) (n := 0) (Nat.le_of_ble_eq_true rfl) (Nat.le_of_ble_eq_true rfl) ?_
              refine lv_goto (tgt := 93) hx hb dX12_cut_67 (by decide) ?_
              refine lv_istore_n (lv' := [(1, .int r39), (0, .ref (ad 0))]) hx hb dX12_cut_93 rfl hl (by decide) rfl (fun ls hl => ?_)
              refine lv_goto (tgt := 7) hx hb dX12_cut_94 (by decide) ?_
              exact ih7 r39 n40 n41 n42 A43 A44 A45 B46 _ _ _ (Nat.lt_of_lt_of_le (v_cut_18 st ar lo re y1 z2 z3 z4 Z5 Z6 Z7 J8 r15 r17 r19 n40 n41 n42 A43 A44 A45 B46 r39 hpre hi7 c9 c12 hr15 c16 hr17 c18 hr19 c20 hr39) (Nat.le_of_lt_succ hn7)) (v_cut_17 st ar lo re y1 z2 z3 z4 Z5 Z6 Z7 J8 r15 r17 r19 n40 n41 n42 A43 A44 A45 B46 r39 hpre hi7 c9 c12 hr15 c16 hr17 c18 hr19 c20 hr39) hP hD hS (lv_sub hl [0, 1] rfl)
          · have c18 : ¬ r17.toInt = (0) := by have h := z_ne c18; rw [show (0 : Int32).toInt = 0 from by decide +kernel] at h; exact h
            refine lv_aload_n hx hb dX12_cut_46 rfl (lv_at hl 1 rfl) ?_
            refine lv_iload_n hx hb dX12_cut_47 rfl (lv_at hl 0 rfl) ?_
            have hFc := freeAll hD hS hA
            refine va_calli (va_runV (As := [.int y1]) (rest := []) ⟨hx, hb, hml, hown, hts⟩ (M_number l D cy sz0 sa ad (upd (upd (upd st 3 z2) 8 z3) 9 z4) (updA (updA (updA ar 4 Z5) 5 Z6) 7 Z7) (updJ lo 6 J8) re H.size y1 (v_cut_19 st ar lo re y1 z2 z3 z4 Z5 Z6 Z7 J8 r15 r17 hpre hi7 c9 c12 hr15 c16 hr17 c18)) (cwV 1 hts (goodIn_app (goodIn_r _ [52, 53, 54, 6] rfl (by decide +kernel)) (goodIn_app (goodIn_r wqM_number0 [55, 18, 19, 20, 6, 21, 13, 14, 15, 16, 2, 17, 36, 37, 38, 39, 12, 40, 3, 4, 5, 7, 8, 1, 9, 10, 11, 56, 57] rfl (by decide +kernel)) (goodIn_sub (fun _ h => (List.mem_append_right _ h)) (by decide +kernel)))) rfl rfl rfl (by decide +kernel) ⟨Nat.le_of_ble_eq_true rfl, Nat.le_of_ble_eq_true rfl⟩) ⟨PcW.blind, va_recv hK hP (ci := 14) (q0 := 0) rfl rfl, PcW.mk hE hS hAF hP hD⟩ rfl rfl hl.1 rfl (lv_room (Nat.le_of_ble_eq_true rfl)) dX12_cut_48 ⟨Nat.le_of_ble_eq_true rfl, Nat.le_of_ble_eq_true rfl⟩) hS (fun q _ h => hFc q h) hFc (fun r47 u t H1 locs ht hvm hw hB hz1 hk1 hS => ?_)
            obtain ⟨n48, n49, n50, A51, A52, A53, B54⟩ := u
            have hr47 : y1.toInt < r47.toInt ∧ r47.toInt ≤ (st 1).toInt ∧ 0 ≤ n48.toInt ∧ n48.toInt ≤ r47.toInt ∧ TKok A51 B54 A53 n48.toInt := hw
            obtain ⟨hP1, hD1⟩ := hB
            rw [ht] at hP1
            have hD1 := hD1.weaken (fun _ q _ h => hFc q.1 h)
            clear hP hD hFc hk1 hz1
            have hP := hP1
            have hD := hD1
            clear hP1 hD1
            generalize H1 = H at hP hS ⊢
            have hP : va_P D vwCl (MW cy ad (upd (upd (upd st 3 n48) 8 n49) 9 n50) (updA (updA (updA ar 4 A51) 5 A52) 7 A53) (updJ lo 6 B54) re) H := hP
            have hD : va_D A (MW cy ad (upd (upd (upd st 3 n48) 8 n49) 9 n50) (updA (updA (updA ar 4 A51) 5 A52) 7 A53) (updJ lo 6 B54) re) := hD
            refine W.widen (k := 0) (n := 0) (Nat.le_of_ble_eq_true rfl) (Nat.le_of_ble_eq_true rfl) ?_
            refine lv_goto (tgt := 93) hx hb dX12_cut_51 (by decide) ?_
            refine lv_istore_n (lv' := [(1, .int r47), (0, .ref (ad 0))]) hx hb dX12_cut_93 rfl hl (by decide) rfl (fun ls hl => ?_)
            refine lv_goto (tgt := 7) hx hb dX12_cut_94 (by decide) ?_
            exact ih7 r47 n48 n49 n50 A51 A52 A53 B54 _ _ _ (Nat.lt_of_lt_of_le (v_cut_21 st ar lo re y1 z2 z3 z4 Z5 Z6 Z7 J8 r15 r17 n48 n49 n50 A51 A52 A53 B54 r47 hpre hi7 c9 c12 hr15 c16 hr17 c18 hr47) (Nat.le_of_lt_succ hn7)) (v_cut_20 st ar lo re y1 z2 z3 z4 Z5 Z6 Z7 J8 r15 r17 n48 n49 n50 A51 A52 A53 B54 r47 hpre hi7 c9 c12 hr15 c16 hr17 c18 hr47) hP hD hS (lv_sub hl [0, 1] rfl)
        · have c16 : r15.toInt = (32) := by have h := z_eq c16; rw [show (32 : Int32).toInt = 32 from by decide +kernel] at h; exact h
          obtain ⟨x55, ex55⟩ : ∃ y : Int32, y = y1 + 1 := ⟨_, rfl⟩
          have tx55 := (v_cut_22 st ar lo re y1 z2 z3 z4 Z5 Z6 Z7 J8 r15 x55 hpre hi7 c9 c12 hr15 c16 ex55)
          refine lv_iinc (v := x55) (lv' := [(1, .int x55), (0, .ref (ad 0))]) hx hb dX12_cut_32 hl (k := 0) rfl (by rw [ex55]; rfl) (by decide) rfl (fun ls hl => ?_)
          refine lv_goto (tgt := 7) hx hb dX12_cut_35 (by decide) ?_
          exact ih7 x55 z2 z3 z4 Z5 Z6 Z7 J8 _ _ _ (Nat.lt_of_lt_of_le (v_cut_24 st ar lo re y1 z2 z3 z4 Z5 Z6 Z7 J8 r15 x55 hpre hi7 c9 c12 hr15 c16 ex55 tx55) (Nat.le_of_lt_succ hn7)) (v_cut_23 st ar lo re y1 z2 z3 z4 Z5 Z6 Z7 J8 r15 x55 hpre hi7 c9 c12 hr15 c16 ex55 tx55) hP hD hS (lv_sub hl [0, 1] rfl)
set_option maxHeartbeats 4000000 in
set_option maxRecDepth 100000 in
theorem M_cut (l : Launch) (D : va_G) (cy : Nat → ClassId) (sz0 : Nat) (sa : Nat → Nat) (ad : Nat → Nat) (st : Nat → Int32) (ar : Nat → Nat → Int32) (lo : Nat → Nat → Int64) (re : Nat → UInt64) (sz : Nat)  (hpre : 0 ≤ (st 1).toInt ∧ (st 1).toInt ≤ 40) : Met l yX12_cut wqM_cut ({ frames := 3, cells := 0, slots := 0, locals := 68 }) (PcW D cy sz0 sa [.ref (ad 0)] (MW cy ad st ar lo re) sz) (va_Qv (fun (u : Int32 × Int32 × Int32 × (Nat → Int32) × (Nat → Int32) × (Nat → Int32) × (Nat → Int64)) => 1 ≤ u.1.toInt ∧ u.1.toInt ≤ (st 1).toInt + 1 ∧ TKok u.2.2.2.1 u.2.2.2.2.2.2 u.2.2.2.2.2.1 (u.1.toInt - 1) ∧ (u.2.2.2.1 (u.1.toInt - 1).toNat).toInt = 0) (fun (u : Int32 × Int32 × Int32 × (Nat → Int32) × (Nat → Int32) × (Nat → Int32) × (Nat → Int64)) (t : State) => BW D (MW cy ad (upd (upd (upd st 3 u.1) 8 u.2.1) 9 u.2.2.1) (updA (updA (updA ar 4 u.2.2.2.1) 5 u.2.2.2.2.1) 7 u.2.2.2.2.2.1) (updJ lo 6 u.2.2.2.2.2.2) re) (va_A (MW cy ad st ar lo re) sz) t) (va_A (MW cy ad st ar lo re) sz)) 0 0 (va_A (MW cy ad st ar lo re) sz) := by
  refine Met.ofW (cc := cX12_cut) (maxL := 2) (ret := none) (by decide) rfl ?_
  intro p e s m args below meth c s₁ B hml hv
  obtain ⟨rfl, hsz, hP, hD0, hE⟩ := hv
  have hx := B.exec
  have hb := B.bytes
  have hr := B.returns
  have hts := atoms_spec (ws := wqM_cut) B.pre
  have hown : s.vm.findClass RX12 = some m.cls := findClass_of_methodNamed B.named
  have hlocks := B.notSynchronized
  subst hsz
  have hK := hE.1
  have hD := hD0.self (sz := s.heap.size)
  have hAF := frA hD0 hE.2.1
  generalize hAe : va_A (MW cy ad st ar lo re) s.heap.size = A at hD hAF ⊢
  have hA : ∀ q : Nat, s.heap.size ≤ q → A q := fun q h => by rw [← hAe]; exact Or.inr h
  have hS : va_S A s.heap s.heap [] := va_S.rf
  have hl := lv_entry ([.ref (ad 0)]) (n := 2) (Nat.le_of_ble_eq_true rfl)
  rw [lg_entry_eq]
  generalize (lg_sl ([.ref (ad 0)]) ++ List.replicate (2 - (lg_sl ([.ref (ad 0)])).length) Slot.unset).toArray = ls at hl ⊢
  have hl : lv_has ls 2 [(0, .ref (ad 0))] := hl
  refine lv_aload_n hx hb dX12_cut_0 rfl (lv_at hl 0 rfl) ?_
  refine lv_iconst (v := 0) hx hb dX12_cut_1 (by decide +kernel) ?_
  refine va_put (D := D) (ci := 14) (v := .int 0) (ty := .int) (C := RX12) (T := TX12) (N := 60) hx hb hts (fun _ h => (List.mem_append_right _ h)) tyX12 tyX12_ok nmX12 hown hK hP hD hS 0 rfl rfl 3 (by decide) (hts (.fieldLink RX12 144 "PhraseDeskModel" "tokens" "I") (List.mem_of_getElem? (i := 1) rfl)) (fun _ h9 => h9) rfl (by decide +kernel) rfl rfl (Nat.le_of_ble_eq_true rfl) dX12_cut_2 (fun H locs hP hD hS => ?_)
  have hP : va_P D vwCl (MW cy ad (upd st 3 0) ar lo re) H := hP
  have hD : va_D A (MW cy ad (upd st 3 0) ar lo re) := hD
  refine lv_iconst (v := 0) hx hb dX12_cut_5 (by decide +kernel) ?_
  refine lv_istore_n (lv' := [(1, .int 0), (0, .ref (ad 0))]) hx hb dX12_cut_6 rfl hl (by decide) rfl (fun ls hl => ?_)
  exact L_cut_7_1 l D cy sz0 sa ad A st ar lo re hx hb hr hml hown hts hlocks hE hAF hA hpre (((st 1).toInt - (0 : Int32).toInt).toNat + 1) 0 0 (st 8) (st 9) (ar 4) (ar 5) (ar 7) (lo 6) _ _ _ (Nat.lt_succ_self _) (v_cut_1 st ar lo re hpre) hP hD hS (lv_sub hl [0, 1] rfl)
