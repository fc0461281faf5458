theorem z_l2i {x : Int32} {y : Int64} (e : x = Int64.toInt32 y) : -2147483648 ≤ y.toInt → y.toInt < 2147483648 → x.toInt = y.toInt := by
  intro h1 h2
  rw [e, Int64.toInt_toInt32]
  exact Int.bmod_eq_of_le (by omega) (by omega)
theorem z_lcmp {x : Int32} {a b : Int64} {p q : Int} (e : x = lg_cmp a b) (ha : a.toInt = p) (hb : b.toInt = q) : (x.toInt = 0 ↔ p = q) ∧ (x.toInt < 0 ↔ p < q) := by
  subst e
  rw [← ha, ← hb]
  unfold lg_cmp
  have h1 : ∀ u w : Int64, u < w ↔ u.toInt < w.toInt := fun u w => Int64.lt_iff_toInt_lt
  have z1 : (1 : Int32).toInt = 1 := by decide +kernel
  have z0 : (0 : Int32).toInt = 0 := by decide +kernel
  have zm : (-1 : Int32).toInt = -1 := by decide +kernel
  split
  · rename_i c1; have c2 := (h1 _ _).mp c1; rw [z1]; omega
  · rename_i c1
    have c2 : ¬ b.toInt < a.toInt := fun h => c1 ((h1 _ _).mpr h)
    split
    · rename_i c3; subst c3; rw [z0]; omega
    · rename_i c3
      have c4 : ¬ a.toInt = b.toInt := fun h => c3 (Int64.toInt_inj.mp h)
      rw [zm]; omega
theorem zl_add {x y : Int64} (h1 : -9223372036854775808 ≤ x.toInt + y.toInt) (h2 : x.toInt + y.toInt < 9223372036854775808) : (x + y).toInt = x.toInt + y.toInt := by
  rw [Int64.toInt_add]; exact Int.bmod_eq_of_le (by omega) (by omega)
theorem zl_sub {x y : Int64} (h1 : -9223372036854775808 ≤ x.toInt - y.toInt) (h2 : x.toInt - y.toInt < 9223372036854775808) : (x - y).toInt = x.toInt - y.toInt := by
  rw [Int64.toInt_sub]; exact Int.bmod_eq_of_le (by omega) (by omega)
theorem zl_mul {x y : Int64} {c : Int} (hc : x.toInt = c) (h1 : -9223372036854775808 ≤ c * y.toInt) (h2 : c * y.toInt < 9223372036854775808) : (x * y).toInt = c * y.toInt := by
  rw [Int64.toInt_mul, hc]; exact Int.bmod_eq_of_le (by omega) (by omega)
theorem clampN (x : Int32) : x.toNatClampNeg = x.toInt.toNat := rfl
theorem upd_eq {f : Nat → Int32} {k : Nat} {v : Int32} : upd f k v k = v := by simp [upd]
theorem upd_ne {f : Nat → Int32} {k j : Nat} {v : Int32} (h : ¬ j = k) : upd f k v j = f j := by simp [upd, h]
theorem updL_eq {f : Nat → Int64} {k : Nat} {v : Int64} : vp_updL f k v k = v := by simp [vp_updL]
theorem updL_ne {f : Nat → Int64} {k j : Nat} {v : Int64} (h : ¬ j = k) : vp_updL f k v j = f j := by simp [vp_updL, h]
def TKok (tk : Nat → Int32) (tv : Nat → Int64) (ts : Nat → Int32) (n : Int) : Prop := ∀ i : Nat, (i : Int) < n → 1 ≤ (tk i).toInt ∧ (tk i).toInt ≤ 5 ∧ ((tk i).toInt = 2 → 1 ≤ (ts i).toInt ∧ (ts i).toInt ≤ 3) ∧ ((tk i).toInt = 3 → 0 ≤ (tv i).toInt ∧ (tv i).toInt ≤ 14348906)
theorem tk_add {tk : Nat → Int32} {tv : Nat → Int64} {ts : Nat → Int32} {n m : Int} {i : Nat} {k s : Int32} {v : Int64} (h : TKok tk tv ts n) (hm : m = n + 1) (hi : (i : Int) = n) (h1 : 1 ≤ k.toInt ∧ k.toInt ≤ 5) (h2 : k.toInt = 2 → 1 ≤ s.toInt ∧ s.toInt ≤ 3) (h3 : k.toInt = 3 → 0 ≤ v.toInt ∧ v.toInt ≤ 14348906) : TKok (upd tk i k) (vp_updL tv i v) (upd ts i s) m := by
  intro j hj
  by_cases e : j = i
  · subst e; rw [upd_eq, upd_eq, updL_eq]; exact ⟨h1.1, h1.2, h2, h3⟩
  · rw [upd_ne e, upd_ne e, updL_ne e]; exact h j (by omega)
theorem clampZ {x : Int32} (h : 0 ≤ x.toInt) : (x.toNatClampNeg : Int) = x.toInt := by rw [clampN]; omega
theorem tk_add2 {tk : Nat → Int32} {tv : Nat → Int64} {ts : Nat → Int32} {n m : Int} {i i' : Nat} {k s z : Int32} {v : Int64} (h : TKok tk tv ts n) (hm : m = n + 1) (hi : (i : Int) = n) (hi' : (i' : Int) = n) (h1 : 1 ≤ k.toInt ∧ k.toInt ≤ 5) (h2 : k.toInt = 2 → 1 ≤ s.toInt ∧ s.toInt ≤ 3) (h3 : k.toInt = 3 → 0 ≤ v.toInt ∧ v.toInt ≤ 14348906) : TKok (upd tk i k) (vp_updL tv i v) (upd (upd ts i z) i' s) m := by
  obtain rfl : i' = i := by omega
  intro j hj
  by_cases e : j = i'
  · subst e; rw [upd_eq, upd_eq, updL_eq]; exact ⟨h1.1, h1.2, h2, h3⟩
  · rw [upd_ne e, upd_ne e, upd_ne e, updL_ne e]; exact h j (by omega)
theorem tk_end {tk : Nat → Int32} {tv : Nat → Int64} {ts : Nat → Int32} {n : Int} {i : Nat} {k s : Int32} {v : Int64} (h : TKok tk tv ts n) (hi : (i : Int) = n) : TKok (upd tk i k) (vp_updL tv i v) (upd ts i s) n := by
  intro j hj
  have e : ¬ j = i := by omega
  rw [upd_ne e, upd_ne e, updL_ne e]; exact h j hj
/-- the reference's world: addresses by field, its fields and rows by number -/
def MW (cy : Nat → ClassId) (ad : Nat → Nat) (s0 : Int32) (s1 : Int32) (A2 : Nat → Int32) (s3 : Int32) (A4 : Nat → Int32) (A5 : Nat → Int32) (J6 : Nat → Int64) (A7 : Nat → Int32) (s8 : Int32) (s9 : Int32) (s10 : Int32) (A11 : Nat → Int32) (J12 : Nat → Int64) (A13 : Nat → Int32) (s14 : Int32) (s15 : Int32) (s16 : Int32) (s17 : Int32) (s18 : Int32) (s19 : Int32) (A20 : Nat → Int32) (A21 : Nat → Int32) (A22 : Nat → Int32) (A23 : Nat → Int32) (A24 : Nat → Int32) (A25 : Nat → Int32) (A26 : Nat → Int32) (A27 : Nat → Int32) (A28 : Nat → Int32) (s29 : Int32) (A30 : Nat → Int32) (A31 : Nat → Int32) (A32 : Nat → Int32) (s33 : Int32) (s34 : Int32) (s35 : Int32) (A36 : Nat → Int32) (A37 : Nat → Int32) (A38 : Nat → Int32) (A39 : Nat → Int32) (A40 : Nat → Int32) (A41 : Nat → Int32) (A42 : Nat → Int32) (A43 : Nat → Int32) (A44 : Nat → Int32) (A45 : Nat → Int32) (A46 : Nat → Int32) (s47 : Int32) (A48 : Nat → Int32) (s49 : Int32) (A50 : Nat → Int32) (A51 : Nat → Int32) (J52 : Nat → Int64) (J53 : Nat → Int64) (R54 : Nat → UInt64) (s55 : Int32) (s56 : Int32) (s57 : Int32) (A58 : Nat → Int32) (s59 : Int32) : va_W := [(ad 0, .inr (14, [.int s0, .int s1, .ref (ad 2), .int s3, .ref (ad 4), .ref (ad 5), .ref (ad 6), .ref (ad 7), .int s8, .int s9, .int s10, .ref (ad 11), .ref (ad 12), .ref (ad 13), .int s14, .int s15, .int s16, .int s17, .int s18, .int s19, .ref (ad 20), .ref (ad 21), .ref (ad 22), .ref (ad 23), .ref (ad 24), .ref (ad 25), .ref (ad 26), .ref (ad 27), .ref (ad 28), .int s29, .ref (ad 30), .ref (ad 31), .ref (ad 32), .int s33, .int s34, .int s35, .ref (ad 36), .ref (ad 37), .ref (ad 38), .ref (ad 39), .ref (ad 40), .ref (ad 41), .ref (ad 42), .ref (ad 43), .ref (ad 44), .ref (ad 45), .ref (ad 46), .int s47, .ref (ad 48), .int s49, .ref (ad 50), .ref (ad 51), .ref (ad 52), .ref (ad 53), .ref (ad 54), .int s55, .int s56, .int s57, .ref (ad 58), .int s59])), (ad 2, .inl (cy 0, 40, .inl A2)), (ad 4, .inl (cy 0, 42, .inl A4)), (ad 5, .inl (cy 0, 42, .inl A5)), (ad 6, .inl (cy 1, 42, .inr (.inl J6))), (ad 7, .inl (cy 0, 42, .inl A7)), (ad 11, .inl (cy 0, 3600, .inl A11)), (ad 12, .inl (cy 1, 3600, .inr (.inl J12))), (ad 13, .inl (cy 0, 40, .inl A13)), (ad 20, .inl (cy 0, 8, .inl A20)), (ad 21, .inl (cy 0, 8, .inl A21)), (ad 22, .inl (cy 0, 8, .inl A22)), (ad 23, .inl (cy 0, 8, .inl A23)), (ad 24, .inl (cy 0, 8, .inl A24)), (ad 25, .inl (cy 0, 8, .inl A25)), (ad 26, .inl (cy 2, 8, .inl A26)), (ad 27, .inl (cy 2, 8, .inl A27)), (ad 28, .inl (cy 2, 8, .inl A28)), (ad 30, .inl (cy 0, 48, .inl A30)), (ad 31, .inl (cy 0, 48, .inl A31)), (ad 32, .inl (cy 0, 48, .inl A32)), (ad 36, .inl (cy 0, 5, .inl A36)), (ad 37, .inl (cy 0, 5, .inl A37)), (ad 38, .inl (cy 0, 30, .inl A38)), (ad 39, .inl (cy 0, 30, .inl A39)), (ad 40, .inl (cy 0, 5, .inl A40)), (ad 41, .inl (cy 0, 30, .inl A41)), (ad 42, .inl (cy 0, 30, .inl A42)), (ad 43, .inl (cy 0, 30, .inl A43)), (ad 44, .inl (cy 0, 30, .inl A44)), (ad 45, .inl (cy 0, 30, .inl A45)), (ad 46, .inl (cy 2, 65, .inl A46)), (ad 48, .inl (cy 0, 30, .inl A48)), (ad 50, .inl (cy 0, 12, .inl A50)), (ad 51, .inl (cy 0, 980, .inl A51)), (ad 52, .inl (cy 1, 980, .inr (.inl J52))), (ad 53, .inl (cy 1, 980, .inr (.inl J53))), (ad 54, .inl (cy 3, 980, .inr (.inr (.inr (.inl R54))))), (ad 58, .inl (cy 0, 48, .inl A58))]
theorem freeAll {A0 : Nat → Prop} {ws : va_W} {H0 H : Heap} {locs : List Loc} (hD : va_D A0 ws) (hS : va_S A0 H0 H locs) (hA : ∀ q, H0.size ≤ q → A0 q) : ∀ q, va_A ws H.size q → A0 q := by
  intro q h
  rcases h with ⟨k, e, h⟩ | h
  · exact hD.2 k (q, e) h
  · exact hA q (Nat.le_trans hS.1 h)
theorem v_thrown_1 (s0 : Int32) (hpre : True) : s0 = s0 := by
  first | trivial | omega | (simp; done) | (simp; omega) | (simp_all; done) | (simp_all; omega)
theorem v_at_1 (s1 : Int32) (A2 : Nat → Int32) (k0 : Int32) (hpre : 0 ≤ s1.toInt ∧ s1.toInt ≤ 40 ∧ 0 ≤ k0.toInt) (c1 : s1.toInt ≤ k0.toInt) : (k0.toInt < s1.toInt ∧ (0 : Int32).toInt = (A2 k0.toNatClampNeg).toInt) ∨ (s1.toInt ≤ k0.toInt ∧ (0 : Int32).toInt = 0) := by
  have q0 : (0 : Int32).toInt = 0 := by decide +kernel
  first | trivial | omega | (simp; done) | (simp; omega) | (simp_all; done) | (simp_all; omega)
theorem v_at_2 (s1 : Int32) (k0 : Int32) (hpre : 0 ≤ s1.toInt ∧ s1.toInt ≤ 40 ∧ 0 ≤ k0.toInt) (c1 : k0.toInt < s1.toInt) : vp_in k0 40 := by
  exact vp_in_iff.mpr ⟨by  omega, by  omega⟩
theorem v_at_3 (s1 : Int32) (A2 : Nat → Int32) (k0 : Int32) (x2 : Int32) (hpre : 0 ≤ s1.toInt ∧ s1.toInt ≤ 40 ∧ 0 ≤ k0.toInt) (c1 : k0.toInt < s1.toInt) (ex2 : x2 = A2 k0.toNatClampNeg) : (k0.toInt < s1.toInt ∧ x2.toInt = (A2 k0.toNatClampNeg).toInt) ∨ (s1.toInt ≤ k0.toInt ∧ x2.toInt = 0) := by
  first | trivial | omega | (simp; done) | (simp; omega) | (simp_all; done) | (simp_all; omega)
theorem v_digit_1 (s1 : Int32) (k0 : Int32) (hpre : 0 ≤ s1.toInt ∧ s1.toInt ≤ 40 ∧ 0 ≤ k0.toInt) : 0 ≤ s1.toInt ∧ s1.toInt ≤ 40 ∧ 0 ≤ k0.toInt := by
  first | trivial | omega | (simp; done) | (simp; omega) | (simp_all; done) | (simp_all; omega)
theorem v_digit_2 (s1 : Int32) (A2 : Nat → Int32) (k0 : Int32) (r1 : Int32) (hpre : 0 ≤ s1.toInt ∧ s1.toInt ≤ 40 ∧ 0 ≤ k0.toInt) (hr1 : (k0.toInt < s1.toInt ∧ r1.toInt = (A2 k0.toNatClampNeg).toInt) ∨ (s1.toInt ≤ k0.toInt ∧ r1.toInt = 0)) (c2 : r1.toInt < (48)) : ((0 : Int32).toInt = 0 ∧ ¬ (k0.toInt < s1.toInt ∧ 48 ≤ (A2 k0.toNatClampNeg).toInt ∧ (A2 k0.toNatClampNeg).toInt ≤ 57)) ∨ ((0 : Int32).toInt = 1 ∧ (k0.toInt < s1.toInt ∧ 48 ≤ (A2 k0.toNatClampNeg).toInt ∧ (A2 k0.toNatClampNeg).toInt ≤ 57)) := by
  have q0 : (0 : Int32).toInt = 0 := by decide +kernel
  first | trivial | omega | (simp; done) | (simp; omega) | (simp_all; done) | (simp_all; omega)
theorem v_digit_3 (s1 : Int32) (A2 : Nat → Int32) (k0 : Int32) (r1 : Int32) (hpre : 0 ≤ s1.toInt ∧ s1.toInt ≤ 40 ∧ 0 ≤ k0.toInt) (hr1 : (k0.toInt < s1.toInt ∧ r1.toInt = (A2 k0.toNatClampNeg).toInt) ∨ (s1.toInt ≤ k0.toInt ∧ r1.toInt = 0)) (c2 : (48) ≤ r1.toInt) : 0 ≤ s1.toInt ∧ s1.toInt ≤ 40 ∧ 0 ≤ k0.toInt := by
  first | trivial | omega | (simp; done) | (simp; omega) | (simp_all; done) | (simp_all; omega)
theorem v_digit_4 (s1 : Int32) (A2 : Nat → Int32) (k0 : Int32) (r1 : Int32) (r3 : Int32) (hpre : 0 ≤ s1.toInt ∧ s1.toInt ≤ 40 ∧ 0 ≤ k0.toInt) (hr1 : (k0.toInt < s1.toInt ∧ r1.toInt = (A2 k0.toNatClampNeg).toInt) ∨ (s1.toInt ≤ k0.toInt ∧ r1.toInt = 0)) (c2 : (48) ≤ r1.toInt) (hr3 : (k0.toInt < s1.toInt ∧ r3.toInt = (A2 k0.toNatClampNeg).toInt) ∨ (s1.toInt ≤ k0.toInt ∧ r3.toInt = 0)) (c4 : (57) < r3.toInt) : ((0 : Int32).toInt = 0 ∧ ¬ (k0.toInt < s1.toInt ∧ 48 ≤ (A2 k0.toNatClampNeg).toInt ∧ (A2 k0.toNatClampNeg).toInt ≤ 57)) ∨ ((0 : Int32).toInt = 1 ∧ (k0.toInt < s1.toInt ∧ 48 ≤ (A2 k0.toNatClampNeg).toInt ∧ (A2 k0.toNatClampNeg).toInt ≤ 57)) := by
  have q0 : (0 : Int32).toInt = 0 := by decide +kernel
  first | trivial | omega | (simp; done) | (simp; omega) | (simp_all; done) | (simp_all; omega)
theorem v_digit_5 (s1 : Int32) (A2 : Nat → Int32) (k0 : Int32) (r1 : Int32) (r3 : Int32) (hpre : 0 ≤ s1.toInt ∧ s1.toInt ≤ 40 ∧ 0 ≤ k0.toInt) (hr1 : (k0.toInt < s1.toInt ∧ r1.toInt = (A2 k0.toNatClampNeg).toInt) ∨ (s1.toInt ≤ k0.toInt ∧ r1.toInt = 0)) (c2 : (48) ≤ r1.toInt) (hr3 : (k0.toInt < s1.toInt ∧ r3.toInt = (A2 k0.toNatClampNeg).toInt) ∨ (s1.toInt ≤ k0.toInt ∧ r3.toInt = 0)) (c4 : r3.toInt ≤ (57)) : ((1 : Int32).toInt = 0 ∧ ¬ (k0.toInt < s1.toInt ∧ 48 ≤ (A2 k0.toNatClampNeg).toInt ∧ (A2 k0.toNatClampNeg).toInt ≤ 57)) ∨ ((1 : Int32).toInt = 1 ∧ (k0.toInt < s1.toInt ∧ 48 ≤ (A2 k0.toNatClampNeg).toInt ∧ (A2 k0.toNatClampNeg).toInt ≤ 57)) := by
  have q1 : (1 : Int32).toInt = 1 := by decide +kernel
  first | trivial | omega | (simp; done) | (simp; omega) | (simp_all; done) | (simp_all; omega)
theorem v_lower_1 (s1 : Int32) (k0 : Int32) (hpre : 0 ≤ s1.toInt ∧ s1.toInt ≤ 40 ∧ 0 ≤ k0.toInt) : 0 ≤ s1.toInt ∧ s1.toInt ≤ 40 ∧ 0 ≤ k0.toInt := by
  first | trivial | omega | (simp; done) | (simp; omega) | (simp_all; done) | (simp_all; omega)
theorem v_lower_2 (s1 : Int32) (A2 : Nat → Int32) (k0 : Int32) (r1 : Int32) (hpre : 0 ≤ s1.toInt ∧ s1.toInt ≤ 40 ∧ 0 ≤ k0.toInt) (hr1 : (k0.toInt < s1.toInt ∧ r1.toInt = (A2 k0.toNatClampNeg).toInt) ∨ (s1.toInt ≤ k0.toInt ∧ r1.toInt = 0)) (c2 : r1.toInt < (97)) : ((0 : Int32).toInt = 0 ∧ ¬ (k0.toInt < s1.toInt ∧ 97 ≤ (A2 k0.toNatClampNeg).toInt ∧ (A2 k0.toNatClampNeg).toInt ≤ 122)) ∨ ((0 : Int32).toInt = 1 ∧ (k0.toInt < s1.toInt ∧ 97 ≤ (A2 k0.toNatClampNeg).toInt ∧ (A2 k0.toNatClampNeg).toInt ≤ 122)) := by
  have q0 : (0 : Int32).toInt = 0 := by decide +kernel
  first | trivial | omega | (simp; done) | (simp; omega) | (simp_all; done) | (simp_all; omega)
theorem v_lower_3 (s1 : Int32) (A2 : Nat → Int32) (k0 : Int32) (r1 : Int32) (hpre : 0 ≤ s1.toInt ∧ s1.toInt ≤ 40 ∧ 0 ≤ k0.toInt) (hr1 : (k0.toInt < s1.toInt ∧ r1.toInt = (A2 k0.toNatClampNeg).toInt) ∨ (s1.toInt ≤ k0.toInt ∧ r1.toInt = 0)) (c2 : (97) ≤ r1.toInt) : 0 ≤ s1.toInt ∧ s1.toInt ≤ 40 ∧ 0 ≤ k0.toInt := by
  first | trivial | omega | (simp; done) | (simp; omega) | (simp_all; done) | (simp_all; omega)
theorem v_lower_4 (s1 : Int32) (A2 : Nat → Int32) (k0 : Int32) (r1 : Int32) (r3 : Int32) (hpre : 0 ≤ s1.toInt ∧ s1.toInt ≤ 40 ∧ 0 ≤ k0.toInt) (hr1 : (k0.toInt < s1.toInt ∧ r1.toInt = (A2 k0.toNatClampNeg).toInt) ∨ (s1.toInt ≤ k0.toInt ∧ r1.toInt = 0)) (c2 : (97) ≤ r1.toInt) (hr3 : (k0.toInt < s1.toInt ∧ r3.toInt = (A2 k0.toNatClampNeg).toInt) ∨ (s1.toInt ≤ k0.toInt ∧ r3.toInt = 0)) (c4 : (122) < r3.toInt) : ((0 : Int32).toInt = 0 ∧ ¬ (k0.toInt < s1.toInt ∧ 97 ≤ (A2 k0.toNatClampNeg).toInt ∧ (A2 k0.toNatClampNeg).toInt ≤ 122)) ∨ ((0 : Int32).toInt = 1 ∧ (k0.toInt < s1.toInt ∧ 97 ≤ (A2 k0.toNatClampNeg).toInt ∧ (A2 k0.toNatClampNeg).toInt ≤ 122)) := by
  have q0 : (0 : Int32).toInt = 0 := by decide +kernel
  first | trivial | omega | (simp; done) | (simp; omega) | (simp_all; done) | (simp_all; omega)
theorem v_lower_5 (s1 : Int32) (A2 : Nat → Int32) (k0 : Int32) (r1 : Int32) (r3 : Int32) (hpre : 0 ≤ s1.toInt ∧ s1.toInt ≤ 40 ∧ 0 ≤ k0.toInt) (hr1 : (k0.toInt < s1.toInt ∧ r1.toInt = (A2 k0.toNatClampNeg).toInt) ∨ (s1.toInt ≤ k0.toInt ∧ r1.toInt = 0)) (c2 : (97) ≤ r1.toInt) (hr3 : (k0.toInt < s1.toInt ∧ r3.toInt = (A2 k0.toNatClampNeg).toInt) ∨ (s1.toInt ≤ k0.toInt ∧ r3.toInt = 0)) (c4 : r3.toInt ≤ (122)) : ((1 : Int32).toInt = 0 ∧ ¬ (k0.toInt < s1.toInt ∧ 97 ≤ (A2 k0.toNatClampNeg).toInt ∧ (A2 k0.toNatClampNeg).toInt ≤ 122)) ∨ ((1 : Int32).toInt = 1 ∧ (k0.toInt < s1.toInt ∧ 97 ≤ (A2 k0.toNatClampNeg).toInt ∧ (A2 k0.toNatClampNeg).toInt ≤ 122)) := by
  have q1 : (1 : Int32).toInt = 1 := by decide +kernel
  first | trivial | omega | (simp; done) | (simp; omega) | (simp_all; done) | (simp_all; omega)
theorem v_wrong_1 (s8 : Int32) (k0 : Int32) (hpre : True) (c1 : ¬ s8.toInt = (0)) : (s8.toInt = 0 → s8 = k0) ∧ (¬ s8.toInt = 0 → s8 = s8) := by
  first | trivial | omega | (simp; done) | (simp; omega) | (simp_all; done) | (simp_all; omega)
theorem v_wrong_2 (s8 : Int32) (k0 : Int32) (hpre : True) (c1 : s8.toInt = (0)) : (s8.toInt = 0 → k0 = k0) ∧ (¬ s8.toInt = 0 → k0 = s8) := by
  first | trivial | omega | (simp; done) | (simp; omega) | (simp_all; done) | (simp_all; omega)
theorem v_add_1 (s3 : Int32) (hpre : 0 ≤ s3.toInt ∧ s3.toInt ≤ 41) : vp_in s3 42 := by
  exact vp_in_iff.mpr ⟨by  omega, by  omega⟩
theorem v_add_2 (s3 : Int32) (hpre : 0 ≤ s3.toInt ∧ s3.toInt ≤ 41) : vp_in s3 42 := by
  exact vp_in_iff.mpr ⟨by  omega, by  omega⟩
theorem v_add_3 (s3 : Int32) (hpre : 0 ≤ s3.toInt ∧ s3.toInt ≤ 41) : vp_in s3 42 := by
  exact vp_in_iff.mpr ⟨by  omega, by  omega⟩
theorem v_add_4 (s3 : Int32) (hpre : 0 ≤ s3.toInt ∧ s3.toInt ≤ 41) : vp_in s3 42 := by
  exact vp_in_iff.mpr ⟨by  omega, by  omega⟩
theorem v_add_5 (s3 : Int32) (x1 : Int32) (hpre : 0 ≤ s3.toInt ∧ s3.toInt ≤ 41) (ex1 : x1 = s3 + 1) : x1.toInt = s3.toInt + (1) := by
  have z1 : (1 : Int32).toInt = 1 := by decide +kernel
  rw [ex1, z_add (by omega) (by omega)]; first | done | omega
theorem v_add_6 (s3 : Int32) (x1 : Int32) (hpre : 0 ≤ s3.toInt ∧ s3.toInt ≤ 41) (ex1 : x1 = s3 + 1) (tx1 : x1.toInt = s3.toInt + (1)) : x1.toInt = s3.toInt + 1 := by
  first | trivial | omega | (simp; done) | (simp; omega) | (simp_all; done) | (simp_all; omega)
theorem v_name_1 (s1 : Int32) (A2 : Nat → Int32) (s3 : Int32) (A4 : Nat → Int32) (J6 : Nat → Int64) (A7 : Nat → Int32) (k0 : Int32) (hpre : 0 ≤ s1.toInt ∧ s1.toInt ≤ 40 ∧ 0 ≤ s3.toInt ∧ s3.toInt ≤ k0.toInt ∧ k0.toInt < s1.toInt ∧ TKok A4 J6 A7 s3.toInt ∧ (k0.toInt < s1.toInt ∧ 97 ≤ (A2 k0.toNatClampNeg).toInt ∧ (A2 k0.toNatClampNeg).toInt ≤ 122)) : k0.toInt ≤ k0.toInt ∧ k0.toInt ≤ s1.toInt ∧ 0 ≤ (0 : Int32).toInt ∧ ((k0.toInt - k0.toInt = 0 ∧ (0 : Int32).toInt = 0) ∨ (k0.toInt - k0.toInt = 1 ∧ (0 : Int32).toInt ≤ 26) ∨ (k0.toInt - k0.toInt = 2 ∧ (0 : Int32).toInt ≤ 728) ∨ (k0.toInt - k0.toInt = 3 ∧ (0 : Int32).toInt ≤ 19682) ∨ (k0.toInt - k0.toInt = 4 ∧ (0 : Int32).toInt ≤ 531440) ∨ (k0.toInt - k0.toInt = 5 ∧ (0 : Int32).toInt ≤ 14348906) ∨ (6 ≤ k0.toInt - k0.toInt ∧ (0 : Int32).toInt ≤ 387420488)) := by
  have q0 : (0 : Int32).toInt = 0 := by decide +kernel
  first | trivial | omega | (simp; done) | (simp; omega) | (simp_all; done) | (simp_all; omega)
theorem v_name_2 (s1 : Int32) (A2 : Nat → Int32) (s3 : Int32) (A4 : Nat → Int32) (J6 : Nat → Int64) (A7 : Nat → Int32) (k0 : Int32) (y1 : Int32) (y2 : Int64) (hpre : 0 ≤ s1.toInt ∧ s1.toInt ≤ 40 ∧ 0 ≤ s3.toInt ∧ s3.toInt ≤ k0.toInt ∧ k0.toInt < s1.toInt ∧ TKok A4 J6 A7 s3.toInt ∧ (k0.toInt < s1.toInt ∧ 97 ≤ (A2 k0.toNatClampNeg).toInt ∧ (A2 k0.toNatClampNeg).toInt ≤ 122)) (hi4 : k0.toInt ≤ y1.toInt ∧ y1.toInt ≤ s1.toInt ∧ 0 ≤ y2.toInt ∧ ((y1.toInt - k0.toInt = 0 ∧ y2.toInt = 0) ∨ (y1.toInt - k0.toInt = 1 ∧ y2.toInt ≤ 26) ∨ (y1.toInt - k0.toInt = 2 ∧ y2.toInt ≤ 728) ∨ (y1.toInt - k0.toInt = 3 ∧ y2.toInt ≤ 19682) ∨ (y1.toInt - k0.toInt = 4 ∧ y2.toInt ≤ 531440) ∨ (y1.toInt - k0.toInt = 5 ∧ y2.toInt ≤ 14348906) ∨ (6 ≤ y1.toInt - k0.toInt ∧ y2.toInt ≤ 387420488))) : 0 ≤ s1.toInt ∧ s1.toInt ≤ 40 ∧ 0 ≤ y1.toInt := by
  first | trivial | omega | (simp; done) | (simp; omega) | (simp_all; done) | (simp_all; omega)
theorem v_name_3 (s1 : Int32) (A2 : Nat → Int32) (s3 : Int32) (A4 : Nat → Int32) (J6 : Nat → Int64) (A7 : Nat → Int32) (k0 : Int32) (y1 : Int32) (y2 : Int64) (r3 : Int32) (x5 : Int32) (hpre : 0 ≤ s1.toInt ∧ s1.toInt ≤ 40 ∧ 0 ≤ s3.toInt ∧ s3.toInt ≤ k0.toInt ∧ k0.toInt < s1.toInt ∧ TKok A4 J6 A7 s3.toInt ∧ (k0.toInt < s1.toInt ∧ 97 ≤ (A2 k0.toNatClampNeg).toInt ∧ (A2 k0.toNatClampNeg).toInt ≤ 122)) (hi4 : k0.toInt ≤ y1.toInt ∧ y1.toInt ≤ s1.toInt ∧ 0 ≤ y2.toInt ∧ ((y1.toInt - k0.toInt = 0 ∧ y2.toInt = 0) ∨ (y1.toInt - k0.toInt = 1 ∧ y2.toInt ≤ 26) ∨ (y1.toInt - k0.toInt = 2 ∧ y2.toInt ≤ 728) ∨ (y1.toInt - k0.toInt = 3 ∧ y2.toInt ≤ 19682) ∨ (y1.toInt - k0.toInt = 4 ∧ y2.toInt ≤ 531440) ∨ (y1.toInt - k0.toInt = 5 ∧ y2.toInt ≤ 14348906) ∨ (6 ≤ y1.toInt - k0.toInt ∧ y2.toInt ≤ 387420488))) (hr3 : (r3.toInt = 0 ∧ ¬ (y1.toInt < s1.toInt ∧ 97 ≤ (A2 y1.toNatClampNeg).toInt ∧ (A2 y1.toNatClampNeg).toInt ≤ 122)) ∨ (r3.toInt = 1 ∧ (y1.toInt < s1.toInt ∧ 97 ≤ (A2 y1.toNatClampNeg).toInt ∧ (A2 y1.toNatClampNeg).toInt ≤ 122))) (c4 : r3.toInt = (0)) (ex5 : x5 = y1 - k0) : x5.toInt = y1.toInt - k0.toInt := by
  rw [ex5, z_sub (by omega) (by omega)]; first | done | omega
theorem v_name_4 (s1 : Int32) (A2 : Nat → Int32) (s3 : Int32) (A4 : Nat → Int32) (J6 : Nat → Int64) (A7 : Nat → Int32) (k0 : Int32) (y1 : Int32) (y2 : Int64) (r3 : Int32) (x5 : Int32) (hpre : 0 ≤ s1.toInt ∧ s1.toInt ≤ 40 ∧ 0 ≤ s3.toInt ∧ s3.toInt ≤ k0.toInt ∧ k0.toInt < s1.toInt ∧ TKok A4 J6 A7 s3.toInt ∧ (k0.toInt < s1.toInt ∧ 97 ≤ (A2 k0.toNatClampNeg).toInt ∧ (A2 k0.toNatClampNeg).toInt ≤ 122)) (hi4 : k0.toInt ≤ y1.toInt ∧ y1.toInt ≤ s1.toInt ∧ 0 ≤ y2.toInt ∧ ((y1.toInt - k0.toInt = 0 ∧ y2.toInt = 0) ∨ (y1.toInt - k0.toInt = 1 ∧ y2.toInt ≤ 26) ∨ (y1.toInt - k0.toInt = 2 ∧ y2.toInt ≤ 728) ∨ (y1.toInt - k0.toInt = 3 ∧ y2.toInt ≤ 19682) ∨ (y1.toInt - k0.toInt = 4 ∧ y2.toInt ≤ 531440) ∨ (y1.toInt - k0.toInt = 5 ∧ y2.toInt ≤ 14348906) ∨ (6 ≤ y1.toInt - k0.toInt ∧ y2.toInt ≤ 387420488))) (hr3 : (r3.toInt = 0 ∧ ¬ (y1.toInt < s1.toInt ∧ 97 ≤ (A2 y1.toNatClampNeg).toInt ∧ (A2 y1.toNatClampNeg).toInt ≤ 122)) ∨ (r3.toInt = 1 ∧ (y1.toInt < s1.toInt ∧ 97 ≤ (A2 y1.toNatClampNeg).toInt ∧ (A2 y1.toNatClampNeg).toInt ≤ 122))) (c4 : r3.toInt = (0)) (ex5 : x5 = y1 - k0) (tx5 : x5.toInt = y1.toInt - k0.toInt) (c6 : x5.toInt ≤ (5)) : 0 ≤ s3.toInt ∧ s3.toInt ≤ 41 := by
  first | trivial | omega | (simp; done) | (simp; omega) | (simp_all; done) | (simp_all; omega)
theorem v_name_5 (s1 : Int32) (A2 : Nat → Int32) (s3 : Int32) (A4 : Nat → Int32) (J6 : Nat → Int64) (A7 : Nat → Int32) (k0 : Int32) (y1 : Int32) (y2 : Int64) (r3 : Int32) (x5 : Int32) (n8 : Int32) (hpre : 0 ≤ s1.toInt ∧ s1.toInt ≤ 40 ∧ 0 ≤ s3.toInt ∧ s3.toInt ≤ k0.toInt ∧ k0.toInt < s1.toInt ∧ TKok A4 J6 A7 s3.toInt ∧ (k0.toInt < s1.toInt ∧ 97 ≤ (A2 k0.toNatClampNeg).toInt ∧ (A2 k0.toNatClampNeg).toInt ≤ 122)) (hi4 : k0.toInt ≤ y1.toInt ∧ y1.toInt ≤ s1.toInt ∧ 0 ≤ y2.toInt ∧ ((y1.toInt - k0.toInt = 0 ∧ y2.toInt = 0) ∨ (y1.toInt - k0.toInt = 1 ∧ y2.toInt ≤ 26) ∨ (y1.toInt - k0.toInt = 2 ∧ y2.toInt ≤ 728) ∨ (y1.toInt - k0.toInt = 3 ∧ y2.toInt ≤ 19682) ∨ (y1.toInt - k0.toInt = 4 ∧ y2.toInt ≤ 531440) ∨ (y1.toInt - k0.toInt = 5 ∧ y2.toInt ≤ 14348906) ∨ (6 ≤ y1.toInt - k0.toInt ∧ y2.toInt ≤ 387420488))) (hr3 : (r3.toInt = 0 ∧ ¬ (y1.toInt < s1.toInt ∧ 97 ≤ (A2 y1.toNatClampNeg).toInt ∧ (A2 y1.toNatClampNeg).toInt ≤ 122)) ∨ (r3.toInt = 1 ∧ (y1.toInt < s1.toInt ∧ 97 ≤ (A2 y1.toNatClampNeg).toInt ∧ (A2 y1.toNatClampNeg).toInt ≤ 122))) (c4 : r3.toInt = (0)) (ex5 : x5 = y1 - k0) (tx5 : x5.toInt = y1.toInt - k0.toInt) (c6 : x5.toInt ≤ (5)) (hr7 : n8.toInt = s3.toInt + 1) : k0.toInt < y1.toInt ∧ y1.toInt ≤ s1.toInt ∧ 0 ≤ n8.toInt ∧ n8.toInt ≤ y1.toInt ∧ TKok (upd A4 s3.toNatClampNeg (3 : Int32)) (vp_updL J6 s3.toNatClampNeg y2) (upd A7 s3.toNatClampNeg 0) n8.toInt := by
  have q3 : (3 : Int32).toInt = 3 := by decide +kernel
  have hy : y1.toInt = k0.toInt → y1 = k0 := fun h => Int32.toInt_inj.mp h
  have hc : y1.toInt ≠ k0.toInt := by
    intro h; have h := hy h; subst h; omega
  have hz := hpre.2.2.2.2.2.1
  and_intros <;> first | omega | exact hz | exact tk_add hz (by omega) (clampZ (by omega)) (by omega) (by omega) (by omega)
theorem v_name_6 (s1 : Int32) (A2 : Nat → Int32) (s3 : Int32) (A4 : Nat → Int32) (J6 : Nat → Int64) (A7 : Nat → Int32) (k0 : Int32) (y1 : Int32) (y2 : Int64) (r3 : Int32) (x5 : Int32) (hpre : 0 ≤ s1.toInt ∧ s1.toInt ≤ 40 ∧ 0 ≤ s3.toInt ∧ s3.toInt ≤ k0.toInt ∧ k0.toInt < s1.toInt ∧ TKok A4 J6 A7 s3.toInt ∧ (k0.toInt < s1.toInt ∧ 97 ≤ (A2 k0.toNatClampNeg).toInt ∧ (A2 k0.toNatClampNeg).toInt ≤ 122)) (hi4 : k0.toInt ≤ y1.toInt ∧ y1.toInt ≤ s1.toInt ∧ 0 ≤ y2.toInt ∧ ((y1.toInt - k0.toInt = 0 ∧ y2.toInt = 0) ∨ (y1.toInt - k0.toInt = 1 ∧ y2.toInt ≤ 26) ∨ (y1.toInt - k0.toInt = 2 ∧ y2.toInt ≤ 728) ∨ (y1.toInt - k0.toInt = 3 ∧ y2.toInt ≤ 19682) ∨ (y1.toInt - k0.toInt = 4 ∧ y2.toInt ≤ 531440) ∨ (y1.toInt - k0.toInt = 5 ∧ y2.toInt ≤ 14348906) ∨ (6 ≤ y1.toInt - k0.toInt ∧ y2.toInt ≤ 387420488))) (hr3 : (r3.toInt = 0 ∧ ¬ (y1.toInt < s1.toInt ∧ 97 ≤ (A2 y1.toNatClampNeg).toInt ∧ (A2 y1.toNatClampNeg).toInt ≤ 122)) ∨ (r3.toInt = 1 ∧ (y1.toInt < s1.toInt ∧ 97 ≤ (A2 y1.toNatClampNeg).toInt ∧ (A2 y1.toNatClampNeg).toInt ≤ 122))) (c4 : r3.toInt = (0)) (ex5 : x5 = y1 - k0) (tx5 : x5.toInt = y1.toInt - k0.toInt) (c6 : (5) < x5.toInt) : True := by
  first | trivial | omega | (simp; done) | (simp; omega) | (simp_all; done) | (simp_all; omega)
theorem v_name_7 (s1 : Int32) (A2 : Nat → Int32) (s3 : Int32) (A4 : Nat → Int32) (J6 : Nat → Int64) (A7 : Nat → Int32) (s8 : Int32) (k0 : Int32) (y1 : Int32) (y2 : Int64) (r3 : Int32) (x5 : Int32) (n10 : Int32) (hpre : 0 ≤ s1.toInt ∧ s1.toInt ≤ 40 ∧ 0 ≤ s3.toInt ∧ s3.toInt ≤ k0.toInt ∧ k0.toInt < s1.toInt ∧ TKok A4 J6 A7 s3.toInt ∧ (k0.toInt < s1.toInt ∧ 97 ≤ (A2 k0.toNatClampNeg).toInt ∧ (A2 k0.toNatClampNeg).toInt ≤ 122)) (hi4 : k0.toInt ≤ y1.toInt ∧ y1.toInt ≤ s1.toInt ∧ 0 ≤ y2.toInt ∧ ((y1.toInt - k0.toInt = 0 ∧ y2.toInt = 0) ∨ (y1.toInt - k0.toInt = 1 ∧ y2.toInt ≤ 26) ∨ (y1.toInt - k0.toInt = 2 ∧ y2.toInt ≤ 728) ∨ (y1.toInt - k0.toInt = 3 ∧ y2.toInt ≤ 19682) ∨ (y1.toInt - k0.toInt = 4 ∧ y2.toInt ≤ 531440) ∨ (y1.toInt - k0.toInt = 5 ∧ y2.toInt ≤ 14348906) ∨ (6 ≤ y1.toInt - k0.toInt ∧ y2.toInt ≤ 387420488))) (hr3 : (r3.toInt = 0 ∧ ¬ (y1.toInt < s1.toInt ∧ 97 ≤ (A2 y1.toNatClampNeg).toInt ∧ (A2 y1.toNatClampNeg).toInt ≤ 122)) ∨ (r3.toInt = 1 ∧ (y1.toInt < s1.toInt ∧ 97 ≤ (A2 y1.toNatClampNeg).toInt ∧ (A2 y1.toNatClampNeg).toInt ≤ 122))) (c4 : r3.toInt = (0)) (ex5 : x5 = y1 - k0) (tx5 : x5.toInt = y1.toInt - k0.toInt) (c6 : (5) < x5.toInt) (hr9 : (s8.toInt = 0 → n10 = (1 : Int32)) ∧ (¬ s8.toInt = 0 → n10 = s8)) : k0.toInt < y1.toInt ∧ y1.toInt ≤ s1.toInt ∧ 0 ≤ s3.toInt ∧ s3.toInt ≤ y1.toInt ∧ TKok A4 J6 A7 s3.toInt := by
  have q1 : (1 : Int32).toInt = 1 := by decide +kernel
  have hy : y1.toInt = k0.toInt → y1 = k0 := fun h => Int32.toInt_inj.mp h
  have hc : y1.toInt ≠ k0.toInt := by
    intro h; have h := hy h; subst h; omega
  have hz := hpre.2.2.2.2.2.1
  and_intros <;> first | omega | exact hz | exact tk_add hz (by omega) (clampZ (by omega)) (by omega) (by omega) (by omega)
theorem v_name_8 (s1 : Int32) (A2 : Nat → Int32) (s3 : Int32) (A4 : Nat → Int32) (J6 : Nat → Int64) (A7 : Nat → Int32) (k0 : Int32) (y1 : Int32) (y2 : Int64) (r3 : Int32) (x12 : Int32) (hpre : 0 ≤ s1.toInt ∧ s1.toInt ≤ 40 ∧ 0 ≤ s3.toInt ∧ s3.toInt ≤ k0.toInt ∧ k0.toInt < s1.toInt ∧ TKok A4 J6 A7 s3.toInt ∧ (k0.toInt < s1.toInt ∧ 97 ≤ (A2 k0.toNatClampNeg).toInt ∧ (A2 k0.toNatClampNeg).toInt ≤ 122)) (hi4 : k0.toInt ≤ y1.toInt ∧ y1.toInt ≤ s1.toInt ∧ 0 ≤ y2.toInt ∧ ((y1.toInt - k0.toInt = 0 ∧ y2.toInt = 0) ∨ (y1.toInt - k0.toInt = 1 ∧ y2.toInt ≤ 26) ∨ (y1.toInt - k0.toInt = 2 ∧ y2.toInt ≤ 728) ∨ (y1.toInt - k0.toInt = 3 ∧ y2.toInt ≤ 19682) ∨ (y1.toInt - k0.toInt = 4 ∧ y2.toInt ≤ 531440) ∨ (y1.toInt - k0.toInt = 5 ∧ y2.toInt ≤ 14348906) ∨ (6 ≤ y1.toInt - k0.toInt ∧ y2.toInt ≤ 387420488))) (hr3 : (r3.toInt = 0 ∧ ¬ (y1.toInt < s1.toInt ∧ 97 ≤ (A2 y1.toNatClampNeg).toInt ∧ (A2 y1.toNatClampNeg).toInt ≤ 122)) ∨ (r3.toInt = 1 ∧ (y1.toInt < s1.toInt ∧ 97 ≤ (A2 y1.toNatClampNeg).toInt ∧ (A2 y1.toNatClampNeg).toInt ≤ 122))) (c4 : ¬ r3.toInt = (0)) (ex12 : x12 = y1 - k0) : x12.toInt = y1.toInt - k0.toInt := by
  rw [ex12, z_sub (by omega) (by omega)]; first | done | omega
theorem v_name_9 (s1 : Int32) (A2 : Nat → Int32) (s3 : Int32) (A4 : Nat → Int32) (J6 : Nat → Int64) (A7 : Nat → Int32) (k0 : Int32) (y1 : Int32) (y2 : Int64) (r3 : Int32) (x12 : Int32) (x14 : Int32) (hpre : 0 ≤ s1.toInt ∧ s1.toInt ≤ 40 ∧ 0 ≤ s3.toInt ∧ s3.toInt ≤ k0.toInt ∧ k0.toInt < s1.toInt ∧ TKok A4 J6 A7 s3.toInt ∧ (k0.toInt < s1.toInt ∧ 97 ≤ (A2 k0.toNatClampNeg).toInt ∧ (A2 k0.toNatClampNeg).toInt ≤ 122)) (hi4 : k0.toInt ≤ y1.toInt ∧ y1.toInt ≤ s1.toInt ∧ 0 ≤ y2.toInt ∧ ((y1.toInt - k0.toInt = 0 ∧ y2.toInt = 0) ∨ (y1.toInt - k0.toInt = 1 ∧ y2.toInt ≤ 26) ∨ (y1.toInt - k0.toInt = 2 ∧ y2.toInt ≤ 728) ∨ (y1.toInt - k0.toInt = 3 ∧ y2.toInt ≤ 19682) ∨ (y1.toInt - k0.toInt = 4 ∧ y2.toInt ≤ 531440) ∨ (y1.toInt - k0.toInt = 5 ∧ y2.toInt ≤ 14348906) ∨ (6 ≤ y1.toInt - k0.toInt ∧ y2.toInt ≤ 387420488))) (hr3 : (r3.toInt = 0 ∧ ¬ (y1.toInt < s1.toInt ∧ 97 ≤ (A2 y1.toNatClampNeg).toInt ∧ (A2 y1.toNatClampNeg).toInt ≤ 122)) ∨ (r3.toInt = 1 ∧ (y1.toInt < s1.toInt ∧ 97 ≤ (A2 y1.toNatClampNeg).toInt ∧ (A2 y1.toNatClampNeg).toInt ≤ 122))) (c4 : ¬ r3.toInt = (0)) (ex12 : x12 = y1 - k0) (tx12 : x12.toInt = y1.toInt - k0.toInt) (c13 : (6) ≤ x12.toInt) (ex14 : x14 = y1 + 1) : x14.toInt = y1.toInt + (1) := by
  have z9 : (1 : Int32).toInt = 1 := by decide +kernel
  rw [ex14, z_add (by omega) (by omega)]; first | done | omega
theorem v_name_10 (s1 : Int32) (A2 : Nat → Int32) (s3 : Int32) (A4 : Nat → Int32) (J6 : Nat → Int64) (A7 : Nat → Int32) (k0 : Int32) (y1 : Int32) (y2 : Int64) (r3 : Int32) (x12 : Int32) (x14 : Int32) (hpre : 0 ≤ s1.toInt ∧ s1.toInt ≤ 40 ∧ 0 ≤ s3.toInt ∧ s3.toInt ≤ k0.toInt ∧ k0.toInt < s1.toInt ∧ TKok A4 J6 A7 s3.toInt ∧ (k0.toInt < s1.toInt ∧ 97 ≤ (A2 k0.toNatClampNeg).toInt ∧ (A2 k0.toNatClampNeg).toInt ≤ 122)) (hi4 : k0.toInt ≤ y1.toInt ∧ y1.toInt ≤ s1.toInt ∧ 0 ≤ y2.toInt ∧ ((y1.toInt - k0.toInt = 0 ∧ y2.toInt = 0) ∨ (y1.toInt - k0.toInt = 1 ∧ y2.toInt ≤ 26) ∨ (y1.toInt - k0.toInt = 2 ∧ y2.toInt ≤ 728) ∨ (y1.toInt - k0.toInt = 3 ∧ y2.toInt ≤ 19682) ∨ (y1.toInt - k0.toInt = 4 ∧ y2.toInt ≤ 531440) ∨ (y1.toInt - k0.toInt = 5 ∧ y2.toInt ≤ 14348906) ∨ (6 ≤ y1.toInt - k0.toInt ∧ y2.toInt ≤ 387420488))) (hr3 : (r3.toInt = 0 ∧ ¬ (y1.toInt < s1.toInt ∧ 97 ≤ (A2 y1.toNatClampNeg).toInt ∧ (A2 y1.toNatClampNeg).toInt ≤ 122)) ∨ (r3.toInt = 1 ∧ (y1.toInt < s1.toInt ∧ 97 ≤ (A2 y1.toNatClampNeg).toInt ∧ (A2 y1.toNatClampNeg).toInt ≤ 122))) (c4 : ¬ r3.toInt = (0)) (ex12 : x12 = y1 - k0) (tx12 : x12.toInt = y1.toInt - k0.toInt) (c13 : (6) ≤ x12.toInt) (ex14 : x14 = y1 + 1) (tx14 : x14.toInt = y1.toInt + (1)) : k0.toInt ≤ x14.toInt ∧ x14.toInt ≤ s1.toInt ∧ 0 ≤ y2.toInt ∧ ((x14.toInt - k0.toInt = 0 ∧ y2.toInt = 0) ∨ (x14.toInt - k0.toInt = 1 ∧ y2.toInt ≤ 26) ∨ (x14.toInt - k0.toInt = 2 ∧ y2.toInt ≤ 728) ∨ (x14.toInt - k0.toInt = 3 ∧ y2.toInt ≤ 19682) ∨ (x14.toInt - k0.toInt = 4 ∧ y2.toInt ≤ 531440) ∨ (x14.toInt - k0.toInt = 5 ∧ y2.toInt ≤ 14348906) ∨ (6 ≤ x14.toInt - k0.toInt ∧ y2.toInt ≤ 387420488)) := by
  first | trivial | omega | (simp; done) | (simp; omega) | (simp_all; done) | (simp_all; omega)
theorem v_name_11 (s1 : Int32) (A2 : Nat → Int32) (s3 : Int32) (A4 : Nat → Int32) (J6 : Nat → Int64) (A7 : Nat → Int32) (k0 : Int32) (y1 : Int32) (y2 : Int64) (r3 : Int32) (x12 : Int32) (x14 : Int32) (hpre : 0 ≤ s1.toInt ∧ s1.toInt ≤ 40 ∧ 0 ≤ s3.toInt ∧ s3.toInt ≤ k0.toInt ∧ k0.toInt < s1.toInt ∧ TKok A4 J6 A7 s3.toInt ∧ (k0.toInt < s1.toInt ∧ 97 ≤ (A2 k0.toNatClampNeg).toInt ∧ (A2 k0.toNatClampNeg).toInt ≤ 122)) (hi4 : k0.toInt ≤ y1.toInt ∧ y1.toInt ≤ s1.toInt ∧ 0 ≤ y2.toInt ∧ ((y1.toInt - k0.toInt = 0 ∧ y2.toInt = 0) ∨ (y1.toInt - k0.toInt = 1 ∧ y2.toInt ≤ 26) ∨ (y1.toInt - k0.toInt = 2 ∧ y2.toInt ≤ 728) ∨ (y1.toInt - k0.toInt = 3 ∧ y2.toInt ≤ 19682) ∨ (y1.toInt - k0.toInt = 4 ∧ y2.toInt ≤ 531440) ∨ (y1.toInt - k0.toInt = 5 ∧ y2.toInt ≤ 14348906) ∨ (6 ≤ y1.toInt - k0.toInt ∧ y2.toInt ≤ 387420488))) (hr3 : (r3.toInt = 0 ∧ ¬ (y1.toInt < s1.toInt ∧ 97 ≤ (A2 y1.toNatClampNeg).toInt ∧ (A2 y1.toNatClampNeg).toInt ≤ 122)) ∨ (r3.toInt = 1 ∧ (y1.toInt < s1.toInt ∧ 97 ≤ (A2 y1.toNatClampNeg).toInt ∧ (A2 y1.toNatClampNeg).toInt ≤ 122))) (c4 : ¬ r3.toInt = (0)) (ex12 : x12 = y1 - k0) (tx12 : x12.toInt = y1.toInt - k0.toInt) (c13 : (6) ≤ x12.toInt) (ex14 : x14 = y1 + 1) (tx14 : x14.toInt = y1.toInt + (1)) : (s1.toInt - x14.toInt).toNat < (s1.toInt - y1.toInt).toNat := by
  first | trivial | omega | (simp; done) | (simp; omega) | (simp_all; done) | (simp_all; omega)
theorem v_name_12 (s1 : Int32) (A2 : Nat → Int32) (s3 : Int32) (A4 : Nat → Int32) (J6 : Nat → Int64) (A7 : Nat → Int32) (k0 : Int32) (y1 : Int32) (y2 : Int64) (r3 : Int32) (x12 : Int32) (x15 : Int64) (hpre : 0 ≤ s1.toInt ∧ s1.toInt ≤ 40 ∧ 0 ≤ s3.toInt ∧ s3.toInt ≤ k0.toInt ∧ k0.toInt < s1.toInt ∧ TKok A4 J6 A7 s3.toInt ∧ (k0.toInt < s1.toInt ∧ 97 ≤ (A2 k0.toNatClampNeg).toInt ∧ (A2 k0.toNatClampNeg).toInt ≤ 122)) (hi4 : k0.toInt ≤ y1.toInt ∧ y1.toInt ≤ s1.toInt ∧ 0 ≤ y2.toInt ∧ ((y1.toInt - k0.toInt = 0 ∧ y2.toInt = 0) ∨ (y1.toInt - k0.toInt = 1 ∧ y2.toInt ≤ 26) ∨ (y1.toInt - k0.toInt = 2 ∧ y2.toInt ≤ 728) ∨ (y1.toInt - k0.toInt = 3 ∧ y2.toInt ≤ 19682) ∨ (y1.toInt - k0.toInt = 4 ∧ y2.toInt ≤ 531440) ∨ (y1.toInt - k0.toInt = 5 ∧ y2.toInt ≤ 14348906) ∨ (6 ≤ y1.toInt - k0.toInt ∧ y2.toInt ≤ 387420488))) (hr3 : (r3.toInt = 0 ∧ ¬ (y1.toInt < s1.toInt ∧ 97 ≤ (A2 y1.toNatClampNeg).toInt ∧ (A2 y1.toNatClampNeg).toInt ≤ 122)) ∨ (r3.toInt = 1 ∧ (y1.toInt < s1.toInt ∧ 97 ≤ (A2 y1.toNatClampNeg).toInt ∧ (A2 y1.toNatClampNeg).toInt ≤ 122))) (c4 : ¬ r3.toInt = (0)) (ex12 : x12 = y1 - k0) (tx12 : x12.toInt = y1.toInt - k0.toInt) (c13 : x12.toInt < (6)) (ex15 : x15 = y2 * 27) : x15.toInt = y2.toInt * 27 := by
  have w1 : (27 : Int64).toInt = 27 := by decide +kernel
  rw [ex15, Int64.mul_comm, zl_mul (c := 27) (by omega) (by omega) (by omega)]; omega
theorem v_name_13 (s1 : Int32) (A2 : Nat → Int32) (s3 : Int32) (A4 : Nat → Int32) (J6 : Nat → Int64) (A7 : Nat → Int32) (k0 : Int32) (y1 : Int32) (y2 : Int64) (r3 : Int32) (x12 : Int32) (x15 : Int64) (hpre : 0 ≤ s1.toInt ∧ s1.toInt ≤ 40 ∧ 0 ≤ s3.toInt ∧ s3.toInt ≤ k0.toInt ∧ k0.toInt < s1.toInt ∧ TKok A4 J6 A7 s3.toInt ∧ (k0.toInt < s1.toInt ∧ 97 ≤ (A2 k0.toNatClampNeg).toInt ∧ (A2 k0.toNatClampNeg).toInt ≤ 122)) (hi4 : k0.toInt ≤ y1.toInt ∧ y1.toInt ≤ s1.toInt ∧ 0 ≤ y2.toInt ∧ ((y1.toInt - k0.toInt = 0 ∧ y2.toInt = 0) ∨ (y1.toInt - k0.toInt = 1 ∧ y2.toInt ≤ 26) ∨ (y1.toInt - k0.toInt = 2 ∧ y2.toInt ≤ 728) ∨ (y1.toInt - k0.toInt = 3 ∧ y2.toInt ≤ 19682) ∨ (y1.toInt - k0.toInt = 4 ∧ y2.toInt ≤ 531440) ∨ (y1.toInt - k0.toInt = 5 ∧ y2.toInt ≤ 14348906) ∨ (6 ≤ y1.toInt - k0.toInt ∧ y2.toInt ≤ 387420488))) (hr3 : (r3.toInt = 0 ∧ ¬ (y1.toInt < s1.toInt ∧ 97 ≤ (A2 y1.toNatClampNeg).toInt ∧ (A2 y1.toNatClampNeg).toInt ≤ 122)) ∨ (r3.toInt = 1 ∧ (y1.toInt < s1.toInt ∧ 97 ≤ (A2 y1.toNatClampNeg).toInt ∧ (A2 y1.toNatClampNeg).toInt ≤ 122))) (c4 : ¬ r3.toInt = (0)) (ex12 : x12 = y1 - k0) (tx12 : x12.toInt = y1.toInt - k0.toInt) (c13 : x12.toInt < (6)) (ex15 : x15 = y2 * 27) (tx15 : x15.toInt = y2.toInt * 27) : 0 ≤ s1.toInt ∧ s1.toInt ≤ 40 ∧ 0 ≤ y1.toInt := by
  first | trivial | omega | (simp; done) | (simp; omega) | (simp_all; done) | (simp_all; omega)
theorem v_name_14 (s1 : Int32) (A2 : Nat → Int32) (s3 : Int32) (A4 : Nat → Int32) (J6 : Nat → Int64) (A7 : Nat → Int32) (k0 : Int32) (y1 : Int32) (y2 : Int64) (r3 : Int32) (x12 : Int32) (x15 : Int64) (r16 : Int32) (x17 : Int64) (x18 : Int64) (hpre : 0 ≤ s1.toInt ∧ s1.toInt ≤ 40 ∧ 0 ≤ s3.toInt ∧ s3.toInt ≤ k0.toInt ∧ k0.toInt < s1.toInt ∧ TKok A4 J6 A7 s3.toInt ∧ (k0.toInt < s1.toInt ∧ 97 ≤ (A2 k0.toNatClampNeg).toInt ∧ (A2 k0.toNatClampNeg).toInt ≤ 122)) (hi4 : k0.toInt ≤ y1.toInt ∧ y1.toInt ≤ s1.toInt ∧ 0 ≤ y2.toInt ∧ ((y1.toInt - k0.toInt = 0 ∧ y2.toInt = 0) ∨ (y1.toInt - k0.toInt = 1 ∧ y2.toInt ≤ 26) ∨ (y1.toInt - k0.toInt = 2 ∧ y2.toInt ≤ 728) ∨ (y1.toInt - k0.toInt = 3 ∧ y2.toInt ≤ 19682) ∨ (y1.toInt - k0.toInt = 4 ∧ y2.toInt ≤ 531440) ∨ (y1.toInt - k0.toInt = 5 ∧ y2.toInt ≤ 14348906) ∨ (6 ≤ y1.toInt - k0.toInt ∧ y2.toInt ≤ 387420488))) (hr3 : (r3.toInt = 0 ∧ ¬ (y1.toInt < s1.toInt ∧ 97 ≤ (A2 y1.toNatClampNeg).toInt ∧ (A2 y1.toNatClampNeg).toInt ≤ 122)) ∨ (r3.toInt = 1 ∧ (y1.toInt < s1.toInt ∧ 97 ≤ (A2 y1.toNatClampNeg).toInt ∧ (A2 y1.toNatClampNeg).toInt ≤ 122))) (c4 : ¬ r3.toInt = (0)) (ex12 : x12 = y1 - k0) (tx12 : x12.toInt = y1.toInt - k0.toInt) (c13 : x12.toInt < (6)) (ex15 : x15 = y2 * 27) (tx15 : x15.toInt = y2.toInt * 27) (hr16 : (y1.toInt < s1.toInt ∧ r16.toInt = (A2 y1.toNatClampNeg).toInt) ∨ (s1.toInt ≤ y1.toInt ∧ r16.toInt = 0)) (ex17 : x17 = Int32.toInt64 r16) (tx17 : x17.toInt = r16.toInt) (ex18 : x18 = x15 + x17) : x18.toInt = x15.toInt + x17.toInt := by
  rw [ex18, zl_add (by omega) (by omega)]; first | done | omega
theorem v_name_15 (s1 : Int32) (A2 : Nat → Int32) (s3 : Int32) (A4 : Nat → Int32) (J6 : Nat → Int64) (A7 : Nat → Int32) (k0 : Int32) (y1 : Int32) (y2 : Int64) (r3 : Int32) (x12 : Int32) (x15 : Int64) (r16 : Int32) (x17 : Int64) (x18 : Int64) (x19 : Int64) (hpre : 0 ≤ s1.toInt ∧ s1.toInt ≤ 40 ∧ 0 ≤ s3.toInt ∧ s3.toInt ≤ k0.toInt ∧ k0.toInt < s1.toInt ∧ TKok A4 J6 A7 s3.toInt ∧ (k0.toInt < s1.toInt ∧ 97 ≤ (A2 k0.toNatClampNeg).toInt ∧ (A2 k0.toNatClampNeg).toInt ≤ 122)) (hi4 : k0.toInt ≤ y1.toInt ∧ y1.toInt ≤ s1.toInt ∧ 0 ≤ y2.toInt ∧ ((y1.toInt - k0.toInt = 0 ∧ y2.toInt = 0) ∨ (y1.toInt - k0.toInt = 1 ∧ y2.toInt ≤ 26) ∨ (y1.toInt - k0.toInt = 2 ∧ y2.toInt ≤ 728) ∨ (y1.toInt - k0.toInt = 3 ∧ y2.toInt ≤ 19682) ∨ (y1.toInt - k0.toInt = 4 ∧ y2.toInt ≤ 531440) ∨ (y1.toInt - k0.toInt = 5 ∧ y2.toInt ≤ 14348906) ∨ (6 ≤ y1.toInt - k0.toInt ∧ y2.toInt ≤ 387420488))) (hr3 : (r3.toInt = 0 ∧ ¬ (y1.toInt < s1.toInt ∧ 97 ≤ (A2 y1.toNatClampNeg).toInt ∧ (A2 y1.toNatClampNeg).toInt ≤ 122)) ∨ (r3.toInt = 1 ∧ (y1.toInt < s1.toInt ∧ 97 ≤ (A2 y1.toNatClampNeg).toInt ∧ (A2 y1.toNatClampNeg).toInt ≤ 122))) (c4 : ¬ r3.toInt = (0)) (ex12 : x12 = y1 - k0) (tx12 : x12.toInt = y1.toInt - k0.toInt) (c13 : x12.toInt < (6)) (ex15 : x15 = y2 * 27) (tx15 : x15.toInt = y2.toInt * 27) (hr16 : (y1.toInt < s1.toInt ∧ r16.toInt = (A2 y1.toNatClampNeg).toInt) ∨ (s1.toInt ≤ y1.toInt ∧ r16.toInt = 0)) (ex17 : x17 = Int32.toInt64 r16) (tx17 : x17.toInt = r16.toInt) (ex18 : x18 = x15 + x17) (tx18 : x18.toInt = x15.toInt + x17.toInt) (ex19 : x19 = x18 - 97) : x19.toInt = x18.toInt - 97 := by
  have w1 : (97 : Int64).toInt = 97 := by decide +kernel
  rw [ex19, zl_sub (by omega) (by omega)]; first | done | omega
theorem v_name_16 (s1 : Int32) (A2 : Nat → Int32) (s3 : Int32) (A4 : Nat → Int32) (J6 : Nat → Int64) (A7 : Nat → Int32) (k0 : Int32) (y1 : Int32) (y2 : Int64) (r3 : Int32) (x12 : Int32) (x15 : Int64) (r16 : Int32) (x17 : Int64) (x18 : Int64) (x19 : Int64) (x20 : Int64) (hpre : 0 ≤ s1.toInt ∧ s1.toInt ≤ 40 ∧ 0 ≤ s3.toInt ∧ s3.toInt ≤ k0.toInt ∧ k0.toInt < s1.toInt ∧ TKok A4 J6 A7 s3.toInt ∧ (k0.toInt < s1.toInt ∧ 97 ≤ (A2 k0.toNatClampNeg).toInt ∧ (A2 k0.toNatClampNeg).toInt ≤ 122)) (hi4 : k0.toInt ≤ y1.toInt ∧ y1.toInt ≤ s1.toInt ∧ 0 ≤ y2.toInt ∧ ((y1.toInt - k0.toInt = 0 ∧ y2.toInt = 0) ∨ (y1.toInt - k0.toInt = 1 ∧ y2.toInt ≤ 26) ∨ (y1.toInt - k0.toInt = 2 ∧ y2.toInt ≤ 728) ∨ (y1.toInt - k0.toInt = 3 ∧ y2.toInt ≤ 19682) ∨ (y1.toInt - k0.toInt = 4 ∧ y2.toInt ≤ 531440) ∨ (y1.toInt - k0.toInt = 5 ∧ y2.toInt ≤ 14348906) ∨ (6 ≤ y1.toInt - k0.toInt ∧ y2.toInt ≤ 387420488))) (hr3 : (r3.toInt = 0 ∧ ¬ (y1.toInt < s1.toInt ∧ 97 ≤ (A2 y1.toNatClampNeg).toInt ∧ (A2 y1.toNatClampNeg).toInt ≤ 122)) ∨ (r3.toInt = 1 ∧ (y1.toInt < s1.toInt ∧ 97 ≤ (A2 y1.toNatClampNeg).toInt ∧ (A2 y1.toNatClampNeg).toInt ≤ 122))) (c4 : ¬ r3.toInt = (0)) (ex12 : x12 = y1 - k0) (tx12 : x12.toInt = y1.toInt - k0.toInt) (c13 : x12.toInt < (6)) (ex15 : x15 = y2 * 27) (tx15 : x15.toInt = y2.toInt * 27) (hr16 : (y1.toInt < s1.toInt ∧ r16.toInt = (A2 y1.toNatClampNeg).toInt) ∨ (s1.toInt ≤ y1.toInt ∧ r16.toInt = 0)) (ex17 : x17 = Int32.toInt64 r16) (tx17 : x17.toInt = r16.toInt) (ex18 : x18 = x15 + x17) (tx18 : x18.toInt = x15.toInt + x17.toInt) (ex19 : x19 = x18 - 97) (tx19 : x19.toInt = x18.toInt - 97) (ex20 : x20 = x19 + 1) : x20.toInt = x19.toInt + 1 := by
  have w1 : (1 : Int64).toInt = 1 := by decide +kernel
  rw [ex20, zl_add (by omega) (by omega)]; first | done | omega
theorem v_name_17 (s1 : Int32) (A2 : Nat → Int32) (s3 : Int32) (A4 : Nat → Int32) (J6 : Nat → Int64) (A7 : Nat → Int32) (k0 : Int32) (y1 : Int32) (y2 : Int64) (r3 : Int32) (x12 : Int32) (x15 : Int64) (r16 : Int32) (x17 : Int64) (x18 : Int64) (x19 : Int64) (x20 : Int64) (x21 : Int32) (hpre : 0 ≤ s1.toInt ∧ s1.toInt ≤ 40 ∧ 0 ≤ s3.toInt ∧ s3.toInt ≤ k0.toInt ∧ k0.toInt < s1.toInt ∧ TKok A4 J6 A7 s3.toInt ∧ (k0.toInt < s1.toInt ∧ 97 ≤ (A2 k0.toNatClampNeg).toInt ∧ (A2 k0.toNatClampNeg).toInt ≤ 122)) (hi4 : k0.toInt ≤ y1.toInt ∧ y1.toInt ≤ s1.toInt ∧ 0 ≤ y2.toInt ∧ ((y1.toInt - k0.toInt = 0 ∧ y2.toInt = 0) ∨ (y1.toInt - k0.toInt = 1 ∧ y2.toInt ≤ 26) ∨ (y1.toInt - k0.toInt = 2 ∧ y2.toInt ≤ 728) ∨ (y1.toInt - k0.toInt = 3 ∧ y2.toInt ≤ 19682) ∨ (y1.toInt - k0.toInt = 4 ∧ y2.toInt ≤ 531440) ∨ (y1.toInt - k0.toInt = 5 ∧ y2.toInt ≤ 14348906) ∨ (6 ≤ y1.toInt - k0.toInt ∧ y2.toInt ≤ 387420488))) (hr3 : (r3.toInt = 0 ∧ ¬ (y1.toInt < s1.toInt ∧ 97 ≤ (A2 y1.toNatClampNeg).toInt ∧ (A2 y1.toNatClampNeg).toInt ≤ 122)) ∨ (r3.toInt = 1 ∧ (y1.toInt < s1.toInt ∧ 97 ≤ (A2 y1.toNatClampNeg).toInt ∧ (A2 y1.toNatClampNeg).toInt ≤ 122))) (c4 : ¬ r3.toInt = (0)) (ex12 : x12 = y1 - k0) (tx12 : x12.toInt = y1.toInt - k0.toInt) (c13 : x12.toInt < (6)) (ex15 : x15 = y2 * 27) (tx15 : x15.toInt = y2.toInt * 27) (hr16 : (y1.toInt < s1.toInt ∧ r16.toInt = (A2 y1.toNatClampNeg).toInt) ∨ (s1.toInt ≤ y1.toInt ∧ r16.toInt = 0)) (ex17 : x17 = Int32.toInt64 r16) (tx17 : x17.toInt = r16.toInt) (ex18 : x18 = x15 + x17) (tx18 : x18.toInt = x15.toInt + x17.toInt) (ex19 : x19 = x18 - 97) (tx19 : x19.toInt = x18.toInt - 97) (ex20 : x20 = x19 + 1) (tx20 : x20.toInt = x19.toInt + 1) (ex21 : x21 = y1 + 1) : x21.toInt = y1.toInt + (1) := by
  have z9 : (1 : Int32).toInt = 1 := by decide +kernel
  rw [ex21, z_add (by omega) (by omega)]; first | done | omega
theorem v_name_18 (s1 : Int32) (A2 : Nat → Int32) (s3 : Int32) (A4 : Nat → Int32) (J6 : Nat → Int64) (A7 : Nat → Int32) (k0 : Int32) (y1 : Int32) (y2 : Int64) (r3 : Int32) (x12 : Int32) (x15 : Int64) (r16 : Int32) (x17 : Int64) (x18 : Int64) (x19 : Int64) (x20 : Int64) (x21 : Int32) (hpre : 0 ≤ s1.toInt ∧ s1.toInt ≤ 40 ∧ 0 ≤ s3.toInt ∧ s3.toInt ≤ k0.toInt ∧ k0.toInt < s1.toInt ∧ TKok A4 J6 A7 s3.toInt ∧ (k0.toInt < s1.toInt ∧ 97 ≤ (A2 k0.toNatClampNeg).toInt ∧ (A2 k0.toNatClampNeg).toInt ≤ 122)) (hi4 : k0.toInt ≤ y1.toInt ∧ y1.toInt ≤ s1.toInt ∧ 0 ≤ y2.toInt ∧ ((y1.toInt - k0.toInt = 0 ∧ y2.toInt = 0) ∨ (y1.toInt - k0.toInt = 1 ∧ y2.toInt ≤ 26) ∨ (y1.toInt - k0.toInt = 2 ∧ y2.toInt ≤ 728) ∨ (y1.toInt - k0.toInt = 3 ∧ y2.toInt ≤ 19682) ∨ (y1.toInt - k0.toInt = 4 ∧ y2.toInt ≤ 531440) ∨ (y1.toInt - k0.toInt = 5 ∧ y2.toInt ≤ 14348906) ∨ (6 ≤ y1.toInt - k0.toInt ∧ y2.toInt ≤ 387420488))) (hr3 : (r3.toInt = 0 ∧ ¬ (y1.toInt < s1.toInt ∧ 97 ≤ (A2 y1.toNatClampNeg).toInt ∧ (A2 y1.toNatClampNeg).toInt ≤ 122)) ∨ (r3.toInt = 1 ∧ (y1.toInt < s1.toInt ∧ 97 ≤ (A2 y1.toNatClampNeg).toInt ∧ (A2 y1.toNatClampNeg).toInt ≤ 122))) (c4 : ¬ r3.toInt = (0)) (ex12 : x12 = y1 - k0) (tx12 : x12.toInt = y1.toInt - k0.toInt) (c13 : x12.toInt < (6)) (ex15 : x15 = y2 * 27) (tx15 : x15.toInt = y2.toInt * 27) (hr16 : (y1.toInt < s1.toInt ∧ r16.toInt = (A2 y1.toNatClampNeg).toInt) ∨ (s1.toInt ≤ y1.toInt ∧ r16.toInt = 0)) (ex17 : x17 = Int32.toInt64 r16) (tx17 : x17.toInt = r16.toInt) (ex18 : x18 = x15 + x17) (tx18 : x18.toInt = x15.toInt + x17.toInt) (ex19 : x19 = x18 - 97) (tx19 : x19.toInt = x18.toInt - 97) (ex20 : x20 = x19 + 1) (tx20 : x20.toInt = x19.toInt + 1) (ex21 : x21 = y1 + 1) (tx21 : x21.toInt = y1.toInt + (1)) : k0.toInt ≤ x21.toInt ∧ x21.toInt ≤ s1.toInt ∧ 0 ≤ x20.toInt ∧ ((x21.toInt - k0.toInt = 0 ∧ x20.toInt = 0) ∨ (x21.toInt - k0.toInt = 1 ∧ x20.toInt ≤ 26) ∨ (x21.toInt - k0.toInt = 2 ∧ x20.toInt ≤ 728) ∨ (x21.toInt - k0.toInt = 3 ∧ x20.toInt ≤ 19682) ∨ (x21.toInt - k0.toInt = 4 ∧ x20.toInt ≤ 531440) ∨ (x21.toInt - k0.toInt = 5 ∧ x20.toInt ≤ 14348906) ∨ (6 ≤ x21.toInt - k0.toInt ∧ x20.toInt ≤ 387420488)) := by
  first | trivial | omega | (simp; done) | (simp; omega) | (simp_all; done) | (simp_all; omega)
theorem v_name_19 (s1 : Int32) (A2 : Nat → Int32) (s3 : Int32) (A4 : Nat → Int32) (J6 : Nat → Int64) (A7 : Nat → Int32) (k0 : Int32) (y1 : Int32) (y2 : Int64) (r3 : Int32) (x12 : Int32) (x15 : Int64) (r16 : Int32) (x17 : Int64) (x18 : Int64) (x19 : Int64) (x20 : Int64) (x21 : Int32) (hpre : 0 ≤ s1.toInt ∧ s1.toInt ≤ 40 ∧ 0 ≤ s3.toInt ∧ s3.toInt ≤ k0.toInt ∧ k0.toInt < s1.toInt ∧ TKok A4 J6 A7 s3.toInt ∧ (k0.toInt < s1.toInt ∧ 97 ≤ (A2 k0.toNatClampNeg).toInt ∧ (A2 k0.toNatClampNeg).toInt ≤ 122)) (hi4 : k0.toInt ≤ y1.toInt ∧ y1.toInt ≤ s1.toInt ∧ 0 ≤ y2.toInt ∧ ((y1.toInt - k0.toInt = 0 ∧ y2.toInt = 0) ∨ (y1.toInt - k0.toInt = 1 ∧ y2.toInt ≤ 26) ∨ (y1.toInt - k0.toInt = 2 ∧ y2.toInt ≤ 728) ∨ (y1.toInt - k0.toInt = 3 ∧ y2.toInt ≤ 19682) ∨ (y1.toInt - k0.toInt = 4 ∧ y2.toInt ≤ 531440) ∨ (y1.toInt - k0.toInt = 5 ∧ y2.toInt ≤ 14348906) ∨ (6 ≤ y1.toInt - k0.toInt ∧ y2.toInt ≤ 387420488))) (hr3 : (r3.toInt = 0 ∧ ¬ (y1.toInt < s1.toInt ∧ 97 ≤ (A2 y1.toNatClampNeg).toInt ∧ (A2 y1.toNatClampNeg).toInt ≤ 122)) ∨ (r3.toInt = 1 ∧ (y1.toInt < s1.toInt ∧ 97 ≤ (A2 y1.toNatClampNeg).toInt ∧ (A2 y1.toNatClampNeg).toInt ≤ 122))) (c4 : ¬ r3.toInt = (0)) (ex12 : x12 = y1 - k0) (tx12 : x12.toInt = y1.toInt - k0.toInt) (c13 : x12.toInt < (6)) (ex15 : x15 = y2 * 27) (tx15 : x15.toInt = y2.toInt * 27) (hr16 : (y1.toInt < s1.toInt ∧ r16.toInt = (A2 y1.toNatClampNeg).toInt) ∨ (s1.toInt ≤ y1.toInt ∧ r16.toInt = 0)) (ex17 : x17 = Int32.toInt64 r16) (tx17 : x17.toInt = r16.toInt) (ex18 : x18 = x15 + x17) (tx18 : x18.toInt = x15.toInt + x17.toInt) (ex19 : x19 = x18 - 97) (tx19 : x19.toInt = x18.toInt - 97) (ex20 : x20 = x19 + 1) (tx20 : x20.toInt = x19.toInt + 1) (ex21 : x21 = y1 + 1) (tx21 : x21.toInt = y1.toInt + (1)) : (s1.toInt - x21.toInt).toNat < (s1.toInt - y1.toInt).toNat := by
  first | trivial | omega | (simp; done) | (simp; omega) | (simp_all; done) | (simp_all; omega)
def wqM_thrown0 : List Cond := [.code yX12_thrown cX12_thrown 1 (some .int), .fieldLink RX12 127 "PhraseDeskModel" "threw" "I"]
def wqM_thrown : List Cond := wqM_thrown0 ++ wsX120
set_option maxHeartbeats 4000000 in
set_option maxRecDepth 100000 in
theorem M_thrown (l : Launch) (D : va_G) (cy : Nat → ClassId) (sz0 : Nat) (sa : Nat → Nat) (ad : Nat → Nat) (s0 : Int32) (s1 : Int32) (A2 : Nat → Int32) (s3 : Int32) (A4 : Nat → Int32) (A5 : Nat → Int32) (J6 : Nat → Int64) (A7 : Nat → Int32) (s8 : Int32) (s9 : Int32) (s10 : Int32) (A11 : Nat → Int32) (J12 : Nat → Int64) (A13 : Nat → Int32) (s14 : Int32) (s15 : Int32) (s16 : Int32) (s17 : Int32) (s18 : Int32) (s19 : Int32) (A20 : Nat → Int32) (A21 : Nat → Int32) (A22 : Nat → Int32) (A23 : Nat → Int32) (A24 : Nat → Int32) (A25 : Nat → Int32) (A26 : Nat → Int32) (A27 : Nat → Int32) (A28 : Nat → Int32) (s29 : Int32) (A30 : Nat → Int32) (A31 : Nat → Int32) (A32 : Nat → Int32) (s33 : Int32) (s34 : Int32) (s35 : Int32) (A36 : Nat → Int32) (A37 : Nat → Int32) (A38 : Nat → Int32) (A39 : Nat → Int32) (A40 : Nat → Int32) (A41 : Nat → Int32) (A42 : Nat → Int32) (A43 : Nat → Int32) (A44 : Nat → Int32) (A45 : Nat → Int32) (A46 : Nat → Int32) (s47 : Int32) (A48 : Nat → Int32) (s49 : Int32) (A50 : Nat → Int32) (A51 : Nat → Int32) (J52 : Nat → Int64) (J53 : Nat → Int64) (R54 : Nat → UInt64) (s55 : Int32) (s56 : Int32) (s57 : Int32) (A58 : Nat → Int32) (s59 : Int32) (sz : Nat)  (hpre : True) : Met l yX12_thrown wqM_thrown ({ frames := 0, cells := 0, slots := 0, locals := 0 }) (PcW D cy sz0 sa [.ref (ad 0)] (MW cy ad s0 s1 A2 s3 A4 A5 J6 A7 s8 s9 s10 A11 J12 A13 s14 s15 s16 s17 s18 s19 A20 A21 A22 A23 A24 A25 A26 A27 A28 s29 A30 A31 A32 s33 s34 s35 A36 A37 A38 A39 A40 A41 A42 A43 A44 A45 A46 s47 A48 s49 A50 A51 J52 J53 R54 s55 s56 s57 A58 s59) sz) (va_Qi (fun (r : Int32) (u : Unit) => r = s0) (fun (u : Unit) (t : State) => BW D (MW cy ad s0 s1 A2 s3 A4 A5 J6 A7 s8 s9 s10 A11 J12 A13 s14 s15 s16 s17 s18 s19 A20 A21 A22 A23 A24 A25 A26 A27 A28 s29 A30 A31 A32 s33 s34 s35 A36 A37 A38 A39 A40 A41 A42 A43 A44 A45 A46 s47 A48 s49 A50 A51 J52 J53 R54 s55 s56 s57 A58 s59) (va_A (MW cy ad s0 s1 A2 s3 A4 A5 J6 A7 s8 s9 s10 A11 J12 A13 s14 s15 s16 s17 s18 s19 A20 A21 A22 A23 A24 A25 A26 A27 A28 s29 A30 A31 A32 s33 s34 s35 A36 A37 A38 A39 A40 A41 A42 A43 A44 A45 A46 s47 A48 s49 A50 A51 J52 J53 R54 s55 s56 s57 A58 s59) sz) t) (va_A (MW cy ad s0 s1 A2 s3 A4 A5 J6 A7 s8 s9 s10 A11 J12 A13 s14 s15 s16 s17 s18 s19 A20 A21 A22 A23 A24 A25 A26 A27 A28 s29 A30 A31 A32 s33 s34 s35 A36 A37 A38 A39 A40 A41 A42 A43 A44 A45 A46 s47 A48 s49 A50 A51 J52 J53 R54 s55 s56 s57 A58 s59) sz)) 0 0 (va_A (MW cy ad s0 s1 A2 s3 A4 A5 J6 A7 s8 s9 s10 A11 J12 A13 s14 s15 s16 s17 s18 s19 A20 A21 A22 A23 A24 A25 A26 A27 A28 s29 A30 A31 A32 s33 s34 s35 A36 A37 A38 A39 A40 A41 A42 A43 A44 A45 A46 s47 A48 s49 A50 A51 J52 J53 R54 s55 s56 s57 A58 s59) sz) := by
  refine Met.ofW (cc := cX12_thrown) (maxL := 1) (ret := (some .int)) (by decide) rfl ?_
  intro p e s m args below meth c s₁ B hml hv
  obtain ⟨rfl, hsz, hP, hD0, hE⟩ := hv
  have hx := B.exec
  have hb := B.bytes
  have hr := B.returns
  have hts := atoms_spec (ws := wqM_thrown) B.pre
  have hown : s.vm.findClass RX12 = some m.cls := findClass_of_methodNamed B.named
  have hlocks := B.notSynchronized
  subst hsz
  have hK := hE.1
  have hD := hD0.self (sz := s.heap.size)
  have hAF := frA hD0 hE.2.1
  generalize hAe : va_A (MW cy ad s0 s1 A2 s3 A4 A5 J6 A7 s8 s9 s10 A11 J12 A13 s14 s15 s16 s17 s18 s19 A20 A21 A22 A23 A24 A25 A26 A27 A28 s29 A30 A31 A32 s33 s34 s35 A36 A37 A38 A39 A40 A41 A42 A43 A44 A45 A46 s47 A48 s49 A50 A51 J52 J53 R54 s55 s56 s57 A58 s59) s.heap.size = A at hD hAF ⊢
  have hA : ∀ q : Nat, s.heap.size ≤ q → A q := fun q h => by rw [← hAe]; exact Or.inr h
  have hS : va_S A s.heap s.heap [] := va_S.rf
  have hl := lv_entry ([.ref (ad 0)]) (n := 1) (Nat.le_of_ble_eq_true rfl)
  rw [lg_entry_eq]
  generalize (lg_sl ([.ref (ad 0)]) ++ List.replicate (1 - (lg_sl ([.ref (ad 0)])).length) Slot.unset).toArray = ls at hl ⊢
  have hl : lv_has ls 1 [(0, .ref (ad 0))] := hl
  refine lv_aload_n hx hb dX12_thrown_0 rfl (lv_at hl 0 rfl) ?_
  refine va_get (D := D) (ci := 14) (v := .int s0) (C := RX12) (T := TX12) (N := 60) hx hb hts (fun _ h => (List.mem_append_right _ h)) hown hK hP 0 rfl rfl 0 (by decide) (hts (.fieldLink RX12 127 "PhraseDeskModel" "threw" "I") (List.mem_of_getElem? (i := 1) rfl)) (fun _ h9 => h9) rfl dX12_thrown_1 ?_
  refine W.widen (k := 0) (n := 0) (Nat.le_of_ble_eq_true rfl) (Nat.le_of_ble_eq_true rfl) ?_
  exact W.iret (v := s0) hx hb hr (fun t ht hW => ⟨⟨s0, (), rfl, (v_thrown_1 s0 hpre), by rw [ht]; exact hP, hD⟩, hS.F ht⟩) hS.2.2 dX12_thrown_4

def wqM_at0 : List Cond := [.code yX12_at cX12_at 2 (some .int), .fieldLink RX12 131 "PhraseDeskModel" "size" "I", .fieldLink RX12 7 "PhraseDeskModel" "letters" "[I"]
def wqM_at : List Cond := wqM_at0 ++ wsX120
set_option maxHeartbeats 4000000 in
set_option maxRecDepth 100000 in
theorem M_at (l : Launch) (D : va_G) (cy : Nat → ClassId) (sz0 : Nat) (sa : Nat → Nat) (ad : Nat → Nat) (s0 : Int32) (s1 : Int32) (A2 : Nat → Int32) (s3 : Int32) (A4 : Nat → Int32) (A5 : Nat → Int32) (J6 : Nat → Int64) (A7 : Nat → Int32) (s8 : Int32) (s9 : Int32) (s10 : Int32) (A11 : Nat → Int32) (J12 : Nat → Int64) (A13 : Nat → Int32) (s14 : Int32) (s15 : Int32) (s16 : Int32) (s17 : Int32) (s18 : Int32) (s19 : Int32) (A20 : Nat → Int32) (A21 : Nat → Int32) (A22 : Nat → Int32) (A23 : Nat → Int32) (A24 : Nat → Int32) (A25 : Nat → Int32) (A26 : Nat → Int32) (A27 : Nat → Int32) (A28 : Nat → Int32) (s29 : Int32) (A30 : Nat → Int32) (A31 : Nat → Int32) (A32 : Nat → Int32) (s33 : Int32) (s34 : Int32) (s35 : Int32) (A36 : Nat → Int32) (A37 : Nat → Int32) (A38 : Nat → Int32) (A39 : Nat → Int32) (A40 : Nat → Int32) (A41 : Nat → Int32) (A42 : Nat → Int32) (A43 : Nat → Int32) (A44 : Nat → Int32) (A45 : Nat → Int32) (A46 : Nat → Int32) (s47 : Int32) (A48 : Nat → Int32) (s49 : Int32) (A50 : Nat → Int32) (A51 : Nat → Int32) (J52 : Nat → Int64) (J53 : Nat → Int64) (R54 : Nat → UInt64) (s55 : Int32) (s56 : Int32) (s57 : Int32) (A58 : Nat → Int32) (s59 : Int32) (sz : Nat) (k0 : Int32) (hpre : 0 ≤ s1.toInt ∧ s1.toInt ≤ 40 ∧ 0 ≤ k0.toInt) : Met l yX12_at wqM_at ({ frames := 0, cells := 0, slots := 0, locals := 0 }) (PcW D cy sz0 sa [.ref (ad 0), .int k0] (MW cy ad s0 s1 A2 s3 A4 A5 J6 A7 s8 s9 s10 A11 J12 A13 s14 s15 s16 s17 s18 s19 A20 A21 A22 A23 A24 A25 A26 A27 A28 s29 A30 A31 A32 s33 s34 s35 A36 A37 A38 A39 A40 A41 A42 A43 A44 A45 A46 s47 A48 s49 A50 A51 J52 J53 R54 s55 s56 s57 A58 s59) sz) (va_Qi (fun (r : Int32) (u : Unit) => (k0.toInt < s1.toInt ∧ r.toInt = (A2 k0.toNatClampNeg).toInt) ∨ (s1.toInt ≤ k0.toInt ∧ r.toInt = 0)) (fun (u : Unit) (t : State) => BW D (MW cy ad s0 s1 A2 s3 A4 A5 J6 A7 s8 s9 s10 A11 J12 A13 s14 s15 s16 s17 s18 s19 A20 A21 A22 A23 A24 A25 A26 A27 A28 s29 A30 A31 A32 s33 s34 s35 A36 A37 A38 A39 A40 A41 A42 A43 A44 A45 A46 s47 A48 s49 A50 A51 J52 J53 R54 s55 s56 s57 A58 s59) (va_A (MW cy ad s0 s1 A2 s3 A4 A5 J6 A7 s8 s9 s10 A11 J12 A13 s14 s15 s16 s17 s18 s19 A20 A21 A22 A23 A24 A25 A26 A27 A28 s29 A30 A31 A32 s33 s34 s35 A36 A37 A38 A39 A40 A41 A42 A43 A44 A45 A46 s47 A48 s49 A50 A51 J52 J53 R54 s55 s56 s57 A58 s59) sz) t) (va_A (MW cy ad s0 s1 A2 s3 A4 A5 J6 A7 s8 s9 s10 A11 J12 A13 s14 s15 s16 s17 s18 s19 A20 A21 A22 A23 A24 A25 A26 A27 A28 s29 A30 A31 A32 s33 s34 s35 A36 A37 A38 A39 A40 A41 A42 A43 A44 A45 A46 s47 A48 s49 A50 A51 J52 J53 R54 s55 s56 s57 A58 s59) sz)) 0 0 (va_A (MW cy ad s0 s1 A2 s3 A4 A5 J6 A7 s8 s9 s10 A11 J12 A13 s14 s15 s16 s17 s18 s19 A20 A21 A22 A23 A24 A25 A26 A27 A28 s29 A30 A31 A32 s33 s34 s35 A36 A37 A38 A39 A40 A41 A42 A43 A44 A45 A46 s47 A48 s49 A50 A51 J52 J53 R54 s55 s56 s57 A58 s59) sz) := by
  refine Met.ofW (cc := cX12_at) (maxL := 2) (ret := (some .int)) (by decide) rfl ?_
  intro p e s m args below meth c s₁ B hml hv
  obtain ⟨rfl, hsz, hP, hD0, hE⟩ := hv
  have hx := B.exec
  have hb := B.bytes
  have hr := B.returns
  have hts := atoms_spec (ws := wqM_at) B.pre
  have hown : s.vm.findClass RX12 = some m.cls := findClass_of_methodNamed B.named
  have hlocks := B.notSynchronized
  subst hsz
  have hK := hE.1
  have hD := hD0.self (sz := s.heap.size)
  have hAF := frA hD0 hE.2.1
  generalize hAe : va_A (MW cy ad s0 s1 A2 s3 A4 A5 J6 A7 s8 s9 s10 A11 J12 A13 s14 s15 s16 s17 s18 s19 A20 A21 A22 A23 A24 A25 A26 A27 A28 s29 A30 A31 A32 s33 s34 s35 A36 A37 A38 A39 A40 A41 A42 A43 A44 A45 A46 s47 A48 s49 A50 A51 J52 J53 R54 s55 s56 s57 A58 s59) s.heap.size = A at hD hAF ⊢
  have hA : ∀ q : Nat, s.heap.size ≤ q → A q := fun q h => by rw [← hAe]; exact Or.inr h
  have hS : va_S A s.heap s.heap [] := va_S.rf
  have hl := lv_entry ([.ref (ad 0), .int k0]) (n := 2) (Nat.le_of_ble_eq_true rfl)
  rw [lg_entry_eq]
  generalize (lg_sl ([.ref (ad 0), .int k0]) ++ List.replicate (2 - (lg_sl ([.ref (ad 0), .int k0])).length) Slot.unset).toArray = ls at hl ⊢
  have hl : lv_has ls 2 [(0, .ref (ad 0)), (1, .int k0)] := hl
  refine lv_iload_n hx hb dX12_at_0 rfl (lv_at hl 1 rfl) ?_
  refine lv_aload_n hx hb dX12_at_1 rfl (lv_at hl 0 rfl) ?_
  refine va_get (D := D) (ci := 14) (v := .int s1) (C := RX12) (T := TX12) (N := 60) hx hb hts (fun _ h => (List.mem_append_right _ h)) hown hK hP 0 rfl rfl 1 (by decide) (hts (.fieldLink RX12 131 "PhraseDeskModel" "size" "I") (List.mem_of_getElem? (i := 1) rfl)) (fun _ h9 => h9) rfl dX12_at_2 ?_
  refine lv_icmp_ge (tgt := 17) hx hb dX12_at_5 (by decide) (fun c1 => ?_) (fun c1 => ?_)
  · have c1 : s1.toInt ≤ k0.toInt := by have h := z_le c1; exact h
    refine lv_iconst (v := 0) hx hb dX12_at_17 (by decide +kernel) ?_
    refine W.widen (k := 0) (n := 0) (Nat.le_of_ble_eq_true rfl) (Nat.le_of_ble_eq_true rfl) ?_
    exact W.iret (v := 0) hx hb hr (fun t ht hW => ⟨⟨0, (), rfl, (v_at_1 s1 A2 k0 hpre c1), by rw [ht]; exact hP, hD⟩, hS.F ht⟩) hS.2.2 dX12_at_18
  · have c1 : k0.toInt < s1.toInt := by have h := z_nle c1; exact h
    refine lv_aload_n hx hb dX12_at_8 rfl (lv_at hl 0 rfl) ?_
    refine va_get (D := D) (ci := 14) (v := .ref (ad 2)) (C := RX12) (T := TX12) (N := 60) hx hb hts (fun _ h => (List.mem_append_right _ h)) hown hK hP 0 rfl rfl 2 (by decide) (hts (.fieldLink RX12 7 "PhraseDeskModel" "letters" "[I") (List.mem_of_getElem? (i := 2) rfl)) (fun _ h9 => h9) rfl dX12_at_9 ?_
    refine lv_iload_n hx hb dX12_at_12 rfl (lv_at hl 1 rfl) ?_
    refine va_iald hx hb hK hP 1 0 rfl rfl (v_at_2 s1 k0 hpre c1) dX12_at_13 ?_
    refine lv_topi (fun x2 ex2 => ?_)
    have ex2 : x2 = A2 k0.toNatClampNeg := ex2
    refine lv_goto (tgt := 18) hx hb dX12_at_14 (by decide) ?_
    refine W.widen (k := 0) (n := 0) (Nat.le_of_ble_eq_true rfl) (Nat.le_of_ble_eq_true rfl) ?_
    exact W.iret (v := x2) hx hb hr (fun t ht hW => ⟨⟨x2, (), rfl, (v_at_3 s1 A2 k0 x2 hpre c1 ex2), by rw [ht]; exact hP, hD⟩, hS.F ht⟩) hS.2.2 dX12_at_18

def wqM_digit0 : List Cond := [.code yX12_digit cX12_digit 2 (some .boolean), .methodLink RX12 134 yX12_at, .instanceMethod yX12_at, .selects RX12 yX12_at yX12_at, .initialized RX12, .code yX12_at cX12_at 2 (some .int), .fieldLink RX12 131 "PhraseDeskModel" "size" "I", .fieldLink RX12 7 "PhraseDeskModel" "letters" "[I"]
def wqM_digit : List Cond := wqM_digit0 ++ wsX120
set_option maxHeartbeats 4000000 in
set_option maxRecDepth 100000 in
theorem M_digit (l : Launch) (D : va_G) (cy : Nat → ClassId) (sz0 : Nat) (sa : Nat → Nat) (ad : Nat → Nat) (s0 : Int32) (s1 : Int32) (A2 : Nat → Int32) (s3 : Int32) (A4 : Nat → Int32) (A5 : Nat → Int32) (J6 : Nat → Int64) (A7 : Nat → Int32) (s8 : Int32) (s9 : Int32) (s10 : Int32) (A11 : Nat → Int32) (J12 : Nat → Int64) (A13 : Nat → Int32) (s14 : Int32) (s15 : Int32) (s16 : Int32) (s17 : Int32) (s18 : Int32) (s19 : Int32) (A20 : Nat → Int32) (A21 : Nat → Int32) (A22 : Nat → Int32) (A23 : Nat → Int32) (A24 : Nat → Int32) (A25 : Nat → Int32) (A26 : Nat → Int32) (A27 : Nat → Int32) (A28 : Nat → Int32) (s29 : Int32) (A30 : Nat → Int32) (A31 : Nat → Int32) (A32 : Nat → Int32) (s33 : Int32) (s34 : Int32) (s35 : Int32) (A36 : Nat → Int32) (A37 : Nat → Int32) (A38 : Nat → Int32) (A39 : Nat → Int32) (A40 : Nat → Int32) (A41 : Nat → Int32) (A42 : Nat → Int32) (A43 : Nat → Int32) (A44 : Nat → Int32) (A45 : Nat → Int32) (A46 : Nat → Int32) (s47 : Int32) (A48 : Nat → Int32) (s49 : Int32) (A50 : Nat → Int32) (A51 : Nat → Int32) (J52 : Nat → Int64) (J53 : Nat → Int64) (R54 : Nat → UInt64) (s55 : Int32) (s56 : Int32) (s57 : Int32) (A58 : Nat → Int32) (s59 : Int32) (sz : Nat) (k0 : Int32) (hpre : 0 ≤ s1.toInt ∧ s1.toInt ≤ 40 ∧ 0 ≤ k0.toInt) : Met l yX12_digit wqM_digit ({ frames := 1, cells := 0, slots := 0, locals := 21 }) (PcW D cy sz0 sa [.ref (ad 0), .int k0] (MW cy ad s0 s1 A2 s3 A4 A5 J6 A7 s8 s9 s10 A11 J12 A13 s14 s15 s16 s17 s18 s19 A20 A21 A22 A23 A24 A25 A26 A27 A28 s29 A30 A31 A32 s33 s34 s35 A36 A37 A38 A39 A40 A41 A42 A43 A44 A45 A46 s47 A48 s49 A50 A51 J52 J53 R54 s55 s56 s57 A58 s59) sz) (va_Qi (fun (r : Int32) (u : Unit) => (r.toInt = 0 ∧ ¬ (k0.toInt < s1.toInt ∧ 48 ≤ (A2 k0.toNatClampNeg).toInt ∧ (A2 k0.toNatClampNeg).toInt ≤ 57)) ∨ (r.toInt = 1 ∧ (k0.toInt < s1.toInt ∧ 48 ≤ (A2 k0.toNatClampNeg).toInt ∧ (A2 k0.toNatClampNeg).toInt ≤ 57))) (fun (u : Unit) (t : State) => BW D (MW cy ad s0 s1 A2 s3 A4 A5 J6 A7 s8 s9 s10 A11 J12 A13 s14 s15 s16 s17 s18 s19 A20 A21 A22 A23 A24 A25 A26 A27 A28 s29 A30 A31 A32 s33 s34 s35 A36 A37 A38 A39 A40 A41 A42 A43 A44 A45 A46 s47 A48 s49 A50 A51 J52 J53 R54 s55 s56 s57 A58 s59) (va_A (MW cy ad s0 s1 A2 s3 A4 A5 J6 A7 s8 s9 s10 A11 J12 A13 s14 s15 s16 s17 s18 s19 A20 A21 A22 A23 A24 A25 A26 A27 A28 s29 A30 A31 A32 s33 s34 s35 A36 A37 A38 A39 A40 A41 A42 A43 A44 A45 A46 s47 A48 s49 A50 A51 J52 J53 R54 s55 s56 s57 A58 s59) sz) t) (va_A (MW cy ad s0 s1 A2 s3 A4 A5 J6 A7 s8 s9 s10 A11 J12 A13 s14 s15 s16 s17 s18 s19 A20 A21 A22 A23 A24 A25 A26 A27 A28 s29 A30 A31 A32 s33 s34 s35 A36 A37 A38 A39 A40 A41 A42 A43 A44 A45 A46 s47 A48 s49 A50 A51 J52 J53 R54 s55 s56 s57 A58 s59) sz)) 0 0 (va_A (MW cy ad s0 s1 A2 s3 A4 A5 J6 A7 s8 s9 s10 A11 J12 A13 s14 s15 s16 s17 s18 s19 A20 A21 A22 A23 A24 A25 A26 A27 A28 s29 A30 A31 A32 s33 s34 s35 A36 A37 A38 A39 A40 A41 A42 A43 A44 A45 A46 s47 A48 s49 A50 A51 J52 J53 R54 s55 s56 s57 A58 s59) sz) := by
  refine Met.ofW (cc := cX12_digit) (maxL := 2) (ret := (some .boolean)) (by decide) rfl ?_
  intro p e s m args below meth c s₁ B hml hv
  obtain ⟨rfl, hsz, hP, hD0, hE⟩ := hv
  have hx := B.exec
  have hb := B.bytes
  have hr := B.returns
  have hts := atoms_spec (ws := wqM_digit) B.pre
  have hown : s.vm.findClass RX12 = some m.cls := findClass_of_methodNamed B.named
  have hlocks := B.notSynchronized
  subst hsz
  have hK := hE.1
  have hD := hD0.self (sz := s.heap.size)
  have hAF := frA hD0 hE.2.1
  generalize hAe : va_A (MW cy ad s0 s1 A2 s3 A4 A5 J6 A7 s8 s9 s10 A11 J12 A13 s14 s15 s16 s17 s18 s19 A20 A21 A22 A23 A24 A25 A26 A27 A28 s29 A30 A31 A32 s33 s34 s35 A36 A37 A38 A39 A40 A41 A42 A43 A44 A45 A46 s47 A48 s49 A50 A51 J52 J53 R54 s55 s56 s57 A58 s59) s.heap.size = A at hD hAF ⊢
  have hA : ∀ q : Nat, s.heap.size ≤ q → A q := fun q h => by rw [← hAe]; exact Or.inr h
  have hS : va_S A s.heap s.heap [] := va_S.rf
  have hl := lv_entry ([.ref (ad 0), .int k0]) (n := 2) (Nat.le_of_ble_eq_true rfl)
  rw [lg_entry_eq]
  generalize (lg_sl ([.ref (ad 0), .int k0]) ++ List.replicate (2 - (lg_sl ([.ref (ad 0), .int k0])).length) Slot.unset).toArray = ls at hl ⊢
  have hl : lv_has ls 2 [(0, .ref (ad 0)), (1, .int k0)] := hl
  refine lv_aload_n hx hb dX12_digit_0 rfl (lv_at hl 0 rfl) ?_
  refine lv_iload_n hx hb dX12_digit_1 rfl (lv_at hl 1 rfl) ?_
  have hFc := freeAll hD hS hA
  refine va_calli (va_runV (As := [.int k0]) (rest := []) ⟨hx, hb, hml, hown, hts⟩ (M_at l D cy sz0 sa ad s0 s1 A2 s3 A4 A5 J6 A7 s8 s9 s10 A11 J12 A13 s14 s15 s16 s17 s18 s19 A20 A21 A22 A23 A24 A25 A26 A27 A28 s29 A30 A31 A32 s33 s34 s35 A36 A37 A38 A39 A40 A41 A42 A43 A44 A45 A46 s47 A48 s49 A50 A51 J52 J53 R54 s55 s56 s57 A58 s59 s.heap.size k0 (v_digit_1 s1 k0 hpre)) (cwV 1 hts (goodIn_app (goodIn_r _ [1, 2, 3, 4] rfl (by decide +kernel)) (goodIn_app (goodIn_r wqM_at0 [5, 6, 7] rfl (by decide +kernel)) (goodIn_sub (fun _ h => (List.mem_append_right _ h)) (by decide +kernel)))) rfl rfl rfl (by decide +kernel) ⟨Nat.le_of_ble_eq_true rfl, Nat.le_of_ble_eq_true rfl⟩) ⟨PcW.blind, va_recv hK hP (ci := 14) (q0 := 0) rfl rfl, PcW.mk hE hS hAF hP hD⟩ rfl rfl hl.1 rfl (lv_room (Nat.le_of_ble_eq_true rfl)) dX12_digit_2 ⟨Nat.le_of_ble_eq_true rfl, Nat.le_of_ble_eq_true rfl⟩) hS (fun q _ h => hFc q h) hFc (fun r1 u t H1 locs ht hvm hw hB hz1 hk1 hS => ?_)
  have hr1 : (k0.toInt < s1.toInt ∧ r1.toInt = (A2 k0.toNatClampNeg).toInt) ∨ (s1.toInt ≤ k0.toInt ∧ r1.toInt = 0) := hw
  obtain ⟨hP1, hD1⟩ := hB
  rw [ht] at hP1
  have hD1 := hD1.weaken (fun _ q _ h => hFc q.1 h)
  clear hP hD hFc hk1 hz1
  have hP := hP1
  have hD := hD1
  clear hP1 hD1
  generalize H1 = H at hP hS ⊢
  have hP : va_P D vwCl (MW cy ad s0 s1 A2 s3 A4 A5 J6 A7 s8 s9 s10 A11 J12 A13 s14 s15 s16 s17 s18 s19 A20 A21 A22 A23 A24 A25 A26 A27 A28 s29 A30 A31 A32 s33 s34 s35 A36 A37 A38 A39 A40 A41 A42 A43 A44 A45 A46 s47 A48 s49 A50 A51 J52 J53 R54 s55 s56 s57 A58 s59) H := hP
  have hD : va_D A (MW cy ad s0 s1 A2 s3 A4 A5 J6 A7 s8 s9 s10 A11 J12 A13 s14 s15 s16 s17 s18 s19 A20 A21 A22 A23 A24 A25 A26 A27 A28 s29 A30 A31 A32 s33 s34 s35 A36 A37 A38 A39 A40 A41 A42 A43 A44 A45 A46 s47 A48 s49 A50 A51 J52 J53 R54 s55 s56 s57 A58 s59) := hD
  refine W.widen (k := 0) (n := 0) (Nat.le_of_ble_eq_true rfl) (Nat.le_of_ble_eq_true rfl) ?_
  refine lv_bipush (v := 48) hx hb dX12_digit_5 (by decide +kernel) ?_
  refine lv_icmp_lt (tgt := 24) hx hb dX12_digit_7 (by decide) (fun c2 => ?_) (fun c2 => ?_)
  · have c2 : r1.toInt < (48) := by have h := z_lt c2; rw [show (48 : Int32).toInt = 48 from by decide +kernel] at h; exact h
    refine lv_iconst (v := 0) hx hb dX12_digit_24 (by decide +kernel) ?_
    refine W.widen (k := 0) (n := 0) (Nat.le_of_ble_eq_true rfl) (Nat.le_of_ble_eq_true rfl) ?_
    exact W.zret (v := 0) (ty := .boolean) hx hb hr (rfl) (fun t ht hW => ⟨⟨0, (), rfl, (v_digit_2 s1 A2 k0 r1 hpre hr1 c2), by rw [ht]; exact hP, hD⟩, hS.F ht⟩) hS.2.2 dX12_digit_25
  · have c2 : (48) ≤ r1.toInt := by have h := z_nlt c2; rw [show (48 : Int32).toInt = 48 from by decide +kernel] at h; exact h
    refine lv_aload_n hx hb dX12_digit_10 rfl (lv_at hl 0 rfl) ?_
    refine lv_iload_n hx hb dX12_digit_11 rfl (lv_at hl 1 rfl) ?_
    have hFc := freeAll hD hS hA
    refine va_calli (va_runV (As := [.int k0]) (rest := []) ⟨hx, hb, hml, hown, hts⟩ (M_at l D cy sz0 sa ad s0 s1 A2 s3 A4 A5 J6 A7 s8 s9 s10 A11 J12 A13 s14 s15 s16 s17 s18 s19 A20 A21 A22 A23 A24 A25 A26 A27 A28 s29 A30 A31 A32 s33 s34 s35 A36 A37 A38 A39 A40 A41 A42 A43 A44 A45 A46 s47 A48 s49 A50 A51 J52 J53 R54 s55 s56 s57 A58 s59 H.size k0 (v_digit_3 s1 A2 k0 r1 hpre hr1 c2)) (cwV 1 hts (goodIn_app (goodIn_r _ [1, 2, 3, 4] rfl (by decide +kernel)) (goodIn_app (goodIn_r wqM_at0 [5, 6, 7] rfl (by decide +kernel)) (goodIn_sub (fun _ h => (List.mem_append_right _ h)) (by decide +kernel)))) rfl rfl rfl (by decide +kernel) ⟨Nat.le_of_ble_eq_true rfl, Nat.le_of_ble_eq_true rfl⟩) ⟨PcW.blind, va_recv hK hP (ci := 14) (q0 := 0) rfl rfl, PcW.mk hE hS hAF hP hD⟩ rfl rfl hl.1 rfl (lv_room (Nat.le_of_ble_eq_true rfl)) dX12_digit_12 ⟨Nat.le_of_ble_eq_true rfl, Nat.le_of_ble_eq_true rfl⟩) hS (fun q _ h => hFc q h) hFc (fun r3 u t H1 locs ht hvm hw hB hz1 hk1 hS => ?_)
    have hr3 : (k0.toInt < s1.toInt ∧ r3.toInt = (A2 k0.toNatClampNeg).toInt) ∨ (s1.toInt ≤ k0.toInt ∧ r3.toInt = 0) := hw
    obtain ⟨hP1, hD1⟩ := hB
    rw [ht] at hP1
    have hD1 := hD1.weaken (fun _ q _ h => hFc q.1 h)
    clear hP hD hFc hk1 hz1
    have hP := hP1
    have hD := hD1
    clear hP1 hD1
    generalize H1 = H at hP hS ⊢
    have hP : va_P D vwCl (MW cy ad s0 s1 A2 s3 A4 A5 J6 A7 s8 s9 s10 A11 J12 A13 s14 s15 s16 s17 s18 s19 A20 A21 A22 A23 A24 A25 A26 A27 A28 s29 A30 A31 A32 s33 s34 s35 A36 A37 A38 A39 A40 A41 A42 A43 A44 A45 A46 s47 A48 s49 A50 A51 J52 J53 R54 s55 s56 s57 A58 s59) H := hP
    have hD : va_D A (MW cy ad s0 s1 A2 s3 A4 A5 J6 A7 s8 s9 s10 A11 J12 A13 s14 s15 s16 s17 s18 s19 A20 A21 A22 A23 A24 A25 A26 A27 A28 s29 A30 A31 A32 s33 s34 s35 A36 A37 A38 A39 A40 A41 A42 A43 A44 A45 A46 s47 A48 s49 A50 A51 J52 J53 R54 s55 s56 s57 A58 s59) := hD
    refine W.widen (k := 0) (n := 0) (Nat.le_of_ble_eq_true rfl) (Nat.le_of_ble_eq_true rfl) ?_
    refine lv_bipush (v := 57) hx hb dX12_digit_15 (by decide +kernel) ?_
    refine lv_icmp_gt (tgt := 24) hx hb dX12_digit_17 (by decide) (fun c4 => ?_) (fun c4 => ?_)
    · have c4 : (57) < r3.toInt := by have h := z_lt c4; rw [show (57 : Int32).toInt = 57 from by decide +kernel] at h; exact h
      refine lv_iconst (v := 0) hx hb dX12_digit_24 (by decide +kernel) ?_
      refine W.widen (k := 0) (n := 0) (Nat.le_of_ble_eq_true rfl) (Nat.le_of_ble_eq_true rfl) ?_
      exact W.zret (v := 0) (ty := .boolean) hx hb hr (rfl) (fun t ht hW => ⟨⟨0, (), rfl, (v_digit_4 s1 A2 k0 r1 r3 hpre hr1 c2 hr3 c4), by rw [ht]; exact hP, hD⟩, hS.F ht⟩) hS.2.2 dX12_digit_25
    · have c4 : r3.toInt ≤ (57) := by have h := z_nlt c4; rw [show (57 : Int32).toInt = 57 from by decide +kernel] at h; exact h
      refine lv_iconst (v := 1) hx hb dX12_digit_20 (by decide +kernel) ?_
      refine lv_goto (tgt := 25) hx hb dX12_digit_21 (by decide) ?_
      refine W.widen (k := 0) (n := 0) (Nat.le_of_ble_eq_true rfl) (Nat.le_of_ble_eq_true rfl) ?_
      exact W.zret (v := 1) (ty := .boolean) hx hb hr (rfl) (fun t ht hW => ⟨⟨1, (), rfl, (v_digit_5 s1 A2 k0 r1 r3 hpre hr1 c2 hr3 c4), by rw [ht]; exact hP, hD⟩, hS.F ht⟩) hS.2.2 dX12_digit_25

def wqM_lower0 : List Cond := [.code yX12_lower cX12_lower 2 (some .boolean), .methodLink RX12 134 yX12_at, .instanceMethod yX12_at, .selects RX12 yX12_at yX12_at, .initialized RX12, .code yX12_at cX12_at 2 (some .int), .fieldLink RX12 131 "PhraseDeskModel" "size" "I", .fieldLink RX12 7 "PhraseDeskModel" "letters" "[I"]
def wqM_lower : List Cond := wqM_lower0 ++ wsX120
set_option maxHeartbeats 4000000 in
set_option maxRecDepth 100000 in
theorem M_lower (l : Launch) (D : va_G) (cy : Nat → ClassId) (sz0 : Nat) (sa : Nat → Nat) (ad : Nat → Nat) (s0 : Int32) (s1 : Int32) (A2 : Nat → Int32) (s3 : Int32) (A4 : Nat → Int32) (A5 : Nat → Int32) (J6 : Nat → Int64) (A7 : Nat → Int32) (s8 : Int32) (s9 : Int32) (s10 : Int32) (A11 : Nat → Int32) (J12 : Nat → Int64) (A13 : Nat → Int32) (s14 : Int32) (s15 : Int32) (s16 : Int32) (s17 : Int32) (s18 : Int32) (s19 : Int32) (A20 : Nat → Int32) (A21 : Nat → Int32) (A22 : Nat → Int32) (A23 : Nat → Int32) (A24 : Nat → Int32) (A25 : Nat → Int32) (A26 : Nat → Int32) (A27 : Nat → Int32) (A28 : Nat → Int32) (s29 : Int32) (A30 : Nat → Int32) (A31 : Nat → Int32) (A32 : Nat → Int32) (s33 : Int32) (s34 : Int32) (s35 : Int32) (A36 : Nat → Int32) (A37 : Nat → Int32) (A38 : Nat → Int32) (A39 : Nat → Int32) (A40 : Nat → Int32) (A41 : Nat → Int32) (A42 : Nat → Int32) (A43 : Nat → Int32) (A44 : Nat → Int32) (A45 : Nat → Int32) (A46 : Nat → Int32) (s47 : Int32) (A48 : Nat → Int32) (s49 : Int32) (A50 : Nat → Int32) (A51 : Nat → Int32) (J52 : Nat → Int64) (J53 : Nat → Int64) (R54 : Nat → UInt64) (s55 : Int32) (s56 : Int32) (s57 : Int32) (A58 : Nat → Int32) (s59 : Int32) (sz : Nat) (k0 : Int32) (hpre : 0 ≤ s1.toInt ∧ s1.toInt ≤ 40 ∧ 0 ≤ k0.toInt) : Met l yX12_lower wqM_lower ({ frames := 1, cells := 0, slots := 0, locals := 21 }) (PcW D cy sz0 sa [.ref (ad 0), .int k0] (MW cy ad s0 s1 A2 s3 A4 A5 J6 A7 s8 s9 s10 A11 J12 A13 s14 s15 s16 s17 s18 s19 A20 A21 A22 A23 A24 A25 A26 A27 A28 s29 A30 A31 A32 s33 s34 s35 A36 A37 A38 A39 A40 A41 A42 A43 A44 A45 A46 s47 A48 s49 A50 A51 J52 J53 R54 s55 s56 s57 A58 s59) sz) (va_Qi (fun (r : Int32) (u : Unit) => (r.toInt = 0 ∧ ¬ (k0.toInt < s1.toInt ∧ 97 ≤ (A2 k0.toNatClampNeg).toInt ∧ (A2 k0.toNatClampNeg).toInt ≤ 122)) ∨ (r.toInt = 1 ∧ (k0.toInt < s1.toInt ∧ 97 ≤ (A2 k0.toNatClampNeg).toInt ∧ (A2 k0.toNatClampNeg).toInt ≤ 122))) (fun (u : Unit) (t : State) => BW D (MW cy ad s0 s1 A2 s3 A4 A5 J6 A7 s8 s9 s10 A11 J12 A13 s14 s15 s16 s17 s18 s19 A20 A21 A22 A23 A24 A25 A26 A27 A28 s29 A30 A31 A32 s33 s34 s35 A36 A37 A38 A39 A40 A41 A42 A43 A44 A45 A46 s47 A48 s49 A50 A51 J52 J53 R54 s55 s56 s57 A58 s59) (va_A (MW cy ad s0 s1 A2 s3 A4 A5 J6 A7 s8 s9 s10 A11 J12 A13 s14 s15 s16 s17 s18 s19 A20 A21 A22 A23 A24 A25 A26 A27 A28 s29 A30 A31 A32 s33 s34 s35 A36 A37 A38 A39 A40 A41 A42 A43 A44 A45 A46 s47 A48 s49 A50 A51 J52 J53 R54 s55 s56 s57 A58 s59) sz) t) (va_A (MW cy ad s0 s1 A2 s3 A4 A5 J6 A7 s8 s9 s10 A11 J12 A13 s14 s15 s16 s17 s18 s19 A20 A21 A22 A23 A24 A25 A26 A27 A28 s29 A30 A31 A32 s33 s34 s35 A36 A37 A38 A39 A40 A41 A42 A43 A44 A45 A46 s47 A48 s49 A50 A51 J52 J53 R54 s55 s56 s57 A58 s59) sz)) 0 0 (va_A (MW cy ad s0 s1 A2 s3 A4 A5 J6 A7 s8 s9 s10 A11 J12 A13 s14 s15 s16 s17 s18 s19 A20 A21 A22 A23 A24 A25 A26 A27 A28 s29 A30 A31 A32 s33 s34 s35 A36 A37 A38 A39 A40 A41 A42 A43 A44 A45 A46 s47 A48 s49 A50 A51 J52 J53 R54 s55 s56 s57 A58 s59) sz) := by
  refine Met.ofW (cc := cX12_lower) (maxL := 2) (ret := (some .boolean)) (by decide) rfl ?_
  intro p e s m args below meth c s₁ B hml hv
  obtain ⟨rfl, hsz, hP, hD0, hE⟩ := hv
  have hx := B.exec
  have hb := B.bytes
  have hr := B.returns
  have hts := atoms_spec (ws := wqM_lower) B.pre
  have hown : s.vm.findClass RX12 = some m.cls := findClass_of_methodNamed B.named
  have hlocks := B.notSynchronized
  subst hsz
  have hK := hE.1
  have hD := hD0.self (sz := s.heap.size)
  have hAF := frA hD0 hE.2.1
  generalize hAe : va_A (MW cy ad s0 s1 A2 s3 A4 A5 J6 A7 s8 s9 s10 A11 J12 A13 s14 s15 s16 s17 s18 s19 A20 A21 A22 A23 A24 A25 A26 A27 A28 s29 A30 A31 A32 s33 s34 s35 A36 A37 A38 A39 A40 A41 A42 A43 A44 A45 A46 s47 A48 s49 A50 A51 J52 J53 R54 s55 s56 s57 A58 s59) s.heap.size = A at hD hAF ⊢
  have hA : ∀ q : Nat, s.heap.size ≤ q → A q := fun q h => by rw [← hAe]; exact Or.inr h
  have hS : va_S A s.heap s.heap [] := va_S.rf
  have hl := lv_entry ([.ref (ad 0), .int k0]) (n := 2) (Nat.le_of_ble_eq_true rfl)
  rw [lg_entry_eq]
  generalize (lg_sl ([.ref (ad 0), .int k0]) ++ List.replicate (2 - (lg_sl ([.ref (ad 0), .int k0])).length) Slot.unset).toArray = ls at hl ⊢
  have hl : lv_has ls 2 [(0, .ref (ad 0)), (1, .int k0)] := hl
  refine lv_aload_n hx hb dX12_lower_0 rfl (lv_at hl 0 rfl) ?_
  refine lv_iload_n hx hb dX12_lower_1 rfl (lv_at hl 1 rfl) ?_
  have hFc := freeAll hD hS hA
  refine va_calli (va_runV (As := [.int k0]) (rest := []) ⟨hx, hb, hml, hown, hts⟩ (M_at l D cy sz0 sa ad s0 s1 A2 s3 A4 A5 J6 A7 s8 s9 s10 A11 J12 A13 s14 s15 s16 s17 s18 s19 A20 A21 A22 A23 A24 A25 A26 A27 A28 s29 A30 A31 A32 s33 s34 s35 A36 A37 A38 A39 A40 A41 A42 A43 A44 A45 A46 s47 A48 s49 A50 A51 J52 J53 R54 s55 s56 s57 A58 s59 s.heap.size k0 (v_lower_1 s1 k0 hpre)) (cwV 1 hts (goodIn_app (goodIn_r _ [1, 2, 3, 4] rfl (by decide +kernel)) (goodIn_app (goodIn_r wqM_at0 [5, 6, 7] rfl (by decide +kernel)) (goodIn_sub (fun _ h => (List.mem_append_right _ h)) (by decide +kernel)))) rfl rfl rfl (by decide +kernel) ⟨Nat.le_of_ble_eq_true rfl, Nat.le_of_ble_eq_true rfl⟩) ⟨PcW.blind, va_recv hK hP (ci := 14) (q0 := 0) rfl rfl, PcW.mk hE hS hAF hP hD⟩ rfl rfl hl.1 rfl (lv_room (Nat.le_of_ble_eq_true rfl)) dX12_lower_2 ⟨Nat.le_of_ble_eq_true rfl, Nat.le_of_ble_eq_true rfl⟩) hS (fun q _ h => hFc q h) hFc (fun r1 u t H1 locs ht hvm hw hB hz1 hk1 hS => ?_)
  have hr1 : (k0.toInt < s1.toInt ∧ r1.toInt = (A2 k0.toNatClampNeg).toInt) ∨ (s1.toInt ≤ k0.toInt ∧ r1.toInt = 0) := hw
  obtain ⟨hP1, hD1⟩ := hB
  rw [ht] at hP1
  have hD1 := hD1.weaken (fun _ q _ h => hFc q.1 h)
  clear hP hD hFc hk1 hz1
  have hP := hP1
  have hD := hD1
  clear hP1 hD1
  generalize H1 = H at hP hS ⊢
  have hP : va_P D vwCl (MW cy ad s0 s1 A2 s3 A4 A5 J6 A7 s8 s9 s10 A11 J12 A13 s14 s15 s16 s17 s18 s19 A20 A21 A22 A23 A24 A25 A26 A27 A28 s29 A30 A31 A32 s33 s34 s35 A36 A37 A38 A39 A40 A41 A42 A43 A44 A45 A46 s47 A48 s49 A50 A51 J52 J53 R54 s55 s56 s57 A58 s59) H := hP
  have hD : va_D A (MW cy ad s0 s1 A2 s3 A4 A5 J6 A7 s8 s9 s10 A11 J12 A13 s14 s15 s16 s17 s18 s19 A20 A21 A22 A23 A24 A25 A26 A27 A28 s29 A30 A31 A32 s33 s34 s35 A36 A37 A38 A39 A40 A41 A42 A43 A44 A45 A46 s47 A48 s49 A50 A51 J52 J53 R54 s55 s56 s57 A58 s59) := hD
  refine W.widen (k := 0) (n := 0) (Nat.le_of_ble_eq_true rfl) (Nat.le_of_ble_eq_true rfl) ?_
  refine lv_bipush (v := 97) hx hb dX12_lower_5 (by decide +kernel) ?_
  refine lv_icmp_lt (tgt := 24) hx hb dX12_lower_7 (by decide) (fun c2 => ?_) (fun c2 => ?_)
  · have c2 : r1.toInt < (97) := by have h := z_lt c2; rw [show (97 : Int32).toInt = 97 from by decide +kernel] at h; exact h
    refine lv_iconst (v := 0) hx hb dX12_lower_24 (by decide +kernel) ?_
    refine W.widen (k := 0) (n := 0) (Nat.le_of_ble_eq_true rfl) (Nat.le_of_ble_eq_true rfl) ?_
    exact W.zret (v := 0) (ty := .boolean) hx hb hr (rfl) (fun t ht hW => ⟨⟨0, (), rfl, (v_lower_2 s1 A2 k0 r1 hpre hr1 c2), by rw [ht]; exact hP, hD⟩, hS.F ht⟩) hS.2.2 dX12_lower_25
  · have c2 : (97) ≤ r1.toInt := by have h := z_nlt c2; rw [show (97 : Int32).toInt = 97 from by decide +kernel] at h; exact h
    refine lv_aload_n hx hb dX12_lower_10 rfl (lv_at hl 0 rfl) ?_
    refine lv_iload_n hx hb dX12_lower_11 rfl (lv_at hl 1 rfl) ?_
    have hFc := freeAll hD hS hA
    refine va_calli (va_runV (As := [.int k0]) (rest := []) ⟨hx, hb, hml, hown, hts⟩ (M_at l D cy sz0 sa ad s0 s1 A2 s3 A4 A5 J6 A7 s8 s9 s10 A11 J12 A13 s14 s15 s16 s17 s18 s19 A20 A21 A22 A23 A24 A25 A26 A27 A28 s29 A30 A31 A32 s33 s34 s35 A36 A37 A38 A39 A40 A41 A42 A43 A44 A45 A46 s47 A48 s49 A50 A51 J52 J53 R54 s55 s56 s57 A58 s59 H.size k0 (v_lower_3 s1 A2 k0 r1 hpre hr1 c2)) (cwV 1 hts (goodIn_app (goodIn_r _ [1, 2, 3, 4] rfl (by decide +kernel)) (goodIn_app (goodIn_r wqM_at0 [5, 6, 7] rfl (by decide +kernel)) (goodIn_sub (fun _ h => (List.mem_append_right _ h)) (by decide +kernel)))) rfl rfl rfl (by decide +kernel) ⟨Nat.le_of_ble_eq_true rfl, Nat.le_of_ble_eq_true rfl⟩) ⟨PcW.blind, va_recv hK hP (ci := 14) (q0 := 0) rfl rfl, PcW.mk hE hS hAF hP hD⟩ rfl rfl hl.1 rfl (lv_room (Nat.le_of_ble_eq_true rfl)) dX12_lower_12 ⟨Nat.le_of_ble_eq_true rfl, Nat.le_of_ble_eq_true rfl⟩) hS (fun q _ h => hFc q h) hFc (fun r3 u t H1 locs ht hvm hw hB hz1 hk1 hS => ?_)
    have hr3 : (k0.toInt < s1.toInt ∧ r3.toInt = (A2 k0.toNatClampNeg).toInt) ∨ (s1.toInt ≤ k0.toInt ∧ r3.toInt = 0) := hw
    obtain ⟨hP1, hD1⟩ := hB
    rw [ht] at hP1
    have hD1 := hD1.weaken (fun _ q _ h => hFc q.1 h)
    clear hP hD hFc hk1 hz1
    have hP := hP1
    have hD := hD1
    clear hP1 hD1
    generalize H1 = H at hP hS ⊢
    have hP : va_P D vwCl (MW cy ad s0 s1 A2 s3 A4 A5 J6 A7 s8 s9 s10 A11 J12 A13 s14 s15 s16 s17 s18 s19 A20 A21 A22 A23 A24 A25 A26 A27 A28 s29 A30 A31 A32 s33 s34 s35 A36 A37 A38 A39 A40 A41 A42 A43 A44 A45 A46 s47 A48 s49 A50 A51 J52 J53 R54 s55 s56 s57 A58 s59) H := hP
    have hD : va_D A (MW cy ad s0 s1 A2 s3 A4 A5 J6 A7 s8 s9 s10 A11 J12 A13 s14 s15 s16 s17 s18 s19 A20 A21 A22 A23 A24 A25 A26 A27 A28 s29 A30 A31 A32 s33 s34 s35 A36 A37 A38 A39 A40 A41 A42 A43 A44 A45 A46 s47 A48 s49 A50 A51 J52 J53 R54 s55 s56 s57 A58 s59) := hD
    refine W.widen (k := 0) (n := 0) (Nat.le_of_ble_eq_true rfl) (Nat.le_of_ble_eq_true rfl) ?_
    refine lv_bipush (v := 122) hx hb dX12_lower_15 (by decide +kernel) ?_
    refine lv_icmp_gt (tgt := 24) hx hb dX12_lower_17 (by decide) (fun c4 => ?_) (fun c4 => ?_)
    · have c4 : (122) < r3.toInt := by have h := z_lt c4; rw [show (122 : Int32).toInt = 122 from by decide +kernel] at h; exact h
      refine lv_iconst (v := 0) hx hb dX12_lower_24 (by decide +kernel) ?_
      refine W.widen (k := 0) (n := 0) (Nat.le_of_ble_eq_true rfl) (Nat.le_of_ble_eq_true rfl) ?_
      exact W.zret (v := 0) (ty := .boolean) hx hb hr (rfl) (fun t ht hW => ⟨⟨0, (), rfl, (v_lower_4 s1 A2 k0 r1 r3 hpre hr1 c2 hr3 c4), by rw [ht]; exact hP, hD⟩, hS.F ht⟩) hS.2.2 dX12_lower_25
    · have c4 : r3.toInt ≤ (122) := by have h := z_nlt c4; rw [show (122 : Int32).toInt = 122 from by decide +kernel] at h; exact h
      refine lv_iconst (v := 1) hx hb dX12_lower_20 (by decide +kernel) ?_
      refine lv_goto (tgt := 25) hx hb dX12_lower_21 (by decide) ?_
      refine W.widen (k := 0) (n := 0) (Nat.le_of_ble_eq_true rfl) (Nat.le_of_ble_eq_true rfl) ?_
      exact W.zret (v := 1) (ty := .boolean) hx hb hr (rfl) (fun t ht hW => ⟨⟨1, (), rfl, (v_lower_5 s1 A2 k0 r1 r3 hpre hr1 c2 hr3 c4), by rw [ht]; exact hP, hD⟩, hS.F ht⟩) hS.2.2 dX12_lower_25

def wqM_wrong0 : List Cond := [.code yX12_wrong cX12_wrong 3 none, .fieldLink RX12 138 "PhraseDeskModel" "error" "I", .fieldLink RX12 141 "PhraseDeskModel" "where" "I"]
def wqM_wrong : List Cond := wqM_wrong0 ++ wsX120
set_option maxHeartbeats 4000000 in
set_option maxRecDepth 100000 in
theorem M_wrong (l : Launch) (D : va_G) (cy : Nat → ClassId) (sz0 : Nat) (sa : Nat → Nat) (ad : Nat → Nat) (s0 : Int32) (s1 : Int32) (A2 : Nat → Int32) (s3 : Int32) (A4 : Nat → Int32) (A5 : Nat → Int32) (J6 : Nat → Int64) (A7 : Nat → Int32) (s8 : Int32) (s9 : Int32) (s10 : Int32) (A11 : Nat → Int32) (J12 : Nat → Int64) (A13 : Nat → Int32) (s14 : Int32) (s15 : Int32) (s16 : Int32) (s17 : Int32) (s18 : Int32) (s19 : Int32) (A20 : Nat → Int32) (A21 : Nat → Int32) (A22 : Nat → Int32) (A23 : Nat → Int32) (A24 : Nat → Int32) (A25 : Nat → Int32) (A26 : Nat → Int32) (A27 : Nat → Int32) (A28 : Nat → Int32) (s29 : Int32) (A30 : Nat → Int32) (A31 : Nat → Int32) (A32 : Nat → Int32) (s33 : Int32) (s34 : Int32) (s35 : Int32) (A36 : Nat → Int32) (A37 : Nat → Int32) (A38 : Nat → Int32) (A39 : Nat → Int32) (A40 : Nat → Int32) (A41 : Nat → Int32) (A42 : Nat → Int32) (A43 : Nat → Int32) (A44 : Nat → Int32) (A45 : Nat → Int32) (A46 : Nat → Int32) (s47 : Int32) (A48 : Nat → Int32) (s49 : Int32) (A50 : Nat → Int32) (A51 : Nat → Int32) (J52 : Nat → Int64) (J53 : Nat → Int64) (R54 : Nat → UInt64) (s55 : Int32) (s56 : Int32) (s57 : Int32) (A58 : Nat → Int32) (s59 : Int32) (sz : Nat) (k0 : Int32) (k1 : Int32) (hpre : True) : Met l yX12_wrong wqM_wrong ({ frames := 0, cells := 0, slots := 0, locals := 0 }) (PcW D cy sz0 sa [.ref (ad 0), .int k0, .int k1] (MW cy ad s0 s1 A2 s3 A4 A5 J6 A7 s8 s9 s10 A11 J12 A13 s14 s15 s16 s17 s18 s19 A20 A21 A22 A23 A24 A25 A26 A27 A28 s29 A30 A31 A32 s33 s34 s35 A36 A37 A38 A39 A40 A41 A42 A43 A44 A45 A46 s47 A48 s49 A50 A51 J52 J53 R54 s55 s56 s57 A58 s59) sz) (va_Qv (fun (u : Int32 × Int32) => (s8.toInt = 0 → u.1 = k0) ∧ (¬ s8.toInt = 0 → u.1 = s8)) (fun (u : Int32 × Int32) (t : State) => BW D (MW cy ad s0 s1 A2 s3 A4 A5 J6 A7 u.1 u.2 s10 A11 J12 A13 s14 s15 s16 s17 s18 s19 A20 A21 A22 A23 A24 A25 A26 A27 A28 s29 A30 A31 A32 s33 s34 s35 A36 A37 A38 A39 A40 A41 A42 A43 A44 A45 A46 s47 A48 s49 A50 A51 J52 J53 R54 s55 s56 s57 A58 s59) (va_A (MW cy ad s0 s1 A2 s3 A4 A5 J6 A7 s8 s9 s10 A11 J12 A13 s14 s15 s16 s17 s18 s19 A20 A21 A22 A23 A24 A25 A26 A27 A28 s29 A30 A31 A32 s33 s34 s35 A36 A37 A38 A39 A40 A41 A42 A43 A44 A45 A46 s47 A48 s49 A50 A51 J52 J53 R54 s55 s56 s57 A58 s59) sz) t) (va_A (MW cy ad s0 s1 A2 s3 A4 A5 J6 A7 s8 s9 s10 A11 J12 A13 s14 s15 s16 s17 s18 s19 A20 A21 A22 A23 A24 A25 A26 A27 A28 s29 A30 A31 A32 s33 s34 s35 A36 A37 A38 A39 A40 A41 A42 A43 A44 A45 A46 s47 A48 s49 A50 A51 J52 J53 R54 s55 s56 s57 A58 s59) sz)) 0 0 (va_A (MW cy ad s0 s1 A2 s3 A4 A5 J6 A7 s8 s9 s10 A11 J12 A13 s14 s15 s16 s17 s18 s19 A20 A21 A22 A23 A24 A25 A26 A27 A28 s29 A30 A31 A32 s33 s34 s35 A36 A37 A38 A39 A40 A41 A42 A43 A44 A45 A46 s47 A48 s49 A50 A51 J52 J53 R54 s55 s56 s57 A58 s59) sz) := by
  refine Met.ofW (cc := cX12_wrong) (maxL := 3) (ret := none) (by decide) rfl ?_
  intro p e s m args below meth c s₁ B hml hv
  obtain ⟨rfl, hsz, hP, hD0, hE⟩ := hv
  have hx := B.exec
  have hb := B.bytes
  have hr := B.returns
  have hts := atoms_spec (ws := wqM_wrong) B.pre
  have hown : s.vm.findClass RX12 = some m.cls := findClass_of_methodNamed B.named
  have hlocks := B.notSynchronized
  subst hsz
  have hK := hE.1
  have hD := hD0.self (sz := s.heap.size)
  have hAF := frA hD0 hE.2.1
  generalize hAe : va_A (MW cy ad s0 s1 A2 s3 A4 A5 J6 A7 s8 s9 s10 A11 J12 A13 s14 s15 s16 s17 s18 s19 A20 A21 A22 A23 A24 A25 A26 A27 A28 s29 A30 A31 A32 s33 s34 s35 A36 A37 A38 A39 A40 A41 A42 A43 A44 A45 A46 s47 A48 s49 A50 A51 J52 J53 R54 s55 s56 s57 A58 s59) s.heap.size = A at hD hAF ⊢
  have hA : ∀ q : Nat, s.heap.size ≤ q → A q := fun q h => by rw [← hAe]; exact Or.inr h
  have hS : va_S A s.heap s.heap [] := va_S.rf
  have hl := lv_entry ([.ref (ad 0), .int k0, .int k1]) (n := 3) (Nat.le_of_ble_eq_true rfl)
  rw [lg_entry_eq]
  generalize (lg_sl ([.ref (ad 0), .int k0, .int k1]) ++ List.replicate (3 - (lg_sl ([.ref (ad 0), .int k0, .int k1])).length) Slot.unset).toArray = ls at hl ⊢
  have hl : lv_has ls 3 [(0, .ref (ad 0)), (1, .int k0), (2, .int k1)] := hl
  refine lv_aload_n hx hb dX12_wrong_0 rfl (lv_at hl 0 rfl) ?_
  refine va_get (D := D) (ci := 14) (v := .int s8) (C := RX12) (T := TX12) (N := 60) hx hb hts (fun _ h => (List.mem_append_right _ h)) hown hK hP 0 rfl rfl 8 (by decide) (hts (.fieldLink RX12 138 "PhraseDeskModel" "error" "I") (List.mem_of_getElem? (i := 1) rfl)) (fun _ h9 => h9) rfl dX12_wrong_1 ?_
  refine lv_if_ne (tgt := 17) hx hb dX12_wrong_4 (by decide) (fun c1 => ?_) (fun c1 => ?_)
  · have c1 : ¬ s8.toInt = (0) := by have h := z_ne c1; rw [show (0 : Int32).toInt = 0 from by decide +kernel] at h; exact h
    refine W.widen (k := 0) (n := 0) (Nat.le_of_ble_eq_true rfl) (Nat.le_of_ble_eq_true rfl) ?_
    exact W.vret hx hb hr (fun t ht hW => ⟨⟨⟨s8, s9⟩, rfl, (v_wrong_1 s8 k0 hpre c1), by rw [ht]; exact hP, hD⟩, hS.F ht⟩) hS.2.2 dX12_wrong_17
  · have c1 : s8.toInt = (0) := by have h := z_eq c1; rw [show (0 : Int32).toInt = 0 from by decide +kernel] at h; exact h
    refine lv_aload_n hx hb dX12_wrong_7 rfl (lv_at hl 0 rfl) ?_
    refine lv_iload_n hx hb dX12_wrong_8 rfl (lv_at hl 1 rfl) ?_
    refine va_put (D := D) (ci := 14) (v := .int k0) (ty := .int) (C := RX12) (T := TX12) (N := 60) hx hb hts (fun _ h => (List.mem_append_right _ h)) tyX12 tyX12_ok nmX12 hown hK hP hD hS 0 rfl rfl 8 (by decide) (hts (.fieldLink RX12 138 "PhraseDeskModel" "error" "I") (List.mem_of_getElem? (i := 1) rfl)) (fun _ h9 => h9) rfl (by decide +kernel) rfl rfl (Nat.le_of_ble_eq_true rfl) dX12_wrong_9 (fun H locs hP hD hS => ?_)
    have hP : va_P D vwCl (MW cy ad s0 s1 A2 s3 A4 A5 J6 A7 k0 s9 s10 A11 J12 A13 s14 s15 s16 s17 s18 s19 A20 A21 A22 A23 A24 A25 A26 A27 A28 s29 A30 A31 A32 s33 s34 s35 A36 A37 A38 A39 A40 A41 A42 A43 A44 A45 A46 s47 A48 s49 A50 A51 J52 J53 R54 s55 s56 s57 A58 s59) H := hP
    have hD : va_D A (MW cy ad s0 s1 A2 s3 A4 A5 J6 A7 k0 s9 s10 A11 J12 A13 s14 s15 s16 s17 s18 s19 A20 A21 A22 A23 A24 A25 A26 A27 A28 s29 A30 A31 A32 s33 s34 s35 A36 A37 A38 A39 A40 A41 A42 A43 A44 A45 A46 s47 A48 s49 A50 A51 J52 J53 R54 s55 s56 s57 A58 s59) := hD
    refine lv_aload_n hx hb dX12_wrong_12 rfl (lv_at hl 0 rfl) ?_
    refine lv_iload_n hx hb dX12_wrong_13 rfl (lv_at hl 2 rfl) ?_
    refine va_put (D := D) (ci := 14) (v := .int k1) (ty := .int) (C := RX12) (T := TX12) (N := 60) hx hb hts (fun _ h => (List.mem_append_right _ h)) tyX12 tyX12_ok nmX12 hown hK hP hD hS 0 rfl rfl 9 (by decide) (hts (.fieldLink RX12 141 "PhraseDeskModel" "where" "I") (List.mem_of_getElem? (i := 2) rfl)) (fun _ h9 => h9) rfl (by decide +kernel) rfl rfl (Nat.le_of_ble_eq_true rfl) dX12_wrong_14 (fun H locs hP hD hS => ?_)
    have hP : va_P D vwCl (MW cy ad s0 s1 A2 s3 A4 A5 J6 A7 k0 k1 s10 A11 J12 A13 s14 s15 s16 s17 s18 s19 A20 A21 A22 A23 A24 A25 A26 A27 A28 s29 A30 A31 A32 s33 s34 s35 A36 A37 A38 A39 A40 A41 A42 A43 A44 A45 A46 s47 A48 s49 A50 A51 J52 J53 R54 s55 s56 s57 A58 s59) H := hP
    have hD : va_D A (MW cy ad s0 s1 A2 s3 A4 A5 J6 A7 k0 k1 s10 A11 J12 A13 s14 s15 s16 s17 s18 s19 A20 A21 A22 A23 A24 A25 A26 A27 A28 s29 A30 A31 A32 s33 s34 s35 A36 A37 A38 A39 A40 A41 A42 A43 A44 A45 A46 s47 A48 s49 A50 A51 J52 J53 R54 s55 s56 s57 A58 s59) := hD
    refine W.widen (k := 0) (n := 0) (Nat.le_of_ble_eq_true rfl) (Nat.le_of_ble_eq_true rfl) ?_
    exact W.vret hx hb hr (fun t ht hW => ⟨⟨⟨k0, k1⟩, rfl, (v_wrong_2 s8 k0 hpre c1), by rw [ht]; exact hP, hD⟩, hS.F ht⟩) hS.2.2 dX12_wrong_17

def wqM_add0 : List Cond := [.code yX12_add cX12_add 5 none, .fieldLink RX12 13 "PhraseDeskModel" "tokenKind" "[I", .fieldLink RX12 144 "PhraseDeskModel" "tokens" "I", .fieldLink RX12 16 "PhraseDeskModel" "tokenAt" "[I", .fieldLink RX12 19 "PhraseDeskModel" "token" "[J", .fieldLink RX12 23 "PhraseDeskModel" "scale" "[I"]
def wqM_add : List Cond := wqM_add0 ++ wsX120
set_option maxHeartbeats 4000000 in
set_option maxRecDepth 100000 in
theorem M_add (l : Launch) (D : va_G) (cy : Nat → ClassId) (sz0 : Nat) (sa : Nat → Nat) (ad : Nat → Nat) (s0 : Int32) (s1 : Int32) (A2 : Nat → Int32) (s3 : Int32) (A4 : Nat → Int32) (A5 : Nat → Int32) (J6 : Nat → Int64) (A7 : Nat → Int32) (s8 : Int32) (s9 : Int32) (s10 : Int32) (A11 : Nat → Int32) (J12 : Nat → Int64) (A13 : Nat → Int32) (s14 : Int32) (s15 : Int32) (s16 : Int32) (s17 : Int32) (s18 : Int32) (s19 : Int32) (A20 : Nat → Int32) (A21 : Nat → Int32) (A22 : Nat → Int32) (A23 : Nat → Int32) (A24 : Nat → Int32) (A25 : Nat → Int32) (A26 : Nat → Int32) (A27 : Nat → Int32) (A28 : Nat → Int32) (s29 : Int32) (A30 : Nat → Int32) (A31 : Nat → Int32) (A32 : Nat → Int32) (s33 : Int32) (s34 : Int32) (s35 : Int32) (A36 : Nat → Int32) (A37 : Nat → Int32) (A38 : Nat → Int32) (A39 : Nat → Int32) (A40 : Nat → Int32) (A41 : Nat → Int32) (A42 : Nat → Int32) (A43 : Nat → Int32) (A44 : Nat → Int32) (A45 : Nat → Int32) (A46 : Nat → Int32) (s47 : Int32) (A48 : Nat → Int32) (s49 : Int32) (A50 : Nat → Int32) (A51 : Nat → Int32) (J52 : Nat → Int64) (J53 : Nat → Int64) (R54 : Nat → UInt64) (s55 : Int32) (s56 : Int32) (s57 : Int32) (A58 : Nat → Int32) (s59 : Int32) (sz : Nat) (k0 : Int32) (k1 : Int32) (k2 : Int64) (hpre : 0 ≤ s3.toInt ∧ s3.toInt ≤ 41) : Met l yX12_add wqM_add ({ frames := 0, cells := 0, slots := 0, locals := 0 }) (PcW D cy sz0 sa [.ref (ad 0), .int k0, .int k1, .long k2] (MW cy ad s0 s1 A2 s3 A4 A5 J6 A7 s8 s9 s10 A11 J12 A13 s14 s15 s16 s17 s18 s19 A20 A21 A22 A23 A24 A25 A26 A27 A28 s29 A30 A31 A32 s33 s34 s35 A36 A37 A38 A39 A40 A41 A42 A43 A44 A45 A46 s47 A48 s49 A50 A51 J52 J53 R54 s55 s56 s57 A58 s59) sz) (va_Qv (fun (u : Int32) => u.toInt = s3.toInt + 1) (fun (u : Int32) (t : State) => BW D (MW cy ad s0 s1 A2 u (upd A4 s3.toNatClampNeg k0) (upd A5 s3.toNatClampNeg k1) (vp_updL J6 s3.toNatClampNeg k2) (upd A7 s3.toNatClampNeg 0) s8 s9 s10 A11 J12 A13 s14 s15 s16 s17 s18 s19 A20 A21 A22 A23 A24 A25 A26 A27 A28 s29 A30 A31 A32 s33 s34 s35 A36 A37 A38 A39 A40 A41 A42 A43 A44 A45 A46 s47 A48 s49 A50 A51 J52 J53 R54 s55 s56 s57 A58 s59) (va_A (MW cy ad s0 s1 A2 s3 A4 A5 J6 A7 s8 s9 s10 A11 J12 A13 s14 s15 s16 s17 s18 s19 A20 A21 A22 A23 A24 A25 A26 A27 A28 s29 A30 A31 A32 s33 s34 s35 A36 A37 A38 A39 A40 A41 A42 A43 A44 A45 A46 s47 A48 s49 A50 A51 J52 J53 R54 s55 s56 s57 A58 s59) sz) t) (va_A (MW cy ad s0 s1 A2 s3 A4 A5 J6 A7 s8 s9 s10 A11 J12 A13 s14 s15 s16 s17 s18 s19 A20 A21 A22 A23 A24 A25 A26 A27 A28 s29 A30 A31 A32 s33 s34 s35 A36 A37 A38 A39 A40 A41 A42 A43 A44 A45 A46 s47 A48 s49 A50 A51 J52 J53 R54 s55 s56 s57 A58 s59) sz)) 0 0 (va_A (MW cy ad s0 s1 A2 s3 A4 A5 J6 A7 s8 s9 s10 A11 J12 A13 s14 s15 s16 s17 s18 s19 A20 A21 A22 A23 A24 A25 A26 A27 A28 s29 A30 A31 A32 s33 s34 s35 A36 A37 A38 A39 A40 A41 A42 A43 A44 A45 A46 s47 A48 s49 A50 A51 J52 J53 R54 s55 s56 s57 A58 s59) sz) := by
  refine Met.ofW (cc := cX12_add) (maxL := 5) (ret := none) (by decide) rfl ?_
  intro p e s m args below meth c s₁ B hml hv
  obtain ⟨rfl, hsz, hP, hD0, hE⟩ := hv
  have hx := B.exec
  have hb := B.bytes
  have hr := B.returns
  have hts := atoms_spec (ws := wqM_add) B.pre
  have hown : s.vm.findClass RX12 = some m.cls := findClass_of_methodNamed B.named
  have hlocks := B.notSynchronized
  subst hsz
  have hK := hE.1
  have hD := hD0.self (sz := s.heap.size)
  have hAF := frA hD0 hE.2.1
  generalize hAe : va_A (MW cy ad s0 s1 A2 s3 A4 A5 J6 A7 s8 s9 s10 A11 J12 A13 s14 s15 s16 s17 s18 s19 A20 A21 A22 A23 A24 A25 A26 A27 A28 s29 A30 A31 A32 s33 s34 s35 A36 A37 A38 A39 A40 A41 A42 A43 A44 A45 A46 s47 A48 s49 A50 A51 J52 J53 R54 s55 s56 s57 A58 s59) s.heap.size = A at hD hAF ⊢
  have hA : ∀ q : Nat, s.heap.size ≤ q → A q := fun q h => by rw [← hAe]; exact Or.inr h
  have hS : va_S A s.heap s.heap [] := va_S.rf
  have hl := lv_entry ([.ref (ad 0), .int k0, .int k1, .long k2]) (n := 5) (Nat.le_of_ble_eq_true rfl)
  rw [lg_entry_eq]
  generalize (lg_sl ([.ref (ad 0), .int k0, .int k1, .long k2]) ++ List.replicate (5 - (lg_sl ([.ref (ad 0), .int k0, .int k1, .long k2])).length) Slot.unset).toArray = ls at hl ⊢
  have hl : lv_has ls 5 [(0, .ref (ad 0)), (1, .int k0), (2, .int k1), (3, .long k2)] := hl
  refine lv_aload_n hx hb dX12_add_0 rfl (lv_at hl 0 rfl) ?_
  refine va_get (D := D) (ci := 14) (v := .ref (ad 4)) (C := RX12) (T := TX12) (N := 60) hx hb hts (fun _ h => (List.mem_append_right _ h)) hown hK hP 0 rfl rfl 4 (by decide) (hts (.fieldLink RX12 13 "PhraseDeskModel" "tokenKind" "[I") (List.mem_of_getElem? (i := 1) rfl)) (fun _ h9 => h9) rfl dX12_add_1 ?_
  refine lv_aload_n hx hb dX12_add_4 rfl (lv_at hl 0 rfl) ?_
  refine va_get (D := D) (ci := 14) (v := .int s3) (C := RX12) (T := TX12) (N := 60) hx hb hts (fun _ h => (List.mem_append_right _ h)) hown hK hP 0 rfl rfl 3 (by decide) (hts (.fieldLink RX12 144 "PhraseDeskModel" "tokens" "I") (List.mem_of_getElem? (i := 2) rfl)) (fun _ h9 => h9) rfl dX12_add_5 ?_
  refine lv_iload_n hx hb dX12_add_8 rfl (lv_at hl 1 rfl) ?_
  refine va_iast hx hb hK hP hD hS 2 0 rfl rfl (v_add_1 s3 hpre) dX12_add_9 (fun H locs hP hD hS => ?_)
  have hP : va_P D vwCl (MW cy ad s0 s1 A2 s3 (upd A4 s3.toNatClampNeg k0) A5 J6 A7 s8 s9 s10 A11 J12 A13 s14 s15 s16 s17 s18 s19 A20 A21 A22 A23 A24 A25 A26 A27 A28 s29 A30 A31 A32 s33 s34 s35 A36 A37 A38 A39 A40 A41 A42 A43 A44 A45 A46 s47 A48 s49 A50 A51 J52 J53 R54 s55 s56 s57 A58 s59) H := hP
  have hD : va_D A (MW cy ad s0 s1 A2 s3 (upd A4 s3.toNatClampNeg k0) A5 J6 A7 s8 s9 s10 A11 J12 A13 s14 s15 s16 s17 s18 s19 A20 A21 A22 A23 A24 A25 A26 A27 A28 s29 A30 A31 A32 s33 s34 s35 A36 A37 A38 A39 A40 A41 A42 A43 A44 A45 A46 s47 A48 s49 A50 A51 J52 J53 R54 s55 s56 s57 A58 s59) := hD
  refine lv_aload_n hx hb dX12_add_10 rfl (lv_at hl 0 rfl) ?_
  refine va_get (D := D) (ci := 14) (v := .ref (ad 5)) (C := RX12) (T := TX12) (N := 60) hx hb hts (fun _ h => (List.mem_append_right _ h)) hown hK hP 0 rfl rfl 5 (by decide) (hts (.fieldLink RX12 16 "PhraseDeskModel" "tokenAt" "[I") (List.mem_of_getElem? (i := 3) rfl)) (fun _ h9 => h9) rfl dX12_add_11 ?_
  refine lv_aload_n hx hb dX12_add_14 rfl (lv_at hl 0 rfl) ?_
  refine va_get (D := D) (ci := 14) (v := .int s3) (C := RX12) (T := TX12) (N := 60) hx hb hts (fun _ h => (List.mem_append_right _ h)) hown hK hP 0 rfl rfl 3 (by decide) (hts (.fieldLink RX12 144 "PhraseDeskModel" "tokens" "I") (List.mem_of_getElem? (i := 2) rfl)) (fun _ h9 => h9) rfl dX12_add_15 ?_
  refine lv_iload_n hx hb dX12_add_18 rfl (lv_at hl 2 rfl) ?_
  refine va_iast hx hb hK hP hD hS 3 0 rfl rfl (v_add_2 s3 hpre) dX12_add_19 (fun H locs hP hD hS => ?_)
  have hP : va_P D vwCl (MW cy ad s0 s1 A2 s3 (upd A4 s3.toNatClampNeg k0) (upd A5 s3.toNatClampNeg k1) J6 A7 s8 s9 s10 A11 J12 A13 s14 s15 s16 s17 s18 s19 A20 A21 A22 A23 A24 A25 A26 A27 A28 s29 A30 A31 A32 s33 s34 s35 A36 A37 A38 A39 A40 A41 A42 A43 A44 A45 A46 s47 A48 s49 A50 A51 J52 J53 R54 s55 s56 s57 A58 s59) H := hP
  have hD : va_D A (MW cy ad s0 s1 A2 s3 (upd A4 s3.toNatClampNeg k0) (upd A5 s3.toNatClampNeg k1) J6 A7 s8 s9 s10 A11 J12 A13 s14 s15 s16 s17 s18 s19 A20 A21 A22 A23 A24 A25 A26 A27 A28 s29 A30 A31 A32 s33 s34 s35 A36 A37 A38 A39 A40 A41 A42 A43 A44 A45 A46 s47 A48 s49 A50 A51 J52 J53 R54 s55 s56 s57 A58 s59) := hD
  refine lv_aload_n hx hb dX12_add_20 rfl (lv_at hl 0 rfl) ?_
  refine va_get (D := D) (ci := 14) (v := .ref (ad 6)) (C := RX12) (T := TX12) (N := 60) hx hb hts (fun _ h => (List.mem_append_right _ h)) hown hK hP 0 rfl rfl 6 (by decide) (hts (.fieldLink RX12 19 "PhraseDeskModel" "token" "[J") (List.mem_of_getElem? (i := 4) rfl)) (fun _ h9 => h9) rfl dX12_add_21 ?_
  refine lv_aload_n hx hb dX12_add_24 rfl (lv_at hl 0 rfl) ?_
  refine va_get (D := D) (ci := 14) (v := .int s3) (C := RX12) (T := TX12) (N := 60) hx hb hts (fun _ h => (List.mem_append_right _ h)) hown hK hP 0 rfl rfl 3 (by decide) (hts (.fieldLink RX12 144 "PhraseDeskModel" "tokens" "I") (List.mem_of_getElem? (i := 2) rfl)) (fun _ h9 => h9) rfl dX12_add_25 ?_
  refine lv_lload_n hx hb dX12_add_28 rfl (lv_at hl 3 rfl) ?_
  refine va_last hx hb hK hP hD hS 4 1 rfl rfl (v_add_3 s3 hpre) dX12_add_29 (fun H locs hP hD hS => ?_)
  have hP : va_P D vwCl (MW cy ad s0 s1 A2 s3 (upd A4 s3.toNatClampNeg k0) (upd A5 s3.toNatClampNeg k1) (vp_updL J6 s3.toNatClampNeg k2) A7 s8 s9 s10 A11 J12 A13 s14 s15 s16 s17 s18 s19 A20 A21 A22 A23 A24 A25 A26 A27 A28 s29 A30 A31 A32 s33 s34 s35 A36 A37 A38 A39 A40 A41 A42 A43 A44 A45 A46 s47 A48 s49 A50 A51 J52 J53 R54 s55 s56 s57 A58 s59) H := hP
  have hD : va_D A (MW cy ad s0 s1 A2 s3 (upd A4 s3.toNatClampNeg k0) (upd A5 s3.toNatClampNeg k1) (vp_updL J6 s3.toNatClampNeg k2) A7 s8 s9 s10 A11 J12 A13 s14 s15 s16 s17 s18 s19 A20 A21 A22 A23 A24 A25 A26 A27 A28 s29 A30 A31 A32 s33 s34 s35 A36 A37 A38 A39 A40 A41 A42 A43 A44 A45 A46 s47 A48 s49 A50 A51 J52 J53 R54 s55 s56 s57 A58 s59) := hD
  refine lv_aload_n hx hb dX12_add_30 rfl (lv_at hl 0 rfl) ?_
  refine va_get (D := D) (ci := 14) (v := .ref (ad 7)) (C := RX12) (T := TX12) (N := 60) hx hb hts (fun _ h => (List.mem_append_right _ h)) hown hK hP 0 rfl rfl 7 (by decide) (hts (.fieldLink RX12 23 "PhraseDeskModel" "scale" "[I") (List.mem_of_getElem? (i := 5) rfl)) (fun _ h9 => h9) rfl dX12_add_31 ?_
  refine lv_aload_n hx hb dX12_add_34 rfl (lv_at hl 0 rfl) ?_
  refine va_get (D := D) (ci := 14) (v := .int s3) (C := RX12) (T := TX12) (N := 60) hx hb hts (fun _ h => (List.mem_append_right _ h)) hown hK hP 0 rfl rfl 3 (by decide) (hts (.fieldLink RX12 144 "PhraseDeskModel" "tokens" "I") (List.mem_of_getElem? (i := 2) rfl)) (fun _ h9 => h9) rfl dX12_add_35 ?_
  refine lv_iconst (v := 0) hx hb dX12_add_38 (by decide +kernel) ?_
  refine va_iast hx hb hK hP hD hS 5 0 rfl rfl (v_add_4 s3 hpre) dX12_add_39 (fun H locs hP hD hS => ?_)
  have hP : va_P D vwCl (MW cy ad s0 s1 A2 s3 (upd A4 s3.toNatClampNeg k0) (upd A5 s3.toNatClampNeg k1) (vp_updL J6 s3.toNatClampNeg k2) (upd A7 s3.toNatClampNeg 0) s8 s9 s10 A11 J12 A13 s14 s15 s16 s17 s18 s19 A20 A21 A22 A23 A24 A25 A26 A27 A28 s29 A30 A31 A32 s33 s34 s35 A36 A37 A38 A39 A40 A41 A42 A43 A44 A45 A46 s47 A48 s49 A50 A51 J52 J53 R54 s55 s56 s57 A58 s59) H := hP
  have hD : va_D A (MW cy ad s0 s1 A2 s3 (upd A4 s3.toNatClampNeg k0) (upd A5 s3.toNatClampNeg k1) (vp_updL J6 s3.toNatClampNeg k2) (upd A7 s3.toNatClampNeg 0) s8 s9 s10 A11 J12 A13 s14 s15 s16 s17 s18 s19 A20 A21 A22 A23 A24 A25 A26 A27 A28 s29 A30 A31 A32 s33 s34 s35 A36 A37 A38 A39 A40 A41 A42 A43 A44 A45 A46 s47 A48 s49 A50 A51 J52 J53 R54 s55 s56 s57 A58 s59) := hD
  refine lv_aload_n hx hb dX12_add_40 rfl (lv_at hl 0 rfl) ?_
  refine lv_dup hx hb dX12_add_41 rfl ?_
  refine va_get (D := D) (ci := 14) (v := .int s3) (C := RX12) (T := TX12) (N := 60) hx hb hts (fun _ h => (List.mem_append_right _ h)) hown hK hP 0 rfl rfl 3 (by decide) (hts (.fieldLink RX12 144 "PhraseDeskModel" "tokens" "I") (List.mem_of_getElem? (i := 2) rfl)) (fun _ h9 => h9) rfl dX12_add_42 ?_
  refine lv_iconst (v := 1) hx hb dX12_add_45 (by decide +kernel) ?_
  refine lv_iadd hx hb dX12_add_46 ?_
  refine lv_topi (fun x1 ex1 => ?_)
  have tx1 := (v_add_5 s3 x1 hpre ex1)
  refine va_put (D := D) (ci := 14) (v := .int x1) (ty := .int) (C := RX12) (T := TX12) (N := 60) hx hb hts (fun _ h => (List.mem_append_right _ h)) tyX12 tyX12_ok nmX12 hown hK hP hD hS 0 rfl rfl 3 (by decide) (hts (.fieldLink RX12 144 "PhraseDeskModel" "tokens" "I") (List.mem_of_getElem? (i := 2) rfl)) (fun _ h9 => h9) rfl (by decide +kernel) rfl rfl (Nat.le_of_ble_eq_true rfl) dX12_add_47 (fun H locs hP hD hS => ?_)
  have hP : va_P D vwCl (MW cy ad s0 s1 A2 x1 (upd A4 s3.toNatClampNeg k0) (upd A5 s3.toNatClampNeg k1) (vp_updL J6 s3.toNatClampNeg k2) (upd A7 s3.toNatClampNeg 0) s8 s9 s10 A11 J12 A13 s14 s15 s16 s17 s18 s19 A20 A21 A22 A23 A24 A25 A26 A27 A28 s29 A30 A31 A32 s33 s34 s35 A36 A37 A38 A39 A40 A41 A42 A43 A44 A45 A46 s47 A48 s49 A50 A51 J52 J53 R54 s55 s56 s57 A58 s59) H := hP
  have hD : va_D A (MW cy ad s0 s1 A2 x1 (upd A4 s3.toNatClampNeg k0) (upd A5 s3.toNatClampNeg k1) (vp_updL J6 s3.toNatClampNeg k2) (upd A7 s3.toNatClampNeg 0) s8 s9 s10 A11 J12 A13 s14 s15 s16 s17 s18 s19 A20 A21 A22 A23 A24 A25 A26 A27 A28 s29 A30 A31 A32 s33 s34 s35 A36 A37 A38 A39 A40 A41 A42 A43 A44 A45 A46 s47 A48 s49 A50 A51 J52 J53 R54 s55 s56 s57 A58 s59) := hD
  refine W.widen (k := 0) (n := 0) (Nat.le_of_ble_eq_true rfl) (Nat.le_of_ble_eq_true rfl) ?_
  exact W.vret hx hb hr (fun t ht hW => ⟨⟨x1, rfl, (v_add_6 s3 x1 hpre ex1 tx1), by rw [ht]; exact hP, hD⟩, hS.F ht⟩) hS.2.2 dX12_add_50

def wqM_name0 : List Cond := [.code yX12_name cX12_name 5 (some .int), .methodLink RX12 163 yX12_lower, .instanceMethod yX12_lower, .selects RX12 yX12_lower yX12_lower, .initialized RX12, .code yX12_lower cX12_lower 2 (some .boolean), .methodLink RX12 134 yX12_at, .instanceMethod yX12_at, .selects RX12 yX12_at yX12_at, .code yX12_at cX12_at 2 (some .int), .fieldLink RX12 131 "PhraseDeskModel" "size" "I", .fieldLink RX12 7 "PhraseDeskModel" "letters" "[I", .methodLink RX12 159 yX12_add, .instanceMethod yX12_add, .selects RX12 yX12_add yX12_add, .code yX12_add cX12_add 5 none, .fieldLink RX12 13 "PhraseDeskModel" "tokenKind" "[I", .fieldLink RX12 144 "PhraseDeskModel" "tokens" "I", .fieldLink RX12 16 "PhraseDeskModel" "tokenAt" "[I", .fieldLink RX12 19 "PhraseDeskModel" "token" "[J", .fieldLink RX12 23 "PhraseDeskModel" "scale" "[I", .methodLink RX12 155 yX12_wrong, .instanceMethod yX12_wrong, .selects RX12 yX12_wrong yX12_wrong, .code yX12_wrong cX12_wrong 3 none, .fieldLink RX12 138 "PhraseDeskModel" "error" "I", .fieldLink RX12 141 "PhraseDeskModel" "where" "I", .constantLong RX12 166 (27), .constantLong RX12 168 (97)]
def wqM_name : List Cond := wqM_name0 ++ wsX120
set_option maxHeartbeats 4000000 in
set_option maxRecDepth 100000 in
theorem L_name_4_1 {p : Program} {e : Env} {s : State} {m : MethodId} {below : List Frame} {meth : Method} {c : Code} (l : Launch) (D : va_G) (cy : Nat → ClassId) (sz0 : Nat) (sa : Nat → Nat) (ad : Nat → Nat) (A : Nat → Prop) (s0 : Int32) (s1 : Int32) (A2 : Nat → Int32) (s3 : Int32) (A4 : Nat → Int32) (A5 : Nat → Int32) (J6 : Nat → Int64) (A7 : Nat → Int32) (s8 : Int32) (s9 : Int32) (s10 : Int32) (A11 : Nat → Int32) (J12 : Nat → Int64) (A13 : Nat → Int32) (s14 : Int32) (s15 : Int32) (s16 : Int32) (s17 : Int32) (s18 : Int32) (s19 : Int32) (A20 : Nat → Int32) (A21 : Nat → Int32) (A22 : Nat → Int32) (A23 : Nat → Int32) (A24 : Nat → Int32) (A25 : Nat → Int32) (A26 : Nat → Int32) (A27 : Nat → Int32) (A28 : Nat → Int32) (s29 : Int32) (A30 : Nat → Int32) (A31 : Nat → Int32) (A32 : Nat → Int32) (s33 : Int32) (s34 : Int32) (s35 : Int32) (A36 : Nat → Int32) (A37 : Nat → Int32) (A38 : Nat → Int32) (A39 : Nat → Int32) (A40 : Nat → Int32) (A41 : Nat → Int32) (A42 : Nat → Int32) (A43 : Nat → Int32) (A44 : Nat → Int32) (A45 : Nat → Int32) (A46 : Nat → Int32) (s47 : Int32) (A48 : Nat → Int32) (s49 : Int32) (A50 : Nat → Int32) (A51 : Nat → Int32) (J52 : Nat → Int64) (J53 : Nat → Int64) (R54 : Nat → UInt64) (s55 : Int32) (s56 : Int32) (s57 : Int32) (A58 : Nat → Int32) (s59 : Int32) (k0 : Int32) (hx : p.tables.exec = Jvm.exec) (hb : c.code = cX12_name) (hr : meth.sig.returnType = (some .int)) (hml : c.maxLocals = 5) (hown : s.vm.findClass RX12 = some m.cls) (hts : ∀ w ∈ wqM_name, w.before #[.ref (ad 0), .int k0] s = true) (hlocks : meth.locks = false) (hE : En D cy sz0 sa s) (hAF : ∀ q, A q → Fr sz0 q) (hA : ∀ q : Nat, s.heap.size ≤ q → A q) (hpre : 0 ≤ s1.toInt ∧ s1.toInt ≤ 40 ∧ 0 ≤ s3.toInt ∧ s3.toInt ≤ k0.toInt ∧ k0.toInt < s1.toInt ∧ TKok A4 J6 A7 s3.toInt ∧ (k0.toInt < s1.toInt ∧ 97 ≤ (A2 k0.toNatClampNeg).toInt ∧ (A2 k0.toNatClampNeg).toInt ≤ 122)) : ∀ (n : Nat) (y1 : Int32) (y2 : Int64) (H : Heap) (locs : List Loc) (ls : Array Slot), (s1.toInt - y1.toInt).toNat < n → (k0.toInt ≤ y1.toInt ∧ y1.toInt ≤ s1.toInt ∧ 0 ≤ y2.toInt ∧ ((y1.toInt - k0.toInt = 0 ∧ y2.toInt = 0) ∨ (y1.toInt - k0.toInt = 1 ∧ y2.toInt ≤ 26) ∨ (y1.toInt - k0.toInt = 2 ∧ y2.toInt ≤ 728) ∨ (y1.toInt - k0.toInt = 3 ∧ y2.toInt ≤ 19682) ∨ (y1.toInt - k0.toInt = 4 ∧ y2.toInt ≤ 531440) ∨ (y1.toInt - k0.toInt = 5 ∧ y2.toInt ≤ 14348906) ∨ (6 ≤ y1.toInt - k0.toInt ∧ y2.toInt ≤ 387420488))) → va_P D vwCl (MW cy ad s0 s1 A2 s3 A4 A5 J6 A7 s8 s9 s10 A11 J12 A13 s14 s15 s16 s17 s18 s19 A20 A21 A22 A23 A24 A25 A26 A27 A28 s29 A30 A31 A32 s33 s34 s35 A36 A37 A38 A39 A40 A41 A42 A43 A44 A45 A46 s47 A48 s49 A50 A51 J52 J53 R54 s55 s56 s57 A58 s59) H → va_D A (MW cy ad s0 s1 A2 s3 A4 A5 J6 A7 s8 s9 s10 A11 J12 A13 s14 s15 s16 s17 s18 s19 A20 A21 A22 A23 A24 A25 A26 A27 A28 s29 A30 A31 A32 s33 s34 s35 A36 A37 A38 A39 A40 A41 A42 A43 A44 A45 A46 s47 A48 s49 A50 A51 J52 J53 R54 s55 s56 s57 A58 s59) → va_S A s.heap H locs → lv_has ls 5 [(3, .long y2), (2, .int y1), (0, .ref (ad 0)), (1, .int k0)] → W p l e (headSpec wqM_name ({ frames := 2, cells := 0, slots := 0, locals := 42 })).room s m #[.ref (ad 0), .int k0] below meth c H locs 0 0 (MQ below (va_Qi (fun (r : Int32) (u : Int32 × Int32 × Int32 × (Nat → Int32) × (Nat → Int32) × (Nat → Int32) × (Nat → Int64)) => k0.toInt < r.toInt ∧ r.toInt ≤ s1.toInt ∧ 0 ≤ u.1.toInt ∧ u.1.toInt ≤ r.toInt ∧ TKok u.2.2.2.1 u.2.2.2.2.2.2 u.2.2.2.2.2.1 u.1.toInt) (fun (u : Int32 × Int32 × Int32 × (Nat → Int32) × (Nat → Int32) × (Nat → Int32) × (Nat → Int64)) (t : State) => BW D (MW cy ad s0 s1 A2 u.1 u.2.2.2.1 u.2.2.2.2.1 u.2.2.2.2.2.2 u.2.2.2.2.2.1 u.2.1 u.2.2.1 s10 A11 J12 A13 s14 s15 s16 s17 s18 s19 A20 A21 A22 A23 A24 A25 A26 A27 A28 s29 A30 A31 A32 s33 s34 s35 A36 A37 A38 A39 A40 A41 A42 A43 A44 A45 A46 s47 A48 s49 A50 A51 J52 J53 R54 s55 s56 s57 A58 s59) A t) A) #[.ref (ad 0), .int k0] s 0 0 A) (F0 m 4 ls []) := by
  have hK := hE.1
  intro n
  induction n with
  | zero => intro y1 y2 H locs ls hn; exact absurd hn (Nat.not_lt_zero _)
  | succ n ih4 =>
    intro y1 y2 H locs ls hn4 hi4 hP hD hS hl
    refine lv_aload_n hx hb dX12_name_4 rfl (lv_at hl 2 rfl) ?_
    refine lv_iload_n hx hb dX12_name_5 rfl (lv_at hl 1 rfl) ?_
    have hFc := freeAll hD hS hA
    refine va_calli (va_runV (As := [.int y1]) (rest := []) ⟨hx, hb, hml, hown, hts⟩ (M_lower l D cy sz0 sa ad s0 s1 A2 s3 A4 A5 J6 A7 s8 s9 s10 A11 J12 A13 s14 s15 s16 s17 s18 s19 A20 A21 A22 A23 A24 A25 A26 A27 A28 s29 A30 A31 A32 s33 s34 s35 A36 A37 A38 A39 A40 A41 A42 A43 A44 A45 A46 s47 A48 s49 A50 A51 J52 J53 R54 s55 s56 s57 A58 s59 H.size y1 (v_name_2 s1 A2 s3 A4 J6 A7 k0 y1 y2 hpre hi4)) (cwV 1 hts (goodIn_app (goodIn_r _ [1, 2, 3, 4] rfl (by decide +kernel)) (goodIn_app (goodIn_r wqM_lower0 [5, 6, 7, 8, 4, 9, 10, 11] rfl (by decide +kernel)) (goodIn_sub (fun _ h => (List.mem_append_right _ h)) (by decide +kernel)))) rfl rfl rfl (by decide +kernel) ⟨Nat.le_of_ble_eq_true rfl, Nat.le_of_ble_eq_true rfl⟩) ⟨PcW.blind, va_recv hK hP (ci := 14) (q0 := 0) rfl rfl, PcW.mk hE hS hAF hP hD⟩ rfl rfl hl.1 rfl (lv_room (Nat.le_of_ble_eq_true rfl)) dX12_name_6 ⟨Nat.le_of_ble_eq_true rfl, Nat.le_of_ble_eq_true rfl⟩) hS (fun q _ h => hFc q h) hFc (fun r3 u t H1 locs ht hvm hw hB hz1 hk1 hS => ?_)
    have hr3 : (r3.toInt = 0 ∧ ¬ (y1.toInt < s1.toInt ∧ 97 ≤ (A2 y1.toNatClampNeg).toInt ∧ (A2 y1.toNatClampNeg).toInt ≤ 122)) ∨ (r3.toInt = 1 ∧ (y1.toInt < s1.toInt ∧ 97 ≤ (A2 y1.toNatClampNeg).toInt ∧ (A2 y1.toNatClampNeg).toInt ≤ 122)) := hw
    obtain ⟨hP1, hD1⟩ := hB
    rw [ht] at hP1
    have hD1 := hD1.weaken (fun _ q _ h => hFc q.1 h)
    clear hP hD hFc hk1 hz1
    have hP := hP1
    have hD := hD1
    clear hP1 hD1
    generalize H1 = H at hP hS ⊢
    have hP : va_P D vwCl (MW cy ad s0 s1 A2 s3 A4 A5 J6 A7 s8 s9 s10 A11 J12 A13 s14 s15 s16 s17 s18 s19 A20 A21 A22 A23 A24 A25 A26 A27 A28 s29 A30 A31 A32 s33 s34 s35 A36 A37 A38 A39 A40 A41 A42 A43 A44 A45 A46 s47 A48 s49 A50 A51 J52 J53 R54 s55 s56 s57 A58 s59) H := hP
    have hD : va_D A (MW cy ad s0 s1 A2 s3 A4 A5 J6 A7 s8 s9 s10 A11 J12 A13 s14 s15 s16 s17 s18 s19 A20 A21 A22 A23 A24 A25 A26 A27 A28 s29 A30 A31 A32 s33 s34 s35 A36 A37 A38 A39 A40 A41 A42 A43 A44 A45 A46 s47 A48 s49 A50 A51 J52 J53 R54 s55 s56 s57 A58 s59) := hD
    refine W.widen (k := 0) (n := 0) (Nat.le_of_ble_eq_true rfl) (Nat.le_of_ble_eq_true rfl) ?_
    refine lv_if_eq (tgt := 49) hx hb dX12_name_9 (by decide) (fun c4 => ?_) (fun c4 => ?_)
    · have c4 : r3.toInt = (0) := by have h := z_eq c4; rw [show (0 : Int32).toInt = 0 from by decide +kernel] at h; exact h
      refine lv_iload_n hx hb dX12_name_49 rfl (lv_at hl 1 rfl) ?_
      refine lv_iload_n hx hb dX12_name_50 rfl (lv_at hl 3 rfl) ?_
      refine lv_isub hx hb dX12_name_51 ?_
      refine lv_topi (fun x5 ex5 => ?_)
      have tx5 := (v_name_3 s1 A2 s3 A4 J6 A7 k0 y1 y2 r3 x5 hpre hi4 hr3 c4 ex5)
      refine lv_iconst (v := 5) hx hb dX12_name_52 (by decide +kernel) ?_
      refine lv_icmp_le (tgt := 65) hx hb dX12_name_53 (by decide) (fun c6 => ?_) (fun c6 => ?_)
      · have c6 : x5.toInt ≤ (5) := by have h := z_le c6; rw [show (5 : Int32).toInt = 5 from by decide +kernel] at h; exact h
        refine lv_aload_n hx hb dX12_name_65 rfl (lv_at hl 2 rfl) ?_
        refine lv_iconst (v := 3) hx hb dX12_name_66 (by decide +kernel) ?_
        refine lv_iload_n hx hb dX12_name_67 rfl (lv_at hl 3 rfl) ?_
        refine lv_lload_n hx hb dX12_name_68 rfl (lv_at hl 0 rfl) ?_
        have hFc := freeAll hD hS hA
        refine va_callv (va_runV (As := [.int 3, .int k0, .long y2]) (rest := []) ⟨hx, hb, hml, hown, hts⟩ (M_add l D cy sz0 sa ad s0 s1 A2 s3 A4 A5 J6 A7 s8 s9 s10 A11 J12 A13 s14 s15 s16 s17 s18 s19 A20 A21 A22 A23 A24 A25 A26 A27 A28 s29 A30 A31 A32 s33 s34 s35 A36 A37 A38 A39 A40 A41 A42 A43 A44 A45 A46 s47 A48 s49 A50 A51 J52 J53 R54 s55 s56 s57 A58 s59 H.size 3 k0 y2 (v_name_4 s1 A2 s3 A4 J6 A7 k0 y1 y2 r3 x5 hpre hi4 hr3 c4 ex5 tx5 c6)) (cwV 3 hts (goodIn_app (goodIn_r _ [12, 13, 14, 4] rfl (by decide +kernel)) (goodIn_app (goodIn_r wqM_add0 [15, 16, 17, 18, 19, 20] rfl (by decide +kernel)) (goodIn_sub (fun _ h => (List.mem_append_right _ h)) (by decide +kernel)))) rfl rfl rfl (by decide +kernel) ⟨Nat.le_of_ble_eq_true rfl, Nat.le_of_ble_eq_true rfl⟩) ⟨PcW.blind, va_recv hK hP (ci := 14) (q0 := 0) rfl rfl, PcW.mk hE hS hAF hP hD⟩ rfl rfl hl.1 rfl (lv_room (Nat.le_of_ble_eq_true rfl)) dX12_name_69 ⟨Nat.le_of_ble_eq_true rfl, Nat.le_of_ble_eq_true rfl⟩) hS (fun q _ h => hFc q h) hFc (fun u t H1 locs ht hvm hw hB hz1 hk1 hS => ?_)
        obtain ⟨n8, rfl⟩ : ∃ z, z = u := ⟨_, rfl⟩
        have hr7 : n8.toInt = s3.toInt + 1 := hw
        obtain ⟨hP1, hD1⟩ := hB
        rw [ht] at hP1
        have hD1 := hD1.weaken (fun _ q _ h => hFc q.1 h)
        clear hP hD hFc hk1 hz1
        have hP := hP1
        have hD := hD1
        clear hP1 hD1
        generalize H1 = H at hP hS ⊢
        have hP : va_P D vwCl (MW cy ad s0 s1 A2 n8 (upd A4 s3.toNatClampNeg (3 : Int32)) (upd A5 s3.toNatClampNeg k0) (vp_updL J6 s3.toNatClampNeg y2) (upd A7 s3.toNatClampNeg 0) s8 s9 s10 A11 J12 A13 s14 s15 s16 s17 s18 s19 A20 A21 A22 A23 A24 A25 A26 A27 A28 s29 A30 A31 A32 s33 s34 s35 A36 A37 A38 A39 A40 A41 A42 A43 A44 A45 A46 s47 A48 s49 A50 A51 J52 J53 R54 s55 s56 s57 A58 s59) H := hP
        have hD : va_D A (MW cy ad s0 s1 A2 n8 (upd A4 s3.toNatClampNeg (3 : Int32)) (upd A5 s3.toNatClampNeg k0) (vp_updL J6 s3.toNatClampNeg y2) (upd A7 s3.toNatClampNeg 0) s8 s9 s10 A11 J12 A13 s14 s15 s16 s17 s18 s19 A20 A21 A22 A23 A24 A25 A26 A27 A28 s29 A30 A31 A32 s33 s34 s35 A36 A37 A38 A39 A40 A41 A42 A43 A44 A45 A46 s47 A48 s49 A50 A51 J52 J53 R54 s55 s56 s57 A58 s59) := hD
        refine W.widen (k := 0) (n := 0) (Nat.le_of_ble_eq_true rfl) (Nat.le_of_ble_eq_true rfl) ?_
        refine lv_iload_n hx hb dX12_name_72 rfl (lv_at hl 1 rfl) ?_
        refine W.widen (k := 0) (n := 0) (Nat.le_of_ble_eq_true rfl) (Nat.le_of_ble_eq_true rfl) ?_
        exact W.iret (v := y1) hx hb hr (fun t ht hW => ⟨⟨y1, ⟨n8, s8, s9, (upd A4 s3.toNatClampNeg (3 : Int32)), (upd A5 s3.toNatClampNeg k0), (upd A7 s3.toNatClampNeg 0), (vp_updL J6 s3.toNatClampNeg y2)⟩, rfl, (v_name_5 s1 A2 s3 A4 J6 A7 k0 y1 y2 r3 x5 n8 hpre hi4 hr3 c4 ex5 tx5 c6 hr7), by rw [ht]; exact hP, hD⟩, hS.F ht⟩) hS.2.2 dX12_name_73
      · have c6 : (5) < x5.toInt := by have h := z_nle c6; rw [show (5 : Int32).toInt = 5 from by decide +kernel] at h; exact h
        refine lv_aload_n hx hb dX12_name_56 rfl (lv_at hl 2 rfl) ?_
        refine lv_iconst (v := 1) hx hb dX12_name_57 (by decide +kernel) ?_
        refine lv_iload_n hx hb dX12_name_58 rfl (lv_at hl 3 rfl) ?_
        have hFc := freeAll hD hS hA
        refine va_callv (va_runV (As := [.int 1, .int k0]) (rest := []) ⟨hx, hb, hml, hown, hts⟩ (M_wrong l D cy sz0 sa ad s0 s1 A2 s3 A4 A5 J6 A7 s8 s9 s10 A11 J12 A13 s14 s15 s16 s17 s18 s19 A20 A21 A22 A23 A24 A25 A26 A27 A28 s29 A30 A31 A32 s33 s34 s35 A36 A37 A38 A39 A40 A41 A42 A43 A44 A45 A46 s47 A48 s49 A50 A51 J52 J53 R54 s55 s56 s57 A58 s59 H.size 1 k0 (v_name_6 s1 A2 s3 A4 J6 A7 k0 y1 y2 r3 x5 hpre hi4 hr3 c4 ex5 tx5 c6)) (cwV 2 hts (goodIn_app (goodIn_r _ [21, 22, 23, 4] rfl (by decide +kernel)) (goodIn_app (goodIn_r wqM_wrong0 [24, 25, 26] rfl (by decide +kernel)) (goodIn_sub (fun _ h => (List.mem_append_right _ h)) (by decide +kernel)))) rfl rfl rfl (by decide +kernel) ⟨Nat.le_of_ble_eq_true rfl, Nat.le_of_ble_eq_true rfl⟩) ⟨PcW.blind, va_recv hK hP (ci := 14) (q0 := 0) rfl rfl, PcW.mk hE hS hAF hP hD⟩ rfl rfl hl.1 rfl (lv_room (Nat.le_of_ble_eq_true rfl)) dX12_name_59 ⟨Nat.le_of_ble_eq_true rfl, Nat.le_of_ble_eq_true rfl⟩) hS (fun q _ h => hFc q h) hFc (fun u t H1 locs ht hvm hw hB hz1 hk1 hS => ?_)
        obtain ⟨n10, n11⟩ := u
        have hr9 : (s8.toInt = 0 → n10 = (1 : Int32)) ∧ (¬ s8.toInt = 0 → n10 = s8) := hw
        obtain ⟨hP1, hD1⟩ := hB
        rw [ht] at hP1
        have hD1 := hD1.weaken (fun _ q _ h => hFc q.1 h)
        clear hP hD hFc hk1 hz1
        have hP := hP1
        have hD := hD1
        clear hP1 hD1
        generalize H1 = H at hP hS ⊢
        have hP : va_P D vwCl (MW cy ad s0 s1 A2 s3 A4 A5 J6 A7 n10 n11 s10 A11 J12 A13 s14 s15 s16 s17 s18 s19 A20 A21 A22 A23 A24 A25 A26 A27 A28 s29 A30 A31 A32 s33 s34 s35 A36 A37 A38 A39 A40 A41 A42 A43 A44 A45 A46 s47 A48 s49 A50 A51 J52 J53 R54 s55 s56 s57 A58 s59) H := hP
        have hD : va_D A (MW cy ad s0 s1 A2 s3 A4 A5 J6 A7 n10 n11 s10 A11 J12 A13 s14 s15 s16 s17 s18 s19 A20 A21 A22 A23 A24 A25 A26 A27 A28 s29 A30 A31 A32 s33 s34 s35 A36 A37 A38 A39 A40 A41 A42 A43 A44 A45 A46 s47 A48 s49 A50 A51 J52 J53 R54 s55 s56 s57 A58 s59) := hD
        refine W.widen (k := 0) (n := 0) (Nat.le_of_ble_eq_true rfl) (Nat.le_of_ble_eq_true rfl) ?_
        refine lv_goto (tgt := 72) hx hb dX12_name_62 (by decide) ?_
        refine lv_iload_n hx hb dX12_name_72 rfl (lv_at hl 1 rfl) ?_
        refine W.widen (k := 0) (n := 0) (Nat.le_of_ble_eq_true rfl) (Nat.le_of_ble_eq_true rfl) ?_
        exact W.iret (v := y1) hx hb hr (fun t ht hW => ⟨⟨y1, ⟨s3, n10, n11, A4, A5, A7, J6⟩, rfl, (v_name_7 s1 A2 s3 A4 J6 A7 s8 k0 y1 y2 r3 x5 n10 hpre hi4 hr3 c4 ex5 tx5 c6 hr9), by rw [ht]; exact hP, hD⟩, hS.F ht⟩) hS.2.2 dX12_name_73
    · have c4 : ¬ r3.toInt = (0) := by have h := z_ne c4; rw [show (0 : Int32).toInt = 0 from by decide +kernel] at h; exact h
      refine lv_iload_n hx hb dX12_name_12 rfl (lv_at hl 1 rfl) ?_
      refine lv_iload_n hx hb dX12_name_13 rfl (lv_at hl 3 rfl) ?_
      refine lv_isub hx hb dX12_name_14 ?_
      refine lv_topi (fun x12 ex12 => ?_)
      have tx12 := (v_name_8 s1 A2 s3 A4 J6 A7 k0 y1 y2 r3 x12 hpre hi4 hr3 c4 ex12)
      refine lv_bipush (v := 6) hx hb dX12_name_15 (by decide +kernel) ?_
      refine lv_icmp_ge (tgt := 41) hx hb dX12_name_17 (by decide) (fun c13 => ?_) (fun c13 => ?_)
      · have c13 : (6) ≤ x12.toInt := by have h := z_le c13; rw [show (6 : Int32).toInt = 6 from by decide +kernel] at h; exact h
        refine lv_lload_n hx hb dX12_name_41 rfl (lv_at hl 0 rfl) ?_
        refine lv_lstore_n (lv' := [(3, .long y2), (2, .int y1), (0, .ref (ad 0)), (1, .int k0)]) hx hb dX12_name_42 rfl hl (by decide) rfl (fun ls hl => ?_)
        obtain ⟨x14, ex14⟩ : ∃ y : Int32, y = y1 + 1 := ⟨_, rfl⟩
        have tx14 := (v_name_9 s1 A2 s3 A4 J6 A7 k0 y1 y2 r3 x12 x14 hpre hi4 hr3 c4 ex12 tx12 c13 ex14)
        refine lv_iinc (v := x14) (lv' := [(2, .int x14), (3, .long y2), (0, .ref (ad 0)), (1, .int k0)]) hx hb dX12_name_43 hl (k := 1) rfl (by rw [ex14]; rfl) (by decide) rfl (fun ls hl => ?_)
        refine lv_goto (tgt := 4) hx hb dX12_name_46 (by decide) ?_
        exact ih4 x14 y2 _ _ _ (Nat.lt_of_lt_of_le (v_name_11 s1 A2 s3 A4 J6 A7 k0 y1 y2 r3 x12 x14 hpre hi4 hr3 c4 ex12 tx12 c13 ex14 tx14) (Nat.le_of_lt_succ hn4)) (v_name_10 s1 A2 s3 A4 J6 A7 k0 y1 y2 r3 x12 x14 hpre hi4 hr3 c4 ex12 tx12 c13 ex14 tx14) hP hD hS (lv_sub hl [1, 0, 2, 3] rfl)
      · have c13 : x12.toInt < (6) := by have h := z_nle c13; rw [show (6 : Int32).toInt = 6 from by decide +kernel] at h; exact h
        refine lv_lload_n hx hb dX12_name_20 rfl (lv_at hl 0 rfl) ?_
        refine lv_ldc2 (v := 27) hx hb hown (hts (.constantLong RX12 166 (27)) (List.mem_of_getElem? (i := 27) rfl)) dX12_name_21 ?_
        refine lv_lmul hx hb dX12_name_24 ?_
        refine lv_topl (fun x15 ex15 => ?_)
        have tx15 : x15.toInt = y2.toInt * 27 := (v_name_12 s1 A2 s3 A4 J6 A7 k0 y1 y2 r3 x12 x15 hpre hi4 hr3 c4 ex12 tx12 c13 ex15)
        refine lv_aload_n hx hb dX12_name_25 rfl (lv_at hl 2 rfl) ?_
        refine lv_iload_n hx hb dX12_name_26 rfl (lv_at hl 1 rfl) ?_
        have hFc := freeAll hD hS hA
        refine va_calli (va_runV (As := [.int y1]) (rest := [.long x15]) ⟨hx, hb, hml, hown, hts⟩ (M_at l D cy sz0 sa ad s0 s1 A2 s3 A4 A5 J6 A7 s8 s9 s10 A11 J12 A13 s14 s15 s16 s17 s18 s19 A20 A21 A22 A23 A24 A25 A26 A27 A28 s29 A30 A31 A32 s33 s34 s35 A36 A37 A38 A39 A40 A41 A42 A43 A44 A45 A46 s47 A48 s49 A50 A51 J52 J53 R54 s55 s56 s57 A58 s59 H.size y1 (v_name_13 s1 A2 s3 A4 J6 A7 k0 y1 y2 r3 x12 x15 hpre hi4 hr3 c4 ex12 tx12 c13 ex15 tx15)) (cwV 1 hts (goodIn_app (goodIn_r _ [6, 7, 8, 4] rfl (by decide +kernel)) (goodIn_app (goodIn_r wqM_at0 [9, 10, 11] rfl (by decide +kernel)) (goodIn_sub (fun _ h => (List.mem_append_right _ h)) (by decide +kernel)))) rfl rfl rfl (by decide +kernel) ⟨Nat.le_of_ble_eq_true rfl, Nat.le_of_ble_eq_true rfl⟩) ⟨PcW.blind, va_recv hK hP (ci := 14) (q0 := 0) rfl rfl, PcW.mk hE hS hAF hP hD⟩ rfl rfl hl.1 rfl (lv_room (Nat.le_of_ble_eq_true rfl)) dX12_name_27 ⟨Nat.le_of_ble_eq_true rfl, Nat.le_of_ble_eq_true rfl⟩) hS (fun q _ h => hFc q h) hFc (fun r16 u t H1 locs ht hvm hw hB hz1 hk1 hS => ?_)
        have hr16 : (y1.toInt < s1.toInt ∧ r16.toInt = (A2 y1.toNatClampNeg).toInt) ∨ (s1.toInt ≤ y1.toInt ∧ r16.toInt = 0) := hw
        obtain ⟨hP1, hD1⟩ := hB
        rw [ht] at hP1
        have hD1 := hD1.weaken (fun _ q _ h => hFc q.1 h)
        clear hP hD hFc hk1 hz1
        have hP := hP1
        have hD := hD1
        clear hP1 hD1
        generalize H1 = H at hP hS ⊢
        have hP : va_P D vwCl (MW cy ad s0 s1 A2 s3 A4 A5 J6 A7 s8 s9 s10 A11 J12 A13 s14 s15 s16 s17 s18 s19 A20 A21 A22 A23 A24 A25 A26 A27 A28 s29 A30 A31 A32 s33 s34 s35 A36 A37 A38 A39 A40 A41 A42 A43 A44 A45 A46 s47 A48 s49 A50 A51 J52 J53 R54 s55 s56 s57 A58 s59) H := hP
        have hD : va_D A (MW cy ad s0 s1 A2 s3 A4 A5 J6 A7 s8 s9 s10 A11 J12 A13 s14 s15 s16 s17 s18 s19 A20 A21 A22 A23 A24 A25 A26 A27 A28 s29 A30 A31 A32 s33 s34 s35 A36 A37 A38 A39 A40 A41 A42 A43 A44 A45 A46 s47 A48 s49 A50 A51 J52 J53 R54 s55 s56 s57 A58 s59) := hD
        refine W.widen (k := 0) (n := 0) (Nat.le_of_ble_eq_true rfl) (Nat.le_of_ble_eq_true rfl) ?_
        refine lv_i2l hx hb dX12_name_30 rfl ?_
        refine lv_topl (fun x17 ex17 => ?_)
        have tx17 : x17.toInt = r16.toInt := by rw [ex17]; exact Int32.toInt_toInt64 _
        refine lv_ladd hx hb dX12_name_31 ?_
        refine lv_topl (fun x18 ex18 => ?_)
        have tx18 : x18.toInt = x15.toInt + x17.toInt := (v_name_14 s1 A2 s3 A4 J6 A7 k0 y1 y2 r3 x12 x15 r16 x17 x18 hpre hi4 hr3 c4 ex12 tx12 c13 ex15 tx15 hr16 ex17 tx17 ex18)
        refine lv_ldc2 (v := 97) hx hb hown (hts (.constantLong RX12 168 (97)) (List.mem_of_getElem? (i := 28) rfl)) dX12_name_32 ?_
        refine lv_lsub hx hb dX12_name_35 ?_
        refine lv_topl (fun x19 ex19 => ?_)
        have tx19 : x19.toInt = x18.toInt - 97 := (v_name_15 s1 A2 s3 A4 J6 A7 k0 y1 y2 r3 x12 x15 r16 x17 x18 x19 hpre hi4 hr3 c4 ex12 tx12 c13 ex15 tx15 hr16 ex17 tx17 ex18 tx18 ex19)
        refine lv_lconst (v := 1) hx hb dX12_name_36 rfl ?_
        refine lv_ladd hx hb dX12_name_37 ?_
        refine lv_topl (fun x20 ex20 => ?_)
        have tx20 : x20.toInt = x19.toInt + 1 := (v_name_16 s1 A2 s3 A4 J6 A7 k0 y1 y2 r3 x12 x15 r16 x17 x18 x19 x20 hpre hi4 hr3 c4 ex12 tx12 c13 ex15 tx15 hr16 ex17 tx17 ex18 tx18 ex19 tx19 ex20)
        refine lv_goto (tgt := 42) hx hb dX12_name_38 (by decide) ?_
        refine lv_lstore_n (lv' := [(3, .long x20), (2, .int y1), (0, .ref (ad 0)), (1, .int k0)]) hx hb dX12_name_42 rfl hl (by decide) rfl (fun ls hl => ?_)
        obtain ⟨x21, ex21⟩ : ∃ y : Int32, y = y1 + 1 := ⟨_, rfl⟩
        have tx21 := (v_name_17 s1 A2 s3 A4 J6 A7 k0 y1 y2 r3 x12 x15 r16 x17 x18 x19 x20 x21 hpre hi4 hr3 c4 ex12 tx12 c13 ex15 tx15 hr16 ex17 tx17 ex18 tx18 ex19 tx19 ex20 tx20 ex21)
        refine lv_iinc (v := x21) (lv' := [(2, .int x21), (3, .long x20), (0, .ref (ad 0)), (1, .int k0)]) hx hb dX12_name_43 hl (k := 1) rfl (by rw [ex21]; rfl) (by decide) rfl (fun ls hl => ?_)
        refine lv_goto (tgt := 4) hx hb dX12_name_46 (by decide) ?_
        exact ih4 x21 x20 _ _ _ (Nat.lt_of_lt_of_le (v_name_19 s1 A2 s3 A4 J6 A7 k0 y1 y2 r3 x12 x15 r16 x17 x18 x19 x20 x21 hpre hi4 hr3 c4 ex12 tx12 c13 ex15 tx15 hr16 ex17 tx17 ex18 tx18 ex19 tx19 ex20 tx20 ex21 tx21) (Nat.le_of_lt_succ hn4)) (v_name_18 s1 A2 s3 A4 J6 A7 k0 y1 y2 r3 x12 x15 r16 x17 x18 x19 x20 x21 hpre hi4 hr3 c4 ex12 tx12 c13 ex15 tx15 hr16 ex17 tx17 ex18 tx18 ex19 tx19 ex20 tx20 ex21 tx21) hP hD hS (lv_sub hl [1, 0, 2, 3] rfl)
set_option maxHeartbeats 4000000 in
set_option maxRecDepth 100000 in
theorem M_name (l : Launch) (D : va_G) (cy : Nat → ClassId) (sz0 : Nat) (sa : Nat → Nat) (ad : Nat → Nat) (s0 : Int32) (s1 : Int32) (A2 : Nat → Int32) (s3 : Int32) (A4 : Nat → Int32) (A5 : Nat → Int32) (J6 : Nat → Int64) (A7 : Nat → Int32) (s8 : Int32) (s9 : Int32) (s10 : Int32) (A11 : Nat → Int32) (J12 : Nat → Int64) (A13 : Nat → Int32) (s14 : Int32) (s15 : Int32) (s16 : Int32) (s17 : Int32) (s18 : Int32) (s19 : Int32) (A20 : Nat → Int32) (A21 : Nat → Int32) (A22 : Nat → Int32) (A23 : Nat → Int32) (A24 : Nat → Int32) (A25 : Nat → Int32) (A26 : Nat → Int32) (A27 : Nat → Int32) (A28 : Nat → Int32) (s29 : Int32) (A30 : Nat → Int32) (A31 : Nat → Int32) (A32 : Nat → Int32) (s33 : Int32) (s34 : Int32) (s35 : Int32) (A36 : Nat → Int32) (A37 : Nat → Int32) (A38 : Nat → Int32) (A39 : Nat → Int32) (A40 : Nat → Int32) (A41 : Nat → Int32) (A42 : Nat → Int32) (A43 : Nat → Int32) (A44 : Nat → Int32) (A45 : Nat → Int32) (A46 : Nat → Int32) (s47 : Int32) (A48 : Nat → Int32) (s49 : Int32) (A50 : Nat → Int32) (A51 : Nat → Int32) (J52 : Nat → Int64) (J53 : Nat → Int64) (R54 : Nat → UInt64) (s55 : Int32) (s56 : Int32) (s57 : Int32) (A58 : Nat → Int32) (s59 : Int32) (sz : Nat) (k0 : Int32) (hpre : 0 ≤ s1.toInt ∧ s1.toInt ≤ 40 ∧ 0 ≤ s3.toInt ∧ s3.toInt ≤ k0.toInt ∧ k0.toInt < s1.toInt ∧ TKok A4 J6 A7 s3.toInt ∧ (k0.toInt < s1.toInt ∧ 97 ≤ (A2 k0.toNatClampNeg).toInt ∧ (A2 k0.toNatClampNeg).toInt ≤ 122)) : Met l yX12_name wqM_name ({ frames := 2, cells := 0, slots := 0, locals := 42 }) (PcW D cy sz0 sa [.ref (ad 0), .int k0] (MW cy ad s0 s1 A2 s3 A4 A5 J6 A7 s8 s9 s10 A11 J12 A13 s14 s15 s16 s17 s18 s19 A20 A21 A22 A23 A24 A25 A26 A27 A28 s29 A30 A31 A32 s33 s34 s35 A36 A37 A38 A39 A40 A41 A42 A43 A44 A45 A46 s47 A48 s49 A50 A51 J52 J53 R54 s55 s56 s57 A58 s59) sz) (va_Qi (fun (r : Int32) (u : Int32 × Int32 × Int32 × (Nat → Int32) × (Nat → Int32) × (Nat → Int32) × (Nat → Int64)) => k0.toInt < r.toInt ∧ r.toInt ≤ s1.toInt ∧ 0 ≤ u.1.toInt ∧ u.1.toInt ≤ r.toInt ∧ TKok u.2.2.2.1 u.2.2.2.2.2.2 u.2.2.2.2.2.1 u.1.toInt) (fun (u : Int32 × Int32 × Int32 × (Nat → Int32) × (Nat → Int32) × (Nat → Int32) × (Nat → Int64)) (t : State) => BW D (MW cy ad s0 s1 A2 u.1 u.2.2.2.1 u.2.2.2.2.1 u.2.2.2.2.2.2 u.2.2.2.2.2.1 u.2.1 u.2.2.1 s10 A11 J12 A13 s14 s15 s16 s17 s18 s19 A20 A21 A22 A23 A24 A25 A26 A27 A28 s29 A30 A31 A32 s33 s34 s35 A36 A37 A38 A39 A40 A41 A42 A43 A44 A45 A46 s47 A48 s49 A50 A51 J52 J53 R54 s55 s56 s57 A58 s59) (va_A (MW cy ad s0 s1 A2 s3 A4 A5 J6 A7 s8 s9 s10 A11 J12 A13 s14 s15 s16 s17 s18 s19 A20 A21 A22 A23 A24 A25 A26 A27 A28 s29 A30 A31 A32 s33 s34 s35 A36 A37 A38 A39 A40 A41 A42 A43 A44 A45 A46 s47 A48 s49 A50 A51 J52 J53 R54 s55 s56 s57 A58 s59) sz) t) (va_A (MW cy ad s0 s1 A2 s3 A4 A5 J6 A7 s8 s9 s10 A11 J12 A13 s14 s15 s16 s17 s18 s19 A20 A21 A22 A23 A24 A25 A26 A27 A28 s29 A30 A31 A32 s33 s34 s35 A36 A37 A38 A39 A40 A41 A42 A43 A44 A45 A46 s47 A48 s49 A50 A51 J52 J53 R54 s55 s56 s57 A58 s59) sz)) 0 0 (va_A (MW cy ad s0 s1 A2 s3 A4 A5 J6 A7 s8 s9 s10 A11 J12 A13 s14 s15 s16 s17 s18 s19 A20 A21 A22 A23 A24 A25 A26 A27 A28 s29 A30 A31 A32 s33 s34 s35 A36 A37 A38 A39 A40 A41 A42 A43 A44 A45 A46 s47 A48 s49 A50 A51 J52 J53 R54 s55 s56 s57 A58 s59) sz) := by
  refine Met.ofW (cc := cX12_name) (maxL := 5) (ret := (some .int)) (by decide) rfl ?_
  intro p e s m args below meth c s₁ B hml hv
  obtain ⟨rfl, hsz, hP, hD0, hE⟩ := hv
  have hx := B.exec
  have hb := B.bytes
  have hr := B.returns
  have hts := atoms_spec (ws := wqM_name) B.pre
  have hown : s.vm.findClass RX12 = some m.cls := findClass_of_methodNamed B.named
  have hlocks := B.notSynchronized
  subst hsz
  have hK := hE.1
  have hD := hD0.self (sz := s.heap.size)
  have hAF := frA hD0 hE.2.1
  generalize hAe : va_A (MW cy ad s0 s1 A2 s3 A4 A5 J6 A7 s8 s9 s10 A11 J12 A13 s14 s15 s16 s17 s18 s19 A20 A21 A22 A23 A24 A25 A26 A27 A28 s29 A30 A31 A32 s33 s34 s35 A36 A37 A38 A39 A40 A41 A42 A43 A44 A45 A46 s47 A48 s49 A50 A51 J52 J53 R54 s55 s56 s57 A58 s59) s.heap.size = A at hD hAF ⊢
  have hA : ∀ q : Nat, s.heap.size ≤ q → A q := fun q h => by rw [← hAe]; exact Or.inr h
  have hS : va_S A s.heap s.heap [] := va_S.rf
  have hl := lv_entry ([.ref (ad 0), .int k0]) (n := 5) (Nat.le_of_ble_eq_true rfl)
  rw [lg_entry_eq]
  generalize (lg_sl ([.ref (ad 0), .int k0]) ++ List.replicate (5 - (lg_sl ([.ref (ad 0), .int k0])).length) Slot.unset).toArray = ls at hl ⊢
  have hl : lv_has ls 5 [(0, .ref (ad 0)), (1, .int k0)] := hl
  refine lv_iload_n hx hb dX12_name_0 rfl (lv_at hl 1 rfl) ?_
  refine lv_istore_n (lv' := [(2, .int k0), (0, .ref (ad 0)), (1, .int k0)]) hx hb dX12_name_1 rfl hl (by decide) rfl (fun ls hl => ?_)
  refine lv_lconst (v := 0) hx hb dX12_name_2 rfl ?_
  refine lv_lstore_n (lv' := [(3, .long 0), (2, .int k0), (0, .ref (ad 0)), (1, .int k0)]) hx hb dX12_name_3 rfl hl (by decide) rfl (fun ls hl => ?_)
  exact L_name_4_1 l D cy sz0 sa ad A s0 s1 A2 s3 A4 A5 J6 A7 s8 s9 s10 A11 J12 A13 s14 s15 s16 s17 s18 s19 A20 A21 A22 A23 A24 A25 A26 A27 A28 s29 A30 A31 A32 s33 s34 s35 A36 A37 A38 A39 A40 A41 A42 A43 A44 A45 A46 s47 A48 s49 A50 A51 J52 J53 R54 s55 s56 s57 A58 s59 k0 hx hb hr hml hown hts hlocks hE hAF hA hpre ((s1.toInt - k0.toInt).toNat + 1) k0 0 _ _ _ (Nat.lt_succ_self _) (v_name_1 s1 A2 s3 A4 J6 A7 k0 hpre) hP hD hS (lv_sub hl [0, 1, 2, 3] rfl)
