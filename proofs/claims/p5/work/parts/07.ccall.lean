-- nw@6 @6
theorem v_call_1 (σ : RS) (x1 : Int32) (hpre_0 : TKI (σ.2.1 4) (σ.2.2.1 6) (σ.2.1 7) (σ.1 3) (σ.1 14)) (hpre_1 : 0 ≤ (σ.1 15).toInt) (hpre_2 : (σ.1 15).toInt ≤ 3510) (hpre_4 : PQ0 1 1 (σ.1 14) (σ.1 15) (σ.1 16) (σ.1 19) (σ.1 29) (σ.2.1 11) (σ.2.2.1 12) (σ.2.1 31) (σ.2.1 30) (σ.2.1 32) (σ.2.1 21) (σ.2.1 22) (σ.2.1 20) (σ.2.1 23) (σ.2.1 24) (σ.2.1 25) (σ.2.1 27) (σ.1 33) (σ.1 34)) (hpre_5 : ((σ.2.1 4) (σ.1 14).toNatClampNeg).toInt = 5) (ex1 : x1 = (σ.1 14) + (1 : Int32)) : x1.toInt = (σ.1 14).toInt + 1 := by
  have q1 : (1 : Int32).toInt = 1 := by decide +kernel
  have bb_hpre_0 := hpre_0.b
  have bb_hpre_4 := hpre_4.b
  have kk_hpre_0 := hpre_0.in
  have w1 : (1 : Int32).toInt = 1 := by decide +kernel
  rw [ex1, z_add (by omega) (by omega)]; first | done | omega
-- pre:emit@23 @23
theorem v_call_2 (σ : RS) (x1 : Int32) (hpre_0 : TKI (σ.2.1 4) (σ.2.2.1 6) (σ.2.1 7) (σ.1 3) (σ.1 14)) (hpre_1 : 0 ≤ (σ.1 15).toInt) (hpre_2 : (σ.1 15).toInt ≤ 3510) (hpre_4 : PQ0 1 1 (σ.1 14) (σ.1 15) (σ.1 16) (σ.1 19) (σ.1 29) (σ.2.1 11) (σ.2.2.1 12) (σ.2.1 31) (σ.2.1 30) (σ.2.1 32) (σ.2.1 21) (σ.2.1 22) (σ.2.1 20) (σ.2.1 23) (σ.2.1 24) (σ.2.1 25) (σ.2.1 27) (σ.1 33) (σ.1 34)) (hpre_5 : ((σ.2.1 4) (σ.1 14).toNatClampNeg).toInt = 5) (ex1 : x1 = (σ.1 14) + (1 : Int32)) (tx1 : x1.toInt = (σ.1 14).toInt + 1) : 0 ≤ (σ.1 15).toInt ∧ 0 ≤ (σ.1 16).toInt ∧ (σ.1 15).toInt + (σ.1 16).toInt < 3600 := by
  have q1 : (1 : Int32).toInt = 1 := by decide +kernel
  have bb_hpre_0 := hpre_0.b
  have bb_hpre_4 := hpre_4.b
  have kk_hpre_0 := hpre_0.in
  refine ⟨?_, ?_, ?_⟩ <;> first | assumption | omega | (subst_vars; omega) | trivial
-- pre:isSign@30 @30
theorem v_call_3 (σ : RS) (x1 : Int32) (n4 : Int32) (r3 : Int32) (hpre_0 : TKI (σ.2.1 4) (σ.2.2.1 6) (σ.2.1 7) (σ.1 3) (σ.1 14)) (hpre_1 : 0 ≤ (σ.1 15).toInt) (hpre_2 : (σ.1 15).toInt ≤ 3510) (hpre_4 : PQ0 1 1 (σ.1 14) (σ.1 15) (σ.1 16) (σ.1 19) (σ.1 29) (σ.2.1 11) (σ.2.2.1 12) (σ.2.1 31) (σ.2.1 30) (σ.2.1 32) (σ.2.1 21) (σ.2.1 22) (σ.2.1 20) (σ.2.1 23) (σ.2.1 24) (σ.2.1 25) (σ.2.1 27) (σ.1 33) (σ.1 34)) (hpre_5 : ((σ.2.1 4) (σ.1 14).toNatClampNeg).toInt = 5) (ex1 : x1 = (σ.1 14) + (1 : Int32)) (tx1 : x1.toInt = (σ.1 14).toInt + 1) (hr3_0 : n4.toInt = (σ.1 16).toInt + 1) (hr3_1 : r3.toInt = (σ.1 15).toInt + (σ.1 16).toInt) : 0 ≤ x1.toInt ∧ x1.toInt ≤ 41 := by
  have q1 : (1 : Int32).toInt = 1 := by decide +kernel
  have bb_hpre_0 := hpre_0.b
  have bb_hpre_4 := hpre_4.b
  have kk_hpre_0 := hpre_0.in
  refine ⟨?_, ?_⟩ <;> first | assumption | omega | (subst_vars; omega) | trivial
-- pre:open@83 @83
theorem v_call_4 (σ : RS) (x1 : Int32) (n4 : Int32) (r3 : Int32) (hpre_0 : TKI (σ.2.1 4) (σ.2.2.1 6) (σ.2.1 7) (σ.1 3) (σ.1 14)) (hpre_1 : 0 ≤ (σ.1 15).toInt) (hpre_2 : (σ.1 15).toInt ≤ 3510) (hpre_3 : (σ.1 8).toInt = 0) (hpre_4 : PQ0 1 1 (σ.1 14) (σ.1 15) (σ.1 16) (σ.1 19) (σ.1 29) (σ.2.1 11) (σ.2.2.1 12) (σ.2.1 31) (σ.2.1 30) (σ.2.1 32) (σ.2.1 21) (σ.2.1 22) (σ.2.1 20) (σ.2.1 23) (σ.2.1 24) (σ.2.1 25) (σ.2.1 27) (σ.1 33) (σ.1 34)) (hpre_5 : ((σ.2.1 4) (σ.1 14).toNatClampNeg).toInt = 5) (ex1 : x1 = (σ.1 14) + (1 : Int32)) (tx1 : x1.toInt = (σ.1 14).toInt + 1) (hr3_0 : n4.toInt = (σ.1 16).toInt + 1) (hr3_1 : r3.toInt = (σ.1 15).toInt + (σ.1 16).toInt) (hr5 : ¬ (((σ.2.1 4) x1.toNatClampNeg).toInt = 5 ∧ ((σ.2.2.1 6) x1.toNatClampNeg).toInt = (41 : Int32).toInt)) : 0 ≤ (σ.1 19).toInt ∧ (σ.1 19).toInt ≤ 5 ∧ (σ.1 8).toInt = 0 ∧ 0 ≤ x1.toInt ∧ x1.toInt ≤ 41 := by
  have q1 : (1 : Int32).toInt = 1 := by decide +kernel
  have q41 : (41 : Int32).toInt = 41 := by decide +kernel
  have bb_hpre_0 := hpre_0.b
  have bb_hpre_4 := hpre_4.b
  have kk_hpre_0 := hpre_0.in
  refine ⟨?_, ?_, ?_, ?_, ?_⟩ <;> first | assumption | omega | (subst_vars; omega) | trivial
-- post @129
theorem v_call_5 (σ : RS) (x1 : Int32) (n4 : Int32) (r3 : Int32) (F8 : (Nat → Int32)) (n9 : Int32) (F10 : (Nat → Int32)) (F11 : (Nat → Int32)) (F13 : (Nat → Int32)) (F14 : (Nat → Int32)) (n15 : Int32) (n16 : Int32) (hpre_0 : TKI (σ.2.1 4) (σ.2.2.1 6) (σ.2.1 7) (σ.1 3) (σ.1 14)) (hpre_1 : 0 ≤ (σ.1 15).toInt) (hpre_2 : (σ.1 15).toInt ≤ 3510) (hpre_3 : (σ.1 8).toInt = 0) (hpre_4 : PQ0 1 1 (σ.1 14) (σ.1 15) (σ.1 16) (σ.1 19) (σ.1 29) (σ.2.1 11) (σ.2.2.1 12) (σ.2.1 31) (σ.2.1 30) (σ.2.1 32) (σ.2.1 21) (σ.2.1 22) (σ.2.1 20) (σ.2.1 23) (σ.2.1 24) (σ.2.1 25) (σ.2.1 27) (σ.1 33) (σ.1 34)) (hpre_5 : ((σ.2.1 4) (σ.1 14).toNatClampNeg).toInt = 5) (ex1 : x1 = (σ.1 14) + (1 : Int32)) (tx1 : x1.toInt = (σ.1 14).toInt + 1) (hr3_0 : n4.toInt = (σ.1 16).toInt + 1) (hr3_1 : r3.toInt = (σ.1 15).toInt + (σ.1 16).toInt) (hr5 : ¬ (((σ.2.1 4) x1.toNatClampNeg).toInt = 5 ∧ ((σ.2.2.1 6) x1.toNatClampNeg).toInt = (41 : Int32).toInt)) (hr7 : ((σ.1 19).toInt = 5 ∧ n16.toInt = 3 ∧ n9.toInt = 5) ∨ ((σ.1 19).toInt < 5 ∧ n16 = (σ.1 8) ∧ n9.toInt = (σ.1 19).toInt + 1 ∧ F8 = upd (σ.2.1 20) (σ.1 19).toInt.toNat (3 : Int32) ∧ F10 = upd (σ.2.1 21) (σ.1 19).toInt.toNat (σ.1 29) ∧ F11 = upd (σ.2.1 22) (σ.1 19).toInt.toNat (0 : Int32) ∧ F13 = upd (σ.2.1 27) (σ.1 19).toInt.toNat (1 : Int32) ∧ F14 = upd (σ.2.1 28) (σ.1 19).toInt.toNat (0 : Int32) ∧ n15.toInt = 1)) (c18 : ¬ n16.toInt = 0) : Keep (σ.1 15).toInt (σ.2.1 11) (upd (σ.2.1 11) ((σ.1 15).toInt + (σ.1 16).toInt).toNat (13 : Int32)) (σ.2.2.1 12) (vp_updL (σ.2.2.1 12) ((σ.1 15).toInt + (σ.1 16).toInt).toNat (0 : Int64)) ∧ 0 ≤ n16.toInt ∧ n16.toInt ≤ 3 ∧ (n16.toInt = 0 → TKI (σ.2.1 4) (σ.2.2.1 6) (σ.2.1 7) (σ.1 3) x1 ∧ LI n15 x1 (σ.1 15) n4 n9 (σ.1 29) (upd (σ.2.1 11) ((σ.1 15).toInt + (σ.1 16).toInt).toNat (13 : Int32)) (vp_updL (σ.2.2.1 12) ((σ.1 15).toInt + (σ.1 16).toInt).toNat (0 : Int64)) (σ.2.1 31) (σ.2.1 30) (σ.2.1 32) F10 F11 F8 (σ.2.1 23) (σ.2.1 24) (σ.2.1 25) F13 (σ.1 33) (σ.1 34) F14 ∧ 2 * (σ.1 14).toInt - (σ.1 19).toInt ≤ 2 * x1.toInt - n9.toInt) := by
  have q0 : (0 : Int32).toInt = 0 := by decide +kernel
  have q1 : (1 : Int32).toInt = 1 := by decide +kernel
  have q3 : (3 : Int32).toInt = 3 := by decide +kernel
  have q13 : (13 : Int32).toInt = 13 := by decide +kernel
  have q41 : (41 : Int32).toInt = 41 := by decide +kernel
  have ql0 : (0 : Int64).toInt = 0 := by decide +kernel
  have bb_hpre_0 := hpre_0.b
  have bb_hpre_4 := hpre_4.b
  have kk_hpre_0 := hpre_0.in
  rcases hr7 with ⟨f1, f2, f3⟩ | ⟨f1, f2, -⟩
  · exact ⟨Keep.rf.em (by omega), by omega, by omega, fun h => by omega⟩
  · exfalso; have := congrArg Int32.toInt f2; omega
-- nw@102 @102
theorem v_call_6 (σ : RS) (x1 : Int32) (n4 : Int32) (r3 : Int32) (F8 : (Nat → Int32)) (n9 : Int32) (F10 : (Nat → Int32)) (F11 : (Nat → Int32)) (F13 : (Nat → Int32)) (F14 : (Nat → Int32)) (n15 : Int32) (n16 : Int32) (x19 : Int32) (hpre_0 : TKI (σ.2.1 4) (σ.2.2.1 6) (σ.2.1 7) (σ.1 3) (σ.1 14)) (hpre_1 : 0 ≤ (σ.1 15).toInt) (hpre_2 : (σ.1 15).toInt ≤ 3510) (hpre_3 : (σ.1 8).toInt = 0) (hpre_4 : PQ0 1 1 (σ.1 14) (σ.1 15) (σ.1 16) (σ.1 19) (σ.1 29) (σ.2.1 11) (σ.2.2.1 12) (σ.2.1 31) (σ.2.1 30) (σ.2.1 32) (σ.2.1 21) (σ.2.1 22) (σ.2.1 20) (σ.2.1 23) (σ.2.1 24) (σ.2.1 25) (σ.2.1 27) (σ.1 33) (σ.1 34)) (hpre_5 : ((σ.2.1 4) (σ.1 14).toNatClampNeg).toInt = 5) (ex1 : x1 = (σ.1 14) + (1 : Int32)) (tx1 : x1.toInt = (σ.1 14).toInt + 1) (hr3_0 : n4.toInt = (σ.1 16).toInt + 1) (hr3_1 : r3.toInt = (σ.1 15).toInt + (σ.1 16).toInt) (hr7 : ((σ.1 19).toInt = 5 ∧ n16.toInt = 3 ∧ n9.toInt = 5) ∨ ((σ.1 19).toInt < 5 ∧ n16 = (σ.1 8) ∧ n9.toInt = (σ.1 19).toInt + 1 ∧ F8 = upd (σ.2.1 20) (σ.1 19).toInt.toNat (3 : Int32) ∧ F10 = upd (σ.2.1 21) (σ.1 19).toInt.toNat (σ.1 29) ∧ F11 = upd (σ.2.1 22) (σ.1 19).toInt.toNat (0 : Int32) ∧ F13 = upd (σ.2.1 27) (σ.1 19).toInt.toNat (1 : Int32) ∧ F14 = upd (σ.2.1 28) (σ.1 19).toInt.toNat (0 : Int32) ∧ n15.toInt = 1)) (c18 : n16.toInt = 0) (ex19 : x19 = n9 - (1 : Int32)) : x19.toInt = n9.toInt - 1 := by
  have q0 : (0 : Int32).toInt = 0 := by decide +kernel
  have q1 : (1 : Int32).toInt = 1 := by decide +kernel
  have q3 : (3 : Int32).toInt = 3 := by decide +kernel
  have bb_hpre_0 := hpre_0.b
  have bb_hpre_4 := hpre_4.b
  have kk_hpre_0 := hpre_0.in
  have w1 : (1 : Int32).toInt = 1 := by decide +kernel
  rw [ex19, z_sub (by omega) (by omega)]; first | done | omega
-- in@104 @104
theorem v_call_7 (σ : RS) (x1 : Int32) (n4 : Int32) (r3 : Int32) (F8 : (Nat → Int32)) (n9 : Int32) (F10 : (Nat → Int32)) (F11 : (Nat → Int32)) (F13 : (Nat → Int32)) (F14 : (Nat → Int32)) (n15 : Int32) (n16 : Int32) (x19 : Int32) (hpre_0 : TKI (σ.2.1 4) (σ.2.2.1 6) (σ.2.1 7) (σ.1 3) (σ.1 14)) (hpre_1 : 0 ≤ (σ.1 15).toInt) (hpre_2 : (σ.1 15).toInt ≤ 3510) (hpre_3 : (σ.1 8).toInt = 0) (hpre_4 : PQ0 1 1 (σ.1 14) (σ.1 15) (σ.1 16) (σ.1 19) (σ.1 29) (σ.2.1 11) (σ.2.2.1 12) (σ.2.1 31) (σ.2.1 30) (σ.2.1 32) (σ.2.1 21) (σ.2.1 22) (σ.2.1 20) (σ.2.1 23) (σ.2.1 24) (σ.2.1 25) (σ.2.1 27) (σ.1 33) (σ.1 34)) (hpre_5 : ((σ.2.1 4) (σ.1 14).toNatClampNeg).toInt = 5) (ex1 : x1 = (σ.1 14) + (1 : Int32)) (tx1 : x1.toInt = (σ.1 14).toInt + 1) (hr3_0 : n4.toInt = (σ.1 16).toInt + 1) (hr3_1 : r3.toInt = (σ.1 15).toInt + (σ.1 16).toInt) (hr7 : ((σ.1 19).toInt = 5 ∧ n16.toInt = 3 ∧ n9.toInt = 5) ∨ ((σ.1 19).toInt < 5 ∧ n16 = (σ.1 8) ∧ n9.toInt = (σ.1 19).toInt + 1 ∧ F8 = upd (σ.2.1 20) (σ.1 19).toInt.toNat (3 : Int32) ∧ F10 = upd (σ.2.1 21) (σ.1 19).toInt.toNat (σ.1 29) ∧ F11 = upd (σ.2.1 22) (σ.1 19).toInt.toNat (0 : Int32) ∧ F13 = upd (σ.2.1 27) (σ.1 19).toInt.toNat (1 : Int32) ∧ F14 = upd (σ.2.1 28) (σ.1 19).toInt.toNat (0 : Int32) ∧ n15.toInt = 1)) (c18 : n16.toInt = 0) (ex19 : x19 = n9 - (1 : Int32)) (tx19 : x19.toInt = n9.toInt - 1) : vp_in x19 8 := by
  have q0 : (0 : Int32).toInt = 0 := by decide +kernel
  have q1 : (1 : Int32).toInt = 1 := by decide +kernel
  have q3 : (3 : Int32).toInt = 3 := by decide +kernel
  have bb_hpre_0 := hpre_0.b
  have bb_hpre_4 := hpre_4.b
  have kk_hpre_0 := hpre_0.in
  exact vp_in_iff.mpr ⟨by omega, by omega⟩
-- nw@114 @114
theorem v_call_8 (σ : RS) (x1 : Int32) (n4 : Int32) (r3 : Int32) (F8 : (Nat → Int32)) (n9 : Int32) (F10 : (Nat → Int32)) (F11 : (Nat → Int32)) (F13 : (Nat → Int32)) (F14 : (Nat → Int32)) (n15 : Int32) (n16 : Int32) (x19 : Int32) (x20 : Int32) (hpre_0 : TKI (σ.2.1 4) (σ.2.2.1 6) (σ.2.1 7) (σ.1 3) (σ.1 14)) (hpre_1 : 0 ≤ (σ.1 15).toInt) (hpre_2 : (σ.1 15).toInt ≤ 3510) (hpre_3 : (σ.1 8).toInt = 0) (hpre_4 : PQ0 1 1 (σ.1 14) (σ.1 15) (σ.1 16) (σ.1 19) (σ.1 29) (σ.2.1 11) (σ.2.2.1 12) (σ.2.1 31) (σ.2.1 30) (σ.2.1 32) (σ.2.1 21) (σ.2.1 22) (σ.2.1 20) (σ.2.1 23) (σ.2.1 24) (σ.2.1 25) (σ.2.1 27) (σ.1 33) (σ.1 34)) (hpre_5 : ((σ.2.1 4) (σ.1 14).toNatClampNeg).toInt = 5) (ex1 : x1 = (σ.1 14) + (1 : Int32)) (tx1 : x1.toInt = (σ.1 14).toInt + 1) (hr3_0 : n4.toInt = (σ.1 16).toInt + 1) (hr3_1 : r3.toInt = (σ.1 15).toInt + (σ.1 16).toInt) (hr7 : ((σ.1 19).toInt = 5 ∧ n16.toInt = 3 ∧ n9.toInt = 5) ∨ ((σ.1 19).toInt < 5 ∧ n16 = (σ.1 8) ∧ n9.toInt = (σ.1 19).toInt + 1 ∧ F8 = upd (σ.2.1 20) (σ.1 19).toInt.toNat (3 : Int32) ∧ F10 = upd (σ.2.1 21) (σ.1 19).toInt.toNat (σ.1 29) ∧ F11 = upd (σ.2.1 22) (σ.1 19).toInt.toNat (0 : Int32) ∧ F13 = upd (σ.2.1 27) (σ.1 19).toInt.toNat (1 : Int32) ∧ F14 = upd (σ.2.1 28) (σ.1 19).toInt.toNat (0 : Int32) ∧ n15.toInt = 1)) (c18 : n16.toInt = 0) (ex19 : x19 = n9 - (1 : Int32)) (tx19 : x19.toInt = n9.toInt - 1) (ex20 : x20 = n9 - (1 : Int32)) : x20.toInt = n9.toInt - 1 := by
  have q0 : (0 : Int32).toInt = 0 := by decide +kernel
  have q1 : (1 : Int32).toInt = 1 := by decide +kernel
  have q3 : (3 : Int32).toInt = 3 := by decide +kernel
  have bb_hpre_0 := hpre_0.b
  have bb_hpre_4 := hpre_4.b
  have kk_hpre_0 := hpre_0.in
  have w1 : (1 : Int32).toInt = 1 := by decide +kernel
  rw [ex20, z_sub (by omega) (by omega)]; first | done | omega
-- in@116 @116
theorem v_call_9 (σ : RS) (x1 : Int32) (n4 : Int32) (r3 : Int32) (F8 : (Nat → Int32)) (n9 : Int32) (F10 : (Nat → Int32)) (F11 : (Nat → Int32)) (F13 : (Nat → Int32)) (F14 : (Nat → Int32)) (n15 : Int32) (n16 : Int32) (x19 : Int32) (x20 : Int32) (hpre_0 : TKI (σ.2.1 4) (σ.2.2.1 6) (σ.2.1 7) (σ.1 3) (σ.1 14)) (hpre_1 : 0 ≤ (σ.1 15).toInt) (hpre_2 : (σ.1 15).toInt ≤ 3510) (hpre_3 : (σ.1 8).toInt = 0) (hpre_4 : PQ0 1 1 (σ.1 14) (σ.1 15) (σ.1 16) (σ.1 19) (σ.1 29) (σ.2.1 11) (σ.2.2.1 12) (σ.2.1 31) (σ.2.1 30) (σ.2.1 32) (σ.2.1 21) (σ.2.1 22) (σ.2.1 20) (σ.2.1 23) (σ.2.1 24) (σ.2.1 25) (σ.2.1 27) (σ.1 33) (σ.1 34)) (hpre_5 : ((σ.2.1 4) (σ.1 14).toNatClampNeg).toInt = 5) (ex1 : x1 = (σ.1 14) + (1 : Int32)) (tx1 : x1.toInt = (σ.1 14).toInt + 1) (hr3_0 : n4.toInt = (σ.1 16).toInt + 1) (hr3_1 : r3.toInt = (σ.1 15).toInt + (σ.1 16).toInt) (hr7 : ((σ.1 19).toInt = 5 ∧ n16.toInt = 3 ∧ n9.toInt = 5) ∨ ((σ.1 19).toInt < 5 ∧ n16 = (σ.1 8) ∧ n9.toInt = (σ.1 19).toInt + 1 ∧ F8 = upd (σ.2.1 20) (σ.1 19).toInt.toNat (3 : Int32) ∧ F10 = upd (σ.2.1 21) (σ.1 19).toInt.toNat (σ.1 29) ∧ F11 = upd (σ.2.1 22) (σ.1 19).toInt.toNat (0 : Int32) ∧ F13 = upd (σ.2.1 27) (σ.1 19).toInt.toNat (1 : Int32) ∧ F14 = upd (σ.2.1 28) (σ.1 19).toInt.toNat (0 : Int32) ∧ n15.toInt = 1)) (c18 : n16.toInt = 0) (ex19 : x19 = n9 - (1 : Int32)) (tx19 : x19.toInt = n9.toInt - 1) (ex20 : x20 = n9 - (1 : Int32)) (tx20 : x20.toInt = n9.toInt - 1) : vp_in x20 8 := by
  have q0 : (0 : Int32).toInt = 0 := by decide +kernel
  have q1 : (1 : Int32).toInt = 1 := by decide +kernel
  have q3 : (3 : Int32).toInt = 3 := by decide +kernel
  have bb_hpre_0 := hpre_0.b
  have bb_hpre_4 := hpre_4.b
  have kk_hpre_0 := hpre_0.in
  exact vp_in_iff.mpr ⟨by omega, by omega⟩
-- nw@126 @126
theorem v_call_10 (σ : RS) (x1 : Int32) (n4 : Int32) (r3 : Int32) (F8 : (Nat → Int32)) (n9 : Int32) (F10 : (Nat → Int32)) (F11 : (Nat → Int32)) (F13 : (Nat → Int32)) (F14 : (Nat → Int32)) (n15 : Int32) (n16 : Int32) (x19 : Int32) (x20 : Int32) (x21 : Int32) (hpre_0 : TKI (σ.2.1 4) (σ.2.2.1 6) (σ.2.1 7) (σ.1 3) (σ.1 14)) (hpre_1 : 0 ≤ (σ.1 15).toInt) (hpre_2 : (σ.1 15).toInt ≤ 3510) (hpre_3 : (σ.1 8).toInt = 0) (hpre_4 : PQ0 1 1 (σ.1 14) (σ.1 15) (σ.1 16) (σ.1 19) (σ.1 29) (σ.2.1 11) (σ.2.2.1 12) (σ.2.1 31) (σ.2.1 30) (σ.2.1 32) (σ.2.1 21) (σ.2.1 22) (σ.2.1 20) (σ.2.1 23) (σ.2.1 24) (σ.2.1 25) (σ.2.1 27) (σ.1 33) (σ.1 34)) (hpre_5 : ((σ.2.1 4) (σ.1 14).toNatClampNeg).toInt = 5) (ex1 : x1 = (σ.1 14) + (1 : Int32)) (tx1 : x1.toInt = (σ.1 14).toInt + 1) (hr3_0 : n4.toInt = (σ.1 16).toInt + 1) (hr3_1 : r3.toInt = (σ.1 15).toInt + (σ.1 16).toInt) (hr7 : ((σ.1 19).toInt = 5 ∧ n16.toInt = 3 ∧ n9.toInt = 5) ∨ ((σ.1 19).toInt < 5 ∧ n16 = (σ.1 8) ∧ n9.toInt = (σ.1 19).toInt + 1 ∧ F8 = upd (σ.2.1 20) (σ.1 19).toInt.toNat (3 : Int32) ∧ F10 = upd (σ.2.1 21) (σ.1 19).toInt.toNat (σ.1 29) ∧ F11 = upd (σ.2.1 22) (σ.1 19).toInt.toNat (0 : Int32) ∧ F13 = upd (σ.2.1 27) (σ.1 19).toInt.toNat (1 : Int32) ∧ F14 = upd (σ.2.1 28) (σ.1 19).toInt.toNat (0 : Int32) ∧ n15.toInt = 1)) (c18 : n16.toInt = 0) (ex19 : x19 = n9 - (1 : Int32)) (tx19 : x19.toInt = n9.toInt - 1) (ex20 : x20 = n9 - (1 : Int32)) (tx20 : x20.toInt = n9.toInt - 1) (ex21 : x21 = n9 - (1 : Int32)) : x21.toInt = n9.toInt - 1 := by
  have q0 : (0 : Int32).toInt = 0 := by decide +kernel
  have q1 : (1 : Int32).toInt = 1 := by decide +kernel
  have q3 : (3 : Int32).toInt = 3 := by decide +kernel
  have bb_hpre_0 := hpre_0.b
  have bb_hpre_4 := hpre_4.b
  have kk_hpre_0 := hpre_0.in
  have w1 : (1 : Int32).toInt = 1 := by decide +kernel
  rw [ex21, z_sub (by omega) (by omega)]; first | done | omega
-- in@128 @128
theorem v_call_11 (σ : RS) (x1 : Int32) (n4 : Int32) (r3 : Int32) (F8 : (Nat → Int32)) (n9 : Int32) (F10 : (Nat → Int32)) (F11 : (Nat → Int32)) (F13 : (Nat → Int32)) (F14 : (Nat → Int32)) (n15 : Int32) (n16 : Int32) (x19 : Int32) (x20 : Int32) (x21 : Int32) (hpre_0 : TKI (σ.2.1 4) (σ.2.2.1 6) (σ.2.1 7) (σ.1 3) (σ.1 14)) (hpre_1 : 0 ≤ (σ.1 15).toInt) (hpre_2 : (σ.1 15).toInt ≤ 3510) (hpre_3 : (σ.1 8).toInt = 0) (hpre_4 : PQ0 1 1 (σ.1 14) (σ.1 15) (σ.1 16) (σ.1 19) (σ.1 29) (σ.2.1 11) (σ.2.2.1 12) (σ.2.1 31) (σ.2.1 30) (σ.2.1 32) (σ.2.1 21) (σ.2.1 22) (σ.2.1 20) (σ.2.1 23) (σ.2.1 24) (σ.2.1 25) (σ.2.1 27) (σ.1 33) (σ.1 34)) (hpre_5 : ((σ.2.1 4) (σ.1 14).toNatClampNeg).toInt = 5) (ex1 : x1 = (σ.1 14) + (1 : Int32)) (tx1 : x1.toInt = (σ.1 14).toInt + 1) (hr3_0 : n4.toInt = (σ.1 16).toInt + 1) (hr3_1 : r3.toInt = (σ.1 15).toInt + (σ.1 16).toInt) (hr7 : ((σ.1 19).toInt = 5 ∧ n16.toInt = 3 ∧ n9.toInt = 5) ∨ ((σ.1 19).toInt < 5 ∧ n16 = (σ.1 8) ∧ n9.toInt = (σ.1 19).toInt + 1 ∧ F8 = upd (σ.2.1 20) (σ.1 19).toInt.toNat (3 : Int32) ∧ F10 = upd (σ.2.1 21) (σ.1 19).toInt.toNat (σ.1 29) ∧ F11 = upd (σ.2.1 22) (σ.1 19).toInt.toNat (0 : Int32) ∧ F13 = upd (σ.2.1 27) (σ.1 19).toInt.toNat (1 : Int32) ∧ F14 = upd (σ.2.1 28) (σ.1 19).toInt.toNat (0 : Int32) ∧ n15.toInt = 1)) (c18 : n16.toInt = 0) (ex19 : x19 = n9 - (1 : Int32)) (tx19 : x19.toInt = n9.toInt - 1) (ex20 : x20 = n9 - (1 : Int32)) (tx20 : x20.toInt = n9.toInt - 1) (ex21 : x21 = n9 - (1 : Int32)) (tx21 : x21.toInt = n9.toInt - 1) : vp_in x21 8 := by
  have q0 : (0 : Int32).toInt = 0 := by decide +kernel
  have q1 : (1 : Int32).toInt = 1 := by decide +kernel
  have q3 : (3 : Int32).toInt = 3 := by decide +kernel
  have bb_hpre_0 := hpre_0.b
  have bb_hpre_4 := hpre_4.b
  have kk_hpre_0 := hpre_0.in
  exact vp_in_iff.mpr ⟨by omega, by omega⟩
-- post @129
theorem v_call_12 (σ : RS) (k0 : Int32) (x1 : Int32) (n4 : Int32) (r3 : Int32) (F8 : (Nat → Int32)) (n9 : Int32) (F10 : (Nat → Int32)) (F11 : (Nat → Int32)) (F13 : (Nat → Int32)) (F14 : (Nat → Int32)) (n15 : Int32) (n16 : Int32) (x19 : Int32) (x20 : Int32) (x21 : Int32) (hpre_0 : TKI (σ.2.1 4) (σ.2.2.1 6) (σ.2.1 7) (σ.1 3) (σ.1 14)) (hpre_1 : 0 ≤ (σ.1 15).toInt) (hpre_2 : (σ.1 15).toInt ≤ 3510) (hpre_3 : (σ.1 8).toInt = 0) (hpre_4 : PQ0 1 1 (σ.1 14) (σ.1 15) (σ.1 16) (σ.1 19) (σ.1 29) (σ.2.1 11) (σ.2.2.1 12) (σ.2.1 31) (σ.2.1 30) (σ.2.1 32) (σ.2.1 21) (σ.2.1 22) (σ.2.1 20) (σ.2.1 23) (σ.2.1 24) (σ.2.1 25) (σ.2.1 27) (σ.1 33) (σ.1 34)) (hpre_5 : ((σ.2.1 4) (σ.1 14).toNatClampNeg).toInt = 5) (hpre_6 : 0 ≤ k0.toInt) (hpre_7 : k0.toInt ≤ 14348906) (ex1 : x1 = (σ.1 14) + (1 : Int32)) (tx1 : x1.toInt = (σ.1 14).toInt + 1) (hr3_0 : n4.toInt = (σ.1 16).toInt + 1) (hr3_1 : r3.toInt = (σ.1 15).toInt + (σ.1 16).toInt) (hr5 : ¬ (((σ.2.1 4) x1.toNatClampNeg).toInt = 5 ∧ ((σ.2.2.1 6) x1.toNatClampNeg).toInt = (41 : Int32).toInt)) (hr7 : ((σ.1 19).toInt = 5 ∧ n16.toInt = 3 ∧ n9.toInt = 5) ∨ ((σ.1 19).toInt < 5 ∧ n16 = (σ.1 8) ∧ n9.toInt = (σ.1 19).toInt + 1 ∧ F8 = upd (σ.2.1 20) (σ.1 19).toInt.toNat (3 : Int32) ∧ F10 = upd (σ.2.1 21) (σ.1 19).toInt.toNat (σ.1 29) ∧ F11 = upd (σ.2.1 22) (σ.1 19).toInt.toNat (0 : Int32) ∧ F13 = upd (σ.2.1 27) (σ.1 19).toInt.toNat (1 : Int32) ∧ F14 = upd (σ.2.1 28) (σ.1 19).toInt.toNat (0 : Int32) ∧ n15.toInt = 1)) (c18 : n16.toInt = 0) (ex19 : x19 = n9 - (1 : Int32)) (tx19 : x19.toInt = n9.toInt - 1) (ex20 : x20 = n9 - (1 : Int32)) (tx20 : x20.toInt = n9.toInt - 1) (ex21 : x21 = n9 - (1 : Int32)) (tx21 : x21.toInt = n9.toInt - 1) : Keep (σ.1 15).toInt (σ.2.1 11) (upd (σ.2.1 11) ((σ.1 15).toInt + (σ.1 16).toInt).toNat (13 : Int32)) (σ.2.2.1 12) (vp_updL (σ.2.2.1 12) ((σ.1 15).toInt + (σ.1 16).toInt).toNat (0 : Int64)) ∧ 0 ≤ n16.toInt ∧ n16.toInt ≤ 3 ∧ (n16.toInt = 0 → TKI (σ.2.1 4) (σ.2.2.1 6) (σ.2.1 7) (σ.1 3) x1 ∧ LI n15 x1 (σ.1 15) n4 n9 (σ.1 29) (upd (σ.2.1 11) ((σ.1 15).toInt + (σ.1 16).toInt).toNat (13 : Int32)) (vp_updL (σ.2.2.1 12) ((σ.1 15).toInt + (σ.1 16).toInt).toNat (0 : Int64)) (σ.2.1 31) (σ.2.1 30) (σ.2.1 32) F10 F11 F8 (upd (σ.2.1 23) x19.toNatClampNeg r3) (upd (σ.2.1 24) x20.toNatClampNeg k0) (upd (σ.2.1 25) x21.toNatClampNeg (1 : Int32)) F13 (σ.1 33) (σ.1 34) F14 ∧ 2 * (σ.1 14).toInt - (σ.1 19).toInt ≤ 2 * x1.toInt - n9.toInt) := by
  have q0 : (0 : Int32).toInt = 0 := by decide +kernel
  have q1 : (1 : Int32).toInt = 1 := by decide +kernel
  have q3 : (3 : Int32).toInt = 3 := by decide +kernel
  have q13 : (13 : Int32).toInt = 13 := by decide +kernel
  have q41 : (41 : Int32).toInt = 41 := by decide +kernel
  have ql0 : (0 : Int64).toInt = 0 := by decide +kernel
  have bb_hpre_0 := hpre_0.b
  have bb_hpre_4 := hpre_4.b
  have kk_hpre_0 := hpre_0.in
  have k := hpre_0.in (by omega)
  rcases hr7 with ⟨f1, f2, f3⟩ | ⟨f1, f2, f3, f4, f5, f6, f7, f8, f9⟩
  · exact ⟨Keep.rf.em (by omega), by omega, by omega, fun h => by omega⟩
  · have f2 := congrArg Int32.toInt f2
    subst f4 f5 f6 f7 f8
    refine ⟨Keep.rf.em (by omega), by omega, by omega, fun _ => ⟨hpre_0.up (by omega) (by omega), Or.inl ⟨f9, PQ_jopen hpre_4 (by omega) hpre_2 (by omega) (by omega) (by omega) (by omega) (by omega) (by omega) (by omega) rfl rfl (by rw [clampN]; omega) (by rw [clampN]; omega) (by rw [clampN]; omega) rfl rfl (by omega) (by omega) (by omega)⟩, by omega⟩⟩
-- nw@42 @42
theorem v_call_13 (σ : RS) (x1 : Int32) (n4 : Int32) (r3 : Int32) (x22 : Int32) (hpre_0 : TKI (σ.2.1 4) (σ.2.2.1 6) (σ.2.1 7) (σ.1 3) (σ.1 14)) (hpre_1 : 0 ≤ (σ.1 15).toInt) (hpre_2 : (σ.1 15).toInt ≤ 3510) (hpre_4 : PQ0 1 1 (σ.1 14) (σ.1 15) (σ.1 16) (σ.1 19) (σ.1 29) (σ.2.1 11) (σ.2.2.1 12) (σ.2.1 31) (σ.2.1 30) (σ.2.1 32) (σ.2.1 21) (σ.2.1 22) (σ.2.1 20) (σ.2.1 23) (σ.2.1 24) (σ.2.1 25) (σ.2.1 27) (σ.1 33) (σ.1 34)) (hpre_5 : ((σ.2.1 4) (σ.1 14).toNatClampNeg).toInt = 5) (ex1 : x1 = (σ.1 14) + (1 : Int32)) (tx1 : x1.toInt = (σ.1 14).toInt + 1) (hr3_0 : n4.toInt = (σ.1 16).toInt + 1) (hr3_1 : r3.toInt = (σ.1 15).toInt + (σ.1 16).toInt) (hr5_0 : ((σ.2.1 4) x1.toNatClampNeg).toInt = 5) (hr5_1 : ((σ.2.2.1 6) x1.toNatClampNeg).toInt = (41 : Int32).toInt) (ex22 : x22 = x1 + (1 : Int32)) : x22.toInt = x1.toInt + 1 := by
  have q1 : (1 : Int32).toInt = 1 := by decide +kernel
  have q41 : (41 : Int32).toInt = 41 := by decide +kernel
  have bb_hpre_0 := hpre_0.b
  have bb_hpre_4 := hpre_4.b
  have kk_hpre_0 := hpre_0.in
  have w1 : (1 : Int32).toInt = 1 := by decide +kernel
  rw [ex22, z_add (by omega) (by omega)]; first | done | omega
-- nw@54 @54
theorem v_call_14 (k0 : Int32) (x23 : Int64) (x24 : Int64) (hpre_6 : 0 ≤ k0.toInt) (hpre_7 : k0.toInt ≤ 14348906) (ex23 : x23 = Int32.toInt64 k0) (tx23 : x23.toInt = k0.toInt) (ex24 : x24 = (4 : Int64) * x23) : x24.toInt = 4 * x23.toInt := by
  have ql4 : (4 : Int64).toInt = 4 := by decide +kernel
  have w0 : (4 : Int64).toInt = 4 := by decide +kernel
  rw [ex24, zl_mulc 4 w0 (by omega) (by omega)]
-- pre:emit@55 @55
theorem v_call_15 (σ : RS) (x1 : Int32) (n4 : Int32) (r3 : Int32) (x22 : Int32) (hpre_0 : TKI (σ.2.1 4) (σ.2.2.1 6) (σ.2.1 7) (σ.1 3) (σ.1 14)) (hpre_1 : 0 ≤ (σ.1 15).toInt) (hpre_2 : (σ.1 15).toInt ≤ 3510) (hpre_4 : PQ0 1 1 (σ.1 14) (σ.1 15) (σ.1 16) (σ.1 19) (σ.1 29) (σ.2.1 11) (σ.2.2.1 12) (σ.2.1 31) (σ.2.1 30) (σ.2.1 32) (σ.2.1 21) (σ.2.1 22) (σ.2.1 20) (σ.2.1 23) (σ.2.1 24) (σ.2.1 25) (σ.2.1 27) (σ.1 33) (σ.1 34)) (hpre_5 : ((σ.2.1 4) (σ.1 14).toNatClampNeg).toInt = 5) (ex1 : x1 = (σ.1 14) + (1 : Int32)) (tx1 : x1.toInt = (σ.1 14).toInt + 1) (hr3_0 : n4.toInt = (σ.1 16).toInt + 1) (hr3_1 : r3.toInt = (σ.1 15).toInt + (σ.1 16).toInt) (hr5_0 : ((σ.2.1 4) x1.toNatClampNeg).toInt = 5) (hr5_1 : ((σ.2.2.1 6) x1.toNatClampNeg).toInt = (41 : Int32).toInt) (ex22 : x22 = x1 + (1 : Int32)) (tx22 : x22.toInt = x1.toInt + 1) : 0 ≤ (σ.1 15).toInt ∧ 0 ≤ n4.toInt ∧ (σ.1 15).toInt + n4.toInt < 3600 := by
  have q1 : (1 : Int32).toInt = 1 := by decide +kernel
  have q41 : (41 : Int32).toInt = 41 := by decide +kernel
  have bb_hpre_0 := hpre_0.b
  have bb_hpre_4 := hpre_4.b
  have kk_hpre_0 := hpre_0.in
  refine ⟨?_, ?_, ?_⟩ <;> first | assumption | omega | (subst_vars; omega) | trivial
-- nw@72 @72
theorem v_call_16 (σ : RS) (x1 : Int32) (n4 : Int32) (r3 : Int32) (x22 : Int32) (n26 : Int32) (r25 : Int32) (x27 : Int32) (hpre_0 : TKI (σ.2.1 4) (σ.2.2.1 6) (σ.2.1 7) (σ.1 3) (σ.1 14)) (hpre_1 : 0 ≤ (σ.1 15).toInt) (hpre_2 : (σ.1 15).toInt ≤ 3510) (hpre_4 : PQ0 1 1 (σ.1 14) (σ.1 15) (σ.1 16) (σ.1 19) (σ.1 29) (σ.2.1 11) (σ.2.2.1 12) (σ.2.1 31) (σ.2.1 30) (σ.2.1 32) (σ.2.1 21) (σ.2.1 22) (σ.2.1 20) (σ.2.1 23) (σ.2.1 24) (σ.2.1 25) (σ.2.1 27) (σ.1 33) (σ.1 34)) (hpre_5 : ((σ.2.1 4) (σ.1 14).toNatClampNeg).toInt = 5) (ex1 : x1 = (σ.1 14) + (1 : Int32)) (tx1 : x1.toInt = (σ.1 14).toInt + 1) (hr3_0 : n4.toInt = (σ.1 16).toInt + 1) (hr3_1 : r3.toInt = (σ.1 15).toInt + (σ.1 16).toInt) (hr5_0 : ((σ.2.1 4) x1.toNatClampNeg).toInt = 5) (hr5_1 : ((σ.2.2.1 6) x1.toNatClampNeg).toInt = (41 : Int32).toInt) (ex22 : x22 = x1 + (1 : Int32)) (tx22 : x22.toInt = x1.toInt + 1) (hr25_0 : n26.toInt = n4.toInt + 1) (hr25_1 : r25.toInt = (σ.1 15).toInt + n4.toInt) (ex27 : x27 = (σ.1 15) + n26) : x27.toInt = (σ.1 15).toInt + n26.toInt := by
  have q1 : (1 : Int32).toInt = 1 := by decide +kernel
  have q41 : (41 : Int32).toInt = 41 := by decide +kernel
  have bb_hpre_0 := hpre_0.b
  have bb_hpre_4 := hpre_4.b
  have kk_hpre_0 := hpre_0.in
  rw [ex27, z_add (by omega) (by omega)]; first | done | omega
-- in@74 @74
theorem v_call_17 (σ : RS) (k0 : Int32) (x1 : Int32) (n4 : Int32) (r3 : Int32) (x22 : Int32) (x23 : Int64) (x24 : Int64) (n26 : Int32) (r25 : Int32) (x27 : Int32) (x28 : Int64) (hpre_0 : TKI (σ.2.1 4) (σ.2.2.1 6) (σ.2.1 7) (σ.1 3) (σ.1 14)) (hpre_1 : 0 ≤ (σ.1 15).toInt) (hpre_2 : (σ.1 15).toInt ≤ 3510) (hpre_4 : PQ0 1 1 (σ.1 14) (σ.1 15) (σ.1 16) (σ.1 19) (σ.1 29) (σ.2.1 11) (σ.2.2.1 12) (σ.2.1 31) (σ.2.1 30) (σ.2.1 32) (σ.2.1 21) (σ.2.1 22) (σ.2.1 20) (σ.2.1 23) (σ.2.1 24) (σ.2.1 25) (σ.2.1 27) (σ.1 33) (σ.1 34)) (hpre_5 : ((σ.2.1 4) (σ.1 14).toNatClampNeg).toInt = 5) (hpre_6 : 0 ≤ k0.toInt) (hpre_7 : k0.toInt ≤ 14348906) (ex1 : x1 = (σ.1 14) + (1 : Int32)) (tx1 : x1.toInt = (σ.1 14).toInt + 1) (hr3_0 : n4.toInt = (σ.1 16).toInt + 1) (hr3_1 : r3.toInt = (σ.1 15).toInt + (σ.1 16).toInt) (hr5_0 : ((σ.2.1 4) x1.toNatClampNeg).toInt = 5) (hr5_1 : ((σ.2.2.1 6) x1.toNatClampNeg).toInt = (41 : Int32).toInt) (ex22 : x22 = x1 + (1 : Int32)) (tx22 : x22.toInt = x1.toInt + 1) (ex23 : x23 = Int32.toInt64 k0) (tx23 : x23.toInt = k0.toInt) (ex24 : x24 = (4 : Int64) * x23) (tx24 : x24.toInt = 4 * x23.toInt) (hr25_0 : n26.toInt = n4.toInt + 1) (hr25_1 : r25.toInt = (σ.1 15).toInt + n4.toInt) (ex27 : x27 = (σ.1 15) + n26) (tx27 : x27.toInt = (σ.1 15).toInt + n26.toInt) (ex28 : x28 = Int32.toInt64 x27) (tx28 : x28.toInt = x27.toInt) : vp_in r3 3600 := by
  have q1 : (1 : Int32).toInt = 1 := by decide +kernel
  have q41 : (41 : Int32).toInt = 41 := by decide +kernel
  have ql4 : (4 : Int64).toInt = 4 := by decide +kernel
  have bb_hpre_0 := hpre_0.b
  have bb_hpre_4 := hpre_4.b
  have kk_hpre_0 := hpre_0.in
  exact vp_in_iff.mpr ⟨by omega, by omega⟩
-- pre:ready@77 @77
theorem v_call_18 (σ : RS) (k0 : Int32) (x1 : Int32) (n4 : Int32) (r3 : Int32) (x22 : Int32) (x23 : Int64) (x24 : Int64) (n26 : Int32) (r25 : Int32) (x27 : Int32) (x28 : Int64) (hpre_0 : TKI (σ.2.1 4) (σ.2.2.1 6) (σ.2.1 7) (σ.1 3) (σ.1 14)) (hpre_1 : 0 ≤ (σ.1 15).toInt) (hpre_2 : (σ.1 15).toInt ≤ 3510) (hpre_4 : PQ0 1 1 (σ.1 14) (σ.1 15) (σ.1 16) (σ.1 19) (σ.1 29) (σ.2.1 11) (σ.2.2.1 12) (σ.2.1 31) (σ.2.1 30) (σ.2.1 32) (σ.2.1 21) (σ.2.1 22) (σ.2.1 20) (σ.2.1 23) (σ.2.1 24) (σ.2.1 25) (σ.2.1 27) (σ.1 33) (σ.1 34)) (hpre_5 : ((σ.2.1 4) (σ.1 14).toNatClampNeg).toInt = 5) (hpre_6 : 0 ≤ k0.toInt) (hpre_7 : k0.toInt ≤ 14348906) (ex1 : x1 = (σ.1 14) + (1 : Int32)) (tx1 : x1.toInt = (σ.1 14).toInt + 1) (hr3_0 : n4.toInt = (σ.1 16).toInt + 1) (hr3_1 : r3.toInt = (σ.1 15).toInt + (σ.1 16).toInt) (hr5_0 : ((σ.2.1 4) x1.toNatClampNeg).toInt = 5) (hr5_1 : ((σ.2.2.1 6) x1.toNatClampNeg).toInt = (41 : Int32).toInt) (ex22 : x22 = x1 + (1 : Int32)) (tx22 : x22.toInt = x1.toInt + 1) (ex23 : x23 = Int32.toInt64 k0) (tx23 : x23.toInt = k0.toInt) (ex24 : x24 = (4 : Int64) * x23) (tx24 : x24.toInt = 4 * x23.toInt) (hr25_0 : n26.toInt = n4.toInt + 1) (hr25_1 : r25.toInt = (σ.1 15).toInt + n4.toInt) (ex27 : x27 = (σ.1 15) + n26) (tx27 : x27.toInt = (σ.1 15).toInt + n26.toInt) (ex28 : x28 = Int32.toInt64 x27) (tx28 : x28.toInt = x27.toInt) : 1 ≤ (σ.1 19).toInt ∧ (σ.1 19).toInt ≤ 8 ∧ ((0 : Int32) = 0 ∨ (0 : Int32) = 1) := by
  have q0 : (0 : Int32).toInt = 0 := by decide +kernel
  have q1 : (1 : Int32).toInt = 1 := by decide +kernel
  have q41 : (41 : Int32).toInt = 41 := by decide +kernel
  have ql4 : (4 : Int64).toInt = 4 := by decide +kernel
  have bb_hpre_0 := hpre_0.b
  have bb_hpre_4 := hpre_4.b
  have kk_hpre_0 := hpre_0.in
  refine ⟨?_, ?_, ?_⟩ <;> first | assumption | omega | (subst_vars; omega) | trivial
-- post @80
theorem v_call_19 (σ : RS) (k0 : Int32) (x1 : Int32) (n4 : Int32) (r3 : Int32) (x22 : Int32) (x23 : Int64) (x24 : Int64) (n26 : Int32) (r25 : Int32) (x27 : Int32) (x28 : Int64) (hpre_0 : TKI (σ.2.1 4) (σ.2.2.1 6) (σ.2.1 7) (σ.1 3) (σ.1 14)) (hpre_1 : 0 ≤ (σ.1 15).toInt) (hpre_2 : (σ.1 15).toInt ≤ 3510) (hpre_3 : (σ.1 8).toInt = 0) (hpre_4 : PQ0 1 1 (σ.1 14) (σ.1 15) (σ.1 16) (σ.1 19) (σ.1 29) (σ.2.1 11) (σ.2.2.1 12) (σ.2.1 31) (σ.2.1 30) (σ.2.1 32) (σ.2.1 21) (σ.2.1 22) (σ.2.1 20) (σ.2.1 23) (σ.2.1 24) (σ.2.1 25) (σ.2.1 27) (σ.1 33) (σ.1 34)) (hpre_5 : ((σ.2.1 4) (σ.1 14).toNatClampNeg).toInt = 5) (hpre_6 : 0 ≤ k0.toInt) (hpre_7 : k0.toInt ≤ 14348906) (ex1 : x1 = (σ.1 14) + (1 : Int32)) (tx1 : x1.toInt = (σ.1 14).toInt + 1) (hr3_0 : n4.toInt = (σ.1 16).toInt + 1) (hr3_1 : r3.toInt = (σ.1 15).toInt + (σ.1 16).toInt) (hr5_0 : ((σ.2.1 4) x1.toNatClampNeg).toInt = 5) (hr5_1 : ((σ.2.2.1 6) x1.toNatClampNeg).toInt = (41 : Int32).toInt) (ex22 : x22 = x1 + (1 : Int32)) (tx22 : x22.toInt = x1.toInt + 1) (ex23 : x23 = Int32.toInt64 k0) (tx23 : x23.toInt = k0.toInt) (ex24 : x24 = (4 : Int64) * x23) (tx24 : x24.toInt = 4 * x23.toInt) (hr25_0 : n26.toInt = n4.toInt + 1) (hr25_1 : r25.toInt = (σ.1 15).toInt + n4.toInt) (ex27 : x27 = (σ.1 15) + n26) (tx27 : x27.toInt = (σ.1 15).toInt + n26.toInt) (ex28 : x28 = Int32.toInt64 x27) (tx28 : x28.toInt = x27.toInt) : Keep (σ.1 15).toInt (σ.2.1 11) (upd (upd (σ.2.1 11) ((σ.1 15).toInt + (σ.1 16).toInt).toNat (13 : Int32)) ((σ.1 15).toInt + n4.toInt).toNat (15 : Int32)) (σ.2.2.1 12) (vp_updL (vp_updL (vp_updL (σ.2.2.1 12) ((σ.1 15).toInt + (σ.1 16).toInt).toNat (0 : Int64)) ((σ.1 15).toInt + n4.toInt).toNat x24) r3.toNatClampNeg x28) ∧ 0 ≤ (σ.1 8).toInt ∧ (σ.1 8).toInt ≤ 3 ∧ ((σ.1 8).toInt = 0 → TKI (σ.2.1 4) (σ.2.2.1 6) (σ.2.1 7) (σ.1 3) x22 ∧ LI (0 : Int32) x22 (σ.1 15) n26 (σ.1 19) (σ.1 29) (upd (upd (σ.2.1 11) ((σ.1 15).toInt + (σ.1 16).toInt).toNat (13 : Int32)) ((σ.1 15).toInt + n4.toInt).toNat (15 : Int32)) (vp_updL (vp_updL (vp_updL (σ.2.2.1 12) ((σ.1 15).toInt + (σ.1 16).toInt).toNat (0 : Int64)) ((σ.1 15).toInt + n4.toInt).toNat x24) r3.toNatClampNeg x28) (σ.2.1 31) (σ.2.1 30) (σ.2.1 32) (σ.2.1 21) (σ.2.1 22) (σ.2.1 20) (σ.2.1 23) (σ.2.1 24) (σ.2.1 25) (σ.2.1 27) (σ.1 33) (σ.1 34) (upd (σ.2.1 28) ((σ.1 19).toInt - 1).toNat (0 : Int32)) ∧ 2 * (σ.1 14).toInt - (σ.1 19).toInt ≤ 2 * x22.toInt - (σ.1 19).toInt) := by
  have q0 : (0 : Int32).toInt = 0 := by decide +kernel
  have q1 : (1 : Int32).toInt = 1 := by decide +kernel
  have q13 : (13 : Int32).toInt = 13 := by decide +kernel
  have q15 : (15 : Int32).toInt = 15 := by decide +kernel
  have q41 : (41 : Int32).toInt = 41 := by decide +kernel
  have ql0 : (0 : Int64).toInt = 0 := by decide +kernel
  have ql4 : (4 : Int64).toInt = 4 := by decide +kernel
  have bb_hpre_0 := hpre_0.b
  have bb_hpre_4 := hpre_4.b
  have kk_hpre_0 := hpre_0.in
  have k := hpre_0.in (by omega)
  have k2 := (hpre_0.up (nx' := x1) (by omega) (by omega)).in (by omega)
  exact ⟨((Keep.rf.em (by omega)).em (by omega)).pa (by rw [clampN]; omega), by omega, by omega, fun _ => ⟨hpre_0.up (by omega) (by omega), Or.inr ⟨q0, PQ_call0 hpre_4 hpre_2 (by omega) (by omega) (by omega) (by rw [clampN]; omega) (by omega) (by omega) (by omega) (by omega) (by omega) (by omega) (fun hc => by rw [upd_at (by omega)]; exact q0)⟩, by omega⟩⟩
-- pre:isSign@30 @30
theorem v_call_20 (σ : RS) (x1 : Int32) (n31 : Int32) (r30 : Int32) (hpre_0 : TKI (σ.2.1 4) (σ.2.2.1 6) (σ.2.1 7) (σ.1 3) (σ.1 14)) (hpre_1 : 0 ≤ (σ.1 15).toInt) (hpre_2 : (σ.1 15).toInt ≤ 3510) (hpre_4 : PQ0 1 1 (σ.1 14) (σ.1 15) (σ.1 16) (σ.1 19) (σ.1 29) (σ.2.1 11) (σ.2.2.1 12) (σ.2.1 31) (σ.2.1 30) (σ.2.1 32) (σ.2.1 21) (σ.2.1 22) (σ.2.1 20) (σ.2.1 23) (σ.2.1 24) (σ.2.1 25) (σ.2.1 27) (σ.1 33) (σ.1 34)) (hpre_5 : ((σ.2.1 4) (σ.1 14).toNatClampNeg).toInt = 5) (ex1 : x1 = (σ.1 14) + (1 : Int32)) (tx1 : x1.toInt = (σ.1 14).toInt + 1) (hr30_0 : n31.toInt = (σ.1 16).toInt + 1) (hr30_1 : r30.toInt = (σ.1 15).toInt + (σ.1 16).toInt) : 0 ≤ x1.toInt ∧ x1.toInt ≤ 41 := by
  have q1 : (1 : Int32).toInt = 1 := by decide +kernel
  have bb_hpre_0 := hpre_0.b
  have bb_hpre_4 := hpre_4.b
  have kk_hpre_0 := hpre_0.in
  refine ⟨?_, ?_⟩ <;> first | assumption | omega | (subst_vars; omega) | trivial
-- pre:open@83 @83
theorem v_call_21 (σ : RS) (x1 : Int32) (n31 : Int32) (r30 : Int32) (hpre_0 : TKI (σ.2.1 4) (σ.2.2.1 6) (σ.2.1 7) (σ.1 3) (σ.1 14)) (hpre_1 : 0 ≤ (σ.1 15).toInt) (hpre_2 : (σ.1 15).toInt ≤ 3510) (hpre_3 : (σ.1 8).toInt = 0) (hpre_4 : PQ0 1 1 (σ.1 14) (σ.1 15) (σ.1 16) (σ.1 19) (σ.1 29) (σ.2.1 11) (σ.2.2.1 12) (σ.2.1 31) (σ.2.1 30) (σ.2.1 32) (σ.2.1 21) (σ.2.1 22) (σ.2.1 20) (σ.2.1 23) (σ.2.1 24) (σ.2.1 25) (σ.2.1 27) (σ.1 33) (σ.1 34)) (hpre_5 : ((σ.2.1 4) (σ.1 14).toNatClampNeg).toInt = 5) (ex1 : x1 = (σ.1 14) + (1 : Int32)) (tx1 : x1.toInt = (σ.1 14).toInt + 1) (hr30_0 : n31.toInt = (σ.1 16).toInt + 1) (hr30_1 : r30.toInt = (σ.1 15).toInt + (σ.1 16).toInt) (hr32 : ¬ (((σ.2.1 4) x1.toNatClampNeg).toInt = 5 ∧ ((σ.2.2.1 6) x1.toNatClampNeg).toInt = (41 : Int32).toInt)) : 0 ≤ (σ.1 19).toInt ∧ (σ.1 19).toInt ≤ 5 ∧ (σ.1 8).toInt = 0 ∧ 0 ≤ x1.toInt ∧ x1.toInt ≤ 41 := by
  have q1 : (1 : Int32).toInt = 1 := by decide +kernel
  have q41 : (41 : Int32).toInt = 41 := by decide +kernel
  have bb_hpre_0 := hpre_0.b
  have bb_hpre_4 := hpre_4.b
  have kk_hpre_0 := hpre_0.in
  refine ⟨?_, ?_, ?_, ?_, ?_⟩ <;> first | assumption | omega | (subst_vars; omega) | trivial
-- post @129
theorem v_call_22 (σ : RS) (x1 : Int32) (n31 : Int32) (r30 : Int32) (F35 : (Nat → Int32)) (n36 : Int32) (F37 : (Nat → Int32)) (F38 : (Nat → Int32)) (F40 : (Nat → Int32)) (F41 : (Nat → Int32)) (n42 : Int32) (n43 : Int32) (hpre_0 : TKI (σ.2.1 4) (σ.2.2.1 6) (σ.2.1 7) (σ.1 3) (σ.1 14)) (hpre_1 : 0 ≤ (σ.1 15).toInt) (hpre_2 : (σ.1 15).toInt ≤ 3510) (hpre_3 : (σ.1 8).toInt = 0) (hpre_4 : PQ0 1 1 (σ.1 14) (σ.1 15) (σ.1 16) (σ.1 19) (σ.1 29) (σ.2.1 11) (σ.2.2.1 12) (σ.2.1 31) (σ.2.1 30) (σ.2.1 32) (σ.2.1 21) (σ.2.1 22) (σ.2.1 20) (σ.2.1 23) (σ.2.1 24) (σ.2.1 25) (σ.2.1 27) (σ.1 33) (σ.1 34)) (hpre_5 : ((σ.2.1 4) (σ.1 14).toNatClampNeg).toInt = 5) (ex1 : x1 = (σ.1 14) + (1 : Int32)) (tx1 : x1.toInt = (σ.1 14).toInt + 1) (hr30_0 : n31.toInt = (σ.1 16).toInt + 1) (hr30_1 : r30.toInt = (σ.1 15).toInt + (σ.1 16).toInt) (hr32 : ¬ (((σ.2.1 4) x1.toNatClampNeg).toInt = 5 ∧ ((σ.2.2.1 6) x1.toNatClampNeg).toInt = (41 : Int32).toInt)) (hr34 : ((σ.1 19).toInt = 5 ∧ n43.toInt = 3 ∧ n36.toInt = 5) ∨ ((σ.1 19).toInt < 5 ∧ n43 = (σ.1 8) ∧ n36.toInt = (σ.1 19).toInt + 1 ∧ F35 = upd (σ.2.1 20) (σ.1 19).toInt.toNat (3 : Int32) ∧ F37 = upd (σ.2.1 21) (σ.1 19).toInt.toNat (σ.1 29) ∧ F38 = upd (σ.2.1 22) (σ.1 19).toInt.toNat (0 : Int32) ∧ F40 = upd (σ.2.1 27) (σ.1 19).toInt.toNat (1 : Int32) ∧ F41 = upd (σ.2.1 28) (σ.1 19).toInt.toNat (0 : Int32) ∧ n42.toInt = 1)) (c45 : ¬ n43.toInt = 0) : Keep (σ.1 15).toInt (σ.2.1 11) (upd (σ.2.1 11) ((σ.1 15).toInt + (σ.1 16).toInt).toNat (14 : Int32)) (σ.2.2.1 12) (vp_updL (σ.2.2.1 12) ((σ.1 15).toInt + (σ.1 16).toInt).toNat (0 : Int64)) ∧ 0 ≤ n43.toInt ∧ n43.toInt ≤ 3 ∧ (n43.toInt = 0 → TKI (σ.2.1 4) (σ.2.2.1 6) (σ.2.1 7) (σ.1 3) x1 ∧ LI n42 x1 (σ.1 15) n31 n36 (σ.1 29) (upd (σ.2.1 11) ((σ.1 15).toInt + (σ.1 16).toInt).toNat (14 : Int32)) (vp_updL (σ.2.2.1 12) ((σ.1 15).toInt + (σ.1 16).toInt).toNat (0 : Int64)) (σ.2.1 31) (σ.2.1 30) (σ.2.1 32) F37 F38 F35 (σ.2.1 23) (σ.2.1 24) (σ.2.1 25) F40 (σ.1 33) (σ.1 34) F41 ∧ 2 * (σ.1 14).toInt - (σ.1 19).toInt ≤ 2 * x1.toInt - n36.toInt) := by
  have q0 : (0 : Int32).toInt = 0 := by decide +kernel
  have q1 : (1 : Int32).toInt = 1 := by decide +kernel
  have q3 : (3 : Int32).toInt = 3 := by decide +kernel
  have q14 : (14 : Int32).toInt = 14 := by decide +kernel
  have q41 : (41 : Int32).toInt = 41 := by decide +kernel
  have ql0 : (0 : Int64).toInt = 0 := by decide +kernel
  have bb_hpre_0 := hpre_0.b
  have bb_hpre_4 := hpre_4.b
  have kk_hpre_0 := hpre_0.in
  rcases hr34 with ⟨f1, f2, f3⟩ | ⟨f1, f2, -⟩
  · exact ⟨Keep.rf.em (by omega), by omega, by omega, fun h => by omega⟩
  · exfalso; have := congrArg Int32.toInt f2; omega
-- nw@102 @102
theorem v_call_23 (σ : RS) (x1 : Int32) (n31 : Int32) (r30 : Int32) (F35 : (Nat → Int32)) (n36 : Int32) (F37 : (Nat → Int32)) (F38 : (Nat → Int32)) (F40 : (Nat → Int32)) (F41 : (Nat → Int32)) (n42 : Int32) (n43 : Int32) (x46 : Int32) (hpre_0 : TKI (σ.2.1 4) (σ.2.2.1 6) (σ.2.1 7) (σ.1 3) (σ.1 14)) (hpre_1 : 0 ≤ (σ.1 15).toInt) (hpre_2 : (σ.1 15).toInt ≤ 3510) (hpre_3 : (σ.1 8).toInt = 0) (hpre_4 : PQ0 1 1 (σ.1 14) (σ.1 15) (σ.1 16) (σ.1 19) (σ.1 29) (σ.2.1 11) (σ.2.2.1 12) (σ.2.1 31) (σ.2.1 30) (σ.2.1 32) (σ.2.1 21) (σ.2.1 22) (σ.2.1 20) (σ.2.1 23) (σ.2.1 24) (σ.2.1 25) (σ.2.1 27) (σ.1 33) (σ.1 34)) (hpre_5 : ((σ.2.1 4) (σ.1 14).toNatClampNeg).toInt = 5) (ex1 : x1 = (σ.1 14) + (1 : Int32)) (tx1 : x1.toInt = (σ.1 14).toInt + 1) (hr30_0 : n31.toInt = (σ.1 16).toInt + 1) (hr30_1 : r30.toInt = (σ.1 15).toInt + (σ.1 16).toInt) (hr34 : ((σ.1 19).toInt = 5 ∧ n43.toInt = 3 ∧ n36.toInt = 5) ∨ ((σ.1 19).toInt < 5 ∧ n43 = (σ.1 8) ∧ n36.toInt = (σ.1 19).toInt + 1 ∧ F35 = upd (σ.2.1 20) (σ.1 19).toInt.toNat (3 : Int32) ∧ F37 = upd (σ.2.1 21) (σ.1 19).toInt.toNat (σ.1 29) ∧ F38 = upd (σ.2.1 22) (σ.1 19).toInt.toNat (0 : Int32) ∧ F40 = upd (σ.2.1 27) (σ.1 19).toInt.toNat (1 : Int32) ∧ F41 = upd (σ.2.1 28) (σ.1 19).toInt.toNat (0 : Int32) ∧ n42.toInt = 1)) (c45 : n43.toInt = 0) (ex46 : x46 = n36 - (1 : Int32)) : x46.toInt = n36.toInt - 1 := by
  have q0 : (0 : Int32).toInt = 0 := by decide +kernel
  have q1 : (1 : Int32).toInt = 1 := by decide +kernel
  have q3 : (3 : Int32).toInt = 3 := by decide +kernel
  have bb_hpre_0 := hpre_0.b
  have bb_hpre_4 := hpre_4.b
  have kk_hpre_0 := hpre_0.in
  have w1 : (1 : Int32).toInt = 1 := by decide +kernel
  rw [ex46, z_sub (by omega) (by omega)]; first | done | omega
-- in@104 @104
theorem v_call_24 (σ : RS) (x1 : Int32) (n31 : Int32) (r30 : Int32) (F35 : (Nat → Int32)) (n36 : Int32) (F37 : (Nat → Int32)) (F38 : (Nat → Int32)) (F40 : (Nat → Int32)) (F41 : (Nat → Int32)) (n42 : Int32) (n43 : Int32) (x46 : Int32) (hpre_0 : TKI (σ.2.1 4) (σ.2.2.1 6) (σ.2.1 7) (σ.1 3) (σ.1 14)) (hpre_1 : 0 ≤ (σ.1 15).toInt) (hpre_2 : (σ.1 15).toInt ≤ 3510) (hpre_3 : (σ.1 8).toInt = 0) (hpre_4 : PQ0 1 1 (σ.1 14) (σ.1 15) (σ.1 16) (σ.1 19) (σ.1 29) (σ.2.1 11) (σ.2.2.1 12) (σ.2.1 31) (σ.2.1 30) (σ.2.1 32) (σ.2.1 21) (σ.2.1 22) (σ.2.1 20) (σ.2.1 23) (σ.2.1 24) (σ.2.1 25) (σ.2.1 27) (σ.1 33) (σ.1 34)) (hpre_5 : ((σ.2.1 4) (σ.1 14).toNatClampNeg).toInt = 5) (ex1 : x1 = (σ.1 14) + (1 : Int32)) (tx1 : x1.toInt = (σ.1 14).toInt + 1) (hr30_0 : n31.toInt = (σ.1 16).toInt + 1) (hr30_1 : r30.toInt = (σ.1 15).toInt + (σ.1 16).toInt) (hr34 : ((σ.1 19).toInt = 5 ∧ n43.toInt = 3 ∧ n36.toInt = 5) ∨ ((σ.1 19).toInt < 5 ∧ n43 = (σ.1 8) ∧ n36.toInt = (σ.1 19).toInt + 1 ∧ F35 = upd (σ.2.1 20) (σ.1 19).toInt.toNat (3 : Int32) ∧ F37 = upd (σ.2.1 21) (σ.1 19).toInt.toNat (σ.1 29) ∧ F38 = upd (σ.2.1 22) (σ.1 19).toInt.toNat (0 : Int32) ∧ F40 = upd (σ.2.1 27) (σ.1 19).toInt.toNat (1 : Int32) ∧ F41 = upd (σ.2.1 28) (σ.1 19).toInt.toNat (0 : Int32) ∧ n42.toInt = 1)) (c45 : n43.toInt = 0) (ex46 : x46 = n36 - (1 : Int32)) (tx46 : x46.toInt = n36.toInt - 1) : vp_in x46 8 := by
  have q0 : (0 : Int32).toInt = 0 := by decide +kernel
  have q1 : (1 : Int32).toInt = 1 := by decide +kernel
  have q3 : (3 : Int32).toInt = 3 := by decide +kernel
  have bb_hpre_0 := hpre_0.b
  have bb_hpre_4 := hpre_4.b
  have kk_hpre_0 := hpre_0.in
  exact vp_in_iff.mpr ⟨by omega, by omega⟩
-- nw@114 @114
theorem v_call_25 (σ : RS) (x1 : Int32) (n31 : Int32) (r30 : Int32) (F35 : (Nat → Int32)) (n36 : Int32) (F37 : (Nat → Int32)) (F38 : (Nat → Int32)) (F40 : (Nat → Int32)) (F41 : (Nat → Int32)) (n42 : Int32) (n43 : Int32) (x46 : Int32) (x47 : Int32) (hpre_0 : TKI (σ.2.1 4) (σ.2.2.1 6) (σ.2.1 7) (σ.1 3) (σ.1 14)) (hpre_1 : 0 ≤ (σ.1 15).toInt) (hpre_2 : (σ.1 15).toInt ≤ 3510) (hpre_3 : (σ.1 8).toInt = 0) (hpre_4 : PQ0 1 1 (σ.1 14) (σ.1 15) (σ.1 16) (σ.1 19) (σ.1 29) (σ.2.1 11) (σ.2.2.1 12) (σ.2.1 31) (σ.2.1 30) (σ.2.1 32) (σ.2.1 21) (σ.2.1 22) (σ.2.1 20) (σ.2.1 23) (σ.2.1 24) (σ.2.1 25) (σ.2.1 27) (σ.1 33) (σ.1 34)) (hpre_5 : ((σ.2.1 4) (σ.1 14).toNatClampNeg).toInt = 5) (ex1 : x1 = (σ.1 14) + (1 : Int32)) (tx1 : x1.toInt = (σ.1 14).toInt + 1) (hr30_0 : n31.toInt = (σ.1 16).toInt + 1) (hr30_1 : r30.toInt = (σ.1 15).toInt + (σ.1 16).toInt) (hr34 : ((σ.1 19).toInt = 5 ∧ n43.toInt = 3 ∧ n36.toInt = 5) ∨ ((σ.1 19).toInt < 5 ∧ n43 = (σ.1 8) ∧ n36.toInt = (σ.1 19).toInt + 1 ∧ F35 = upd (σ.2.1 20) (σ.1 19).toInt.toNat (3 : Int32) ∧ F37 = upd (σ.2.1 21) (σ.1 19).toInt.toNat (σ.1 29) ∧ F38 = upd (σ.2.1 22) (σ.1 19).toInt.toNat (0 : Int32) ∧ F40 = upd (σ.2.1 27) (σ.1 19).toInt.toNat (1 : Int32) ∧ F41 = upd (σ.2.1 28) (σ.1 19).toInt.toNat (0 : Int32) ∧ n42.toInt = 1)) (c45 : n43.toInt = 0) (ex46 : x46 = n36 - (1 : Int32)) (tx46 : x46.toInt = n36.toInt - 1) (ex47 : x47 = n36 - (1 : Int32)) : x47.toInt = n36.toInt - 1 := by
  have q0 : (0 : Int32).toInt = 0 := by decide +kernel
  have q1 : (1 : Int32).toInt = 1 := by decide +kernel
  have q3 : (3 : Int32).toInt = 3 := by decide +kernel
  have bb_hpre_0 := hpre_0.b
  have bb_hpre_4 := hpre_4.b
  have kk_hpre_0 := hpre_0.in
  have w1 : (1 : Int32).toInt = 1 := by decide +kernel
  rw [ex47, z_sub (by omega) (by omega)]; first | done | omega
-- in@116 @116
theorem v_call_26 (σ : RS) (x1 : Int32) (n31 : Int32) (r30 : Int32) (F35 : (Nat → Int32)) (n36 : Int32) (F37 : (Nat → Int32)) (F38 : (Nat → Int32)) (F40 : (Nat → Int32)) (F41 : (Nat → Int32)) (n42 : Int32) (n43 : Int32) (x46 : Int32) (x47 : Int32) (hpre_0 : TKI (σ.2.1 4) (σ.2.2.1 6) (σ.2.1 7) (σ.1 3) (σ.1 14)) (hpre_1 : 0 ≤ (σ.1 15).toInt) (hpre_2 : (σ.1 15).toInt ≤ 3510) (hpre_3 : (σ.1 8).toInt = 0) (hpre_4 : PQ0 1 1 (σ.1 14) (σ.1 15) (σ.1 16) (σ.1 19) (σ.1 29) (σ.2.1 11) (σ.2.2.1 12) (σ.2.1 31) (σ.2.1 30) (σ.2.1 32) (σ.2.1 21) (σ.2.1 22) (σ.2.1 20) (σ.2.1 23) (σ.2.1 24) (σ.2.1 25) (σ.2.1 27) (σ.1 33) (σ.1 34)) (hpre_5 : ((σ.2.1 4) (σ.1 14).toNatClampNeg).toInt = 5) (ex1 : x1 = (σ.1 14) + (1 : Int32)) (tx1 : x1.toInt = (σ.1 14).toInt + 1) (hr30_0 : n31.toInt = (σ.1 16).toInt + 1) (hr30_1 : r30.toInt = (σ.1 15).toInt + (σ.1 16).toInt) (hr34 : ((σ.1 19).toInt = 5 ∧ n43.toInt = 3 ∧ n36.toInt = 5) ∨ ((σ.1 19).toInt < 5 ∧ n43 = (σ.1 8) ∧ n36.toInt = (σ.1 19).toInt + 1 ∧ F35 = upd (σ.2.1 20) (σ.1 19).toInt.toNat (3 : Int32) ∧ F37 = upd (σ.2.1 21) (σ.1 19).toInt.toNat (σ.1 29) ∧ F38 = upd (σ.2.1 22) (σ.1 19).toInt.toNat (0 : Int32) ∧ F40 = upd (σ.2.1 27) (σ.1 19).toInt.toNat (1 : Int32) ∧ F41 = upd (σ.2.1 28) (σ.1 19).toInt.toNat (0 : Int32) ∧ n42.toInt = 1)) (c45 : n43.toInt = 0) (ex46 : x46 = n36 - (1 : Int32)) (tx46 : x46.toInt = n36.toInt - 1) (ex47 : x47 = n36 - (1 : Int32)) (tx47 : x47.toInt = n36.toInt - 1) : vp_in x47 8 := by
  have q0 : (0 : Int32).toInt = 0 := by decide +kernel
  have q1 : (1 : Int32).toInt = 1 := by decide +kernel
  have q3 : (3 : Int32).toInt = 3 := by decide +kernel
  have bb_hpre_0 := hpre_0.b
  have bb_hpre_4 := hpre_4.b
  have kk_hpre_0 := hpre_0.in
  exact vp_in_iff.mpr ⟨by omega, by omega⟩
-- nw@126 @126
theorem v_call_27 (σ : RS) (x1 : Int32) (n31 : Int32) (r30 : Int32) (F35 : (Nat → Int32)) (n36 : Int32) (F37 : (Nat → Int32)) (F38 : (Nat → Int32)) (F40 : (Nat → Int32)) (F41 : (Nat → Int32)) (n42 : Int32) (n43 : Int32) (x46 : Int32) (x47 : Int32) (x48 : Int32) (hpre_0 : TKI (σ.2.1 4) (σ.2.2.1 6) (σ.2.1 7) (σ.1 3) (σ.1 14)) (hpre_1 : 0 ≤ (σ.1 15).toInt) (hpre_2 : (σ.1 15).toInt ≤ 3510) (hpre_3 : (σ.1 8).toInt = 0) (hpre_4 : PQ0 1 1 (σ.1 14) (σ.1 15) (σ.1 16) (σ.1 19) (σ.1 29) (σ.2.1 11) (σ.2.2.1 12) (σ.2.1 31) (σ.2.1 30) (σ.2.1 32) (σ.2.1 21) (σ.2.1 22) (σ.2.1 20) (σ.2.1 23) (σ.2.1 24) (σ.2.1 25) (σ.2.1 27) (σ.1 33) (σ.1 34)) (hpre_5 : ((σ.2.1 4) (σ.1 14).toNatClampNeg).toInt = 5) (ex1 : x1 = (σ.1 14) + (1 : Int32)) (tx1 : x1.toInt = (σ.1 14).toInt + 1) (hr30_0 : n31.toInt = (σ.1 16).toInt + 1) (hr30_1 : r30.toInt = (σ.1 15).toInt + (σ.1 16).toInt) (hr34 : ((σ.1 19).toInt = 5 ∧ n43.toInt = 3 ∧ n36.toInt = 5) ∨ ((σ.1 19).toInt < 5 ∧ n43 = (σ.1 8) ∧ n36.toInt = (σ.1 19).toInt + 1 ∧ F35 = upd (σ.2.1 20) (σ.1 19).toInt.toNat (3 : Int32) ∧ F37 = upd (σ.2.1 21) (σ.1 19).toInt.toNat (σ.1 29) ∧ F38 = upd (σ.2.1 22) (σ.1 19).toInt.toNat (0 : Int32) ∧ F40 = upd (σ.2.1 27) (σ.1 19).toInt.toNat (1 : Int32) ∧ F41 = upd (σ.2.1 28) (σ.1 19).toInt.toNat (0 : Int32) ∧ n42.toInt = 1)) (c45 : n43.toInt = 0) (ex46 : x46 = n36 - (1 : Int32)) (tx46 : x46.toInt = n36.toInt - 1) (ex47 : x47 = n36 - (1 : Int32)) (tx47 : x47.toInt = n36.toInt - 1) (ex48 : x48 = n36 - (1 : Int32)) : x48.toInt = n36.toInt - 1 := by
  have q0 : (0 : Int32).toInt = 0 := by decide +kernel
  have q1 : (1 : Int32).toInt = 1 := by decide +kernel
  have q3 : (3 : Int32).toInt = 3 := by decide +kernel
  have bb_hpre_0 := hpre_0.b
  have bb_hpre_4 := hpre_4.b
  have kk_hpre_0 := hpre_0.in
  have w1 : (1 : Int32).toInt = 1 := by decide +kernel
  rw [ex48, z_sub (by omega) (by omega)]; first | done | omega
-- in@128 @128
theorem v_call_28 (σ : RS) (x1 : Int32) (n31 : Int32) (r30 : Int32) (F35 : (Nat → Int32)) (n36 : Int32) (F37 : (Nat → Int32)) (F38 : (Nat → Int32)) (F40 : (Nat → Int32)) (F41 : (Nat → Int32)) (n42 : Int32) (n43 : Int32) (x46 : Int32) (x47 : Int32) (x48 : Int32) (hpre_0 : TKI (σ.2.1 4) (σ.2.2.1 6) (σ.2.1 7) (σ.1 3) (σ.1 14)) (hpre_1 : 0 ≤ (σ.1 15).toInt) (hpre_2 : (σ.1 15).toInt ≤ 3510) (hpre_3 : (σ.1 8).toInt = 0) (hpre_4 : PQ0 1 1 (σ.1 14) (σ.1 15) (σ.1 16) (σ.1 19) (σ.1 29) (σ.2.1 11) (σ.2.2.1 12) (σ.2.1 31) (σ.2.1 30) (σ.2.1 32) (σ.2.1 21) (σ.2.1 22) (σ.2.1 20) (σ.2.1 23) (σ.2.1 24) (σ.2.1 25) (σ.2.1 27) (σ.1 33) (σ.1 34)) (hpre_5 : ((σ.2.1 4) (σ.1 14).toNatClampNeg).toInt = 5) (ex1 : x1 = (σ.1 14) + (1 : Int32)) (tx1 : x1.toInt = (σ.1 14).toInt + 1) (hr30_0 : n31.toInt = (σ.1 16).toInt + 1) (hr30_1 : r30.toInt = (σ.1 15).toInt + (σ.1 16).toInt) (hr34 : ((σ.1 19).toInt = 5 ∧ n43.toInt = 3 ∧ n36.toInt = 5) ∨ ((σ.1 19).toInt < 5 ∧ n43 = (σ.1 8) ∧ n36.toInt = (σ.1 19).toInt + 1 ∧ F35 = upd (σ.2.1 20) (σ.1 19).toInt.toNat (3 : Int32) ∧ F37 = upd (σ.2.1 21) (σ.1 19).toInt.toNat (σ.1 29) ∧ F38 = upd (σ.2.1 22) (σ.1 19).toInt.toNat (0 : Int32) ∧ F40 = upd (σ.2.1 27) (σ.1 19).toInt.toNat (1 : Int32) ∧ F41 = upd (σ.2.1 28) (σ.1 19).toInt.toNat (0 : Int32) ∧ n42.toInt = 1)) (c45 : n43.toInt = 0) (ex46 : x46 = n36 - (1 : Int32)) (tx46 : x46.toInt = n36.toInt - 1) (ex47 : x47 = n36 - (1 : Int32)) (tx47 : x47.toInt = n36.toInt - 1) (ex48 : x48 = n36 - (1 : Int32)) (tx48 : x48.toInt = n36.toInt - 1) : vp_in x48 8 := by
  have q0 : (0 : Int32).toInt = 0 := by decide +kernel
  have q1 : (1 : Int32).toInt = 1 := by decide +kernel
  have q3 : (3 : Int32).toInt = 3 := by decide +kernel
  have bb_hpre_0 := hpre_0.b
  have bb_hpre_4 := hpre_4.b
  have kk_hpre_0 := hpre_0.in
  exact vp_in_iff.mpr ⟨by omega, by omega⟩
-- post @129
theorem v_call_29 (σ : RS) (k0 : Int32) (x1 : Int32) (n31 : Int32) (r30 : Int32) (F35 : (Nat → Int32)) (n36 : Int32) (F37 : (Nat → Int32)) (F38 : (Nat → Int32)) (F40 : (Nat → Int32)) (F41 : (Nat → Int32)) (n42 : Int32) (n43 : Int32) (x46 : Int32) (x47 : Int32) (x48 : Int32) (hpre_0 : TKI (σ.2.1 4) (σ.2.2.1 6) (σ.2.1 7) (σ.1 3) (σ.1 14)) (hpre_1 : 0 ≤ (σ.1 15).toInt) (hpre_2 : (σ.1 15).toInt ≤ 3510) (hpre_3 : (σ.1 8).toInt = 0) (hpre_4 : PQ0 1 1 (σ.1 14) (σ.1 15) (σ.1 16) (σ.1 19) (σ.1 29) (σ.2.1 11) (σ.2.2.1 12) (σ.2.1 31) (σ.2.1 30) (σ.2.1 32) (σ.2.1 21) (σ.2.1 22) (σ.2.1 20) (σ.2.1 23) (σ.2.1 24) (σ.2.1 25) (σ.2.1 27) (σ.1 33) (σ.1 34)) (hpre_5 : ((σ.2.1 4) (σ.1 14).toNatClampNeg).toInt = 5) (hpre_6 : 0 ≤ k0.toInt) (hpre_7 : k0.toInt ≤ 14348906) (ex1 : x1 = (σ.1 14) + (1 : Int32)) (tx1 : x1.toInt = (σ.1 14).toInt + 1) (hr30_0 : n31.toInt = (σ.1 16).toInt + 1) (hr30_1 : r30.toInt = (σ.1 15).toInt + (σ.1 16).toInt) (hr32 : ¬ (((σ.2.1 4) x1.toNatClampNeg).toInt = 5 ∧ ((σ.2.2.1 6) x1.toNatClampNeg).toInt = (41 : Int32).toInt)) (hr34 : ((σ.1 19).toInt = 5 ∧ n43.toInt = 3 ∧ n36.toInt = 5) ∨ ((σ.1 19).toInt < 5 ∧ n43 = (σ.1 8) ∧ n36.toInt = (σ.1 19).toInt + 1 ∧ F35 = upd (σ.2.1 20) (σ.1 19).toInt.toNat (3 : Int32) ∧ F37 = upd (σ.2.1 21) (σ.1 19).toInt.toNat (σ.1 29) ∧ F38 = upd (σ.2.1 22) (σ.1 19).toInt.toNat (0 : Int32) ∧ F40 = upd (σ.2.1 27) (σ.1 19).toInt.toNat (1 : Int32) ∧ F41 = upd (σ.2.1 28) (σ.1 19).toInt.toNat (0 : Int32) ∧ n42.toInt = 1)) (c45 : n43.toInt = 0) (ex46 : x46 = n36 - (1 : Int32)) (tx46 : x46.toInt = n36.toInt - 1) (ex47 : x47 = n36 - (1 : Int32)) (tx47 : x47.toInt = n36.toInt - 1) (ex48 : x48 = n36 - (1 : Int32)) (tx48 : x48.toInt = n36.toInt - 1) : Keep (σ.1 15).toInt (σ.2.1 11) (upd (σ.2.1 11) ((σ.1 15).toInt + (σ.1 16).toInt).toNat (14 : Int32)) (σ.2.2.1 12) (vp_updL (σ.2.2.1 12) ((σ.1 15).toInt + (σ.1 16).toInt).toNat (0 : Int64)) ∧ 0 ≤ n43.toInt ∧ n43.toInt ≤ 3 ∧ (n43.toInt = 0 → TKI (σ.2.1 4) (σ.2.2.1 6) (σ.2.1 7) (σ.1 3) x1 ∧ LI n42 x1 (σ.1 15) n31 n36 (σ.1 29) (upd (σ.2.1 11) ((σ.1 15).toInt + (σ.1 16).toInt).toNat (14 : Int32)) (vp_updL (σ.2.2.1 12) ((σ.1 15).toInt + (σ.1 16).toInt).toNat (0 : Int64)) (σ.2.1 31) (σ.2.1 30) (σ.2.1 32) F37 F38 F35 (upd (σ.2.1 23) x46.toNatClampNeg r30) (upd (σ.2.1 24) x47.toNatClampNeg k0) (upd (σ.2.1 25) x48.toNatClampNeg (1 : Int32)) F40 (σ.1 33) (σ.1 34) F41 ∧ 2 * (σ.1 14).toInt - (σ.1 19).toInt ≤ 2 * x1.toInt - n36.toInt) := by
  have q0 : (0 : Int32).toInt = 0 := by decide +kernel
  have q1 : (1 : Int32).toInt = 1 := by decide +kernel
  have q3 : (3 : Int32).toInt = 3 := by decide +kernel
  have q14 : (14 : Int32).toInt = 14 := by decide +kernel
  have q41 : (41 : Int32).toInt = 41 := by decide +kernel
  have ql0 : (0 : Int64).toInt = 0 := by decide +kernel
  have bb_hpre_0 := hpre_0.b
  have bb_hpre_4 := hpre_4.b
  have kk_hpre_0 := hpre_0.in
  have k := hpre_0.in (by omega)
  rcases hr34 with ⟨f1, f2, f3⟩ | ⟨f1, f2, f3, f4, f5, f6, f7, f8, f9⟩
  · exact ⟨Keep.rf.em (by omega), by omega, by omega, fun h => by omega⟩
  · have f2 := congrArg Int32.toInt f2
    subst f4 f5 f6 f7 f8
    refine ⟨Keep.rf.em (by omega), by omega, by omega, fun _ => ⟨hpre_0.up (by omega) (by omega), Or.inl ⟨f9, PQ_jopen hpre_4 (by omega) hpre_2 (by omega) (by omega) (by omega) (by omega) (by omega) (by omega) (by omega) rfl rfl (by rw [clampN]; omega) (by rw [clampN]; omega) (by rw [clampN]; omega) rfl rfl (by omega) (by omega) (by omega)⟩, by omega⟩⟩
-- nw@42 @42
theorem v_call_30 (σ : RS) (x1 : Int32) (n31 : Int32) (r30 : Int32) (x49 : Int32) (hpre_0 : TKI (σ.2.1 4) (σ.2.2.1 6) (σ.2.1 7) (σ.1 3) (σ.1 14)) (hpre_1 : 0 ≤ (σ.1 15).toInt) (hpre_2 : (σ.1 15).toInt ≤ 3510) (hpre_4 : PQ0 1 1 (σ.1 14) (σ.1 15) (σ.1 16) (σ.1 19) (σ.1 29) (σ.2.1 11) (σ.2.2.1 12) (σ.2.1 31) (σ.2.1 30) (σ.2.1 32) (σ.2.1 21) (σ.2.1 22) (σ.2.1 20) (σ.2.1 23) (σ.2.1 24) (σ.2.1 25) (σ.2.1 27) (σ.1 33) (σ.1 34)) (hpre_5 : ((σ.2.1 4) (σ.1 14).toNatClampNeg).toInt = 5) (ex1 : x1 = (σ.1 14) + (1 : Int32)) (tx1 : x1.toInt = (σ.1 14).toInt + 1) (hr30_0 : n31.toInt = (σ.1 16).toInt + 1) (hr30_1 : r30.toInt = (σ.1 15).toInt + (σ.1 16).toInt) (hr32_0 : ((σ.2.1 4) x1.toNatClampNeg).toInt = 5) (hr32_1 : ((σ.2.2.1 6) x1.toNatClampNeg).toInt = (41 : Int32).toInt) (ex49 : x49 = x1 + (1 : Int32)) : x49.toInt = x1.toInt + 1 := by
  have q1 : (1 : Int32).toInt = 1 := by decide +kernel
  have q41 : (41 : Int32).toInt = 41 := by decide +kernel
  have bb_hpre_0 := hpre_0.b
  have bb_hpre_4 := hpre_4.b
  have kk_hpre_0 := hpre_0.in
  have w1 : (1 : Int32).toInt = 1 := by decide +kernel
  rw [ex49, z_add (by omega) (by omega)]; first | done | omega
-- nw@54 @54
theorem v_call_31 (k0 : Int32) (x50 : Int64) (x51 : Int64) (hpre_6 : 0 ≤ k0.toInt) (hpre_7 : k0.toInt ≤ 14348906) (ex50 : x50 = Int32.toInt64 k0) (tx50 : x50.toInt = k0.toInt) (ex51 : x51 = (4 : Int64) * x50) : x51.toInt = 4 * x50.toInt := by
  have ql4 : (4 : Int64).toInt = 4 := by decide +kernel
  have w0 : (4 : Int64).toInt = 4 := by decide +kernel
  rw [ex51, zl_mulc 4 w0 (by omega) (by omega)]
-- pre:emit@55 @55
theorem v_call_32 (σ : RS) (x1 : Int32) (n31 : Int32) (r30 : Int32) (x49 : Int32) (hpre_0 : TKI (σ.2.1 4) (σ.2.2.1 6) (σ.2.1 7) (σ.1 3) (σ.1 14)) (hpre_1 : 0 ≤ (σ.1 15).toInt) (hpre_2 : (σ.1 15).toInt ≤ 3510) (hpre_4 : PQ0 1 1 (σ.1 14) (σ.1 15) (σ.1 16) (σ.1 19) (σ.1 29) (σ.2.1 11) (σ.2.2.1 12) (σ.2.1 31) (σ.2.1 30) (σ.2.1 32) (σ.2.1 21) (σ.2.1 22) (σ.2.1 20) (σ.2.1 23) (σ.2.1 24) (σ.2.1 25) (σ.2.1 27) (σ.1 33) (σ.1 34)) (hpre_5 : ((σ.2.1 4) (σ.1 14).toNatClampNeg).toInt = 5) (ex1 : x1 = (σ.1 14) + (1 : Int32)) (tx1 : x1.toInt = (σ.1 14).toInt + 1) (hr30_0 : n31.toInt = (σ.1 16).toInt + 1) (hr30_1 : r30.toInt = (σ.1 15).toInt + (σ.1 16).toInt) (hr32_0 : ((σ.2.1 4) x1.toNatClampNeg).toInt = 5) (hr32_1 : ((σ.2.2.1 6) x1.toNatClampNeg).toInt = (41 : Int32).toInt) (ex49 : x49 = x1 + (1 : Int32)) (tx49 : x49.toInt = x1.toInt + 1) : 0 ≤ (σ.1 15).toInt ∧ 0 ≤ n31.toInt ∧ (σ.1 15).toInt + n31.toInt < 3600 := by
  have q1 : (1 : Int32).toInt = 1 := by decide +kernel
  have q41 : (41 : Int32).toInt = 41 := by decide +kernel
  have bb_hpre_0 := hpre_0.b
  have bb_hpre_4 := hpre_4.b
  have kk_hpre_0 := hpre_0.in
  refine ⟨?_, ?_, ?_⟩ <;> first | assumption | omega | (subst_vars; omega) | trivial
-- nw@72 @72
theorem v_call_33 (σ : RS) (x1 : Int32) (n31 : Int32) (r30 : Int32) (x49 : Int32) (n53 : Int32) (r52 : Int32) (x54 : Int32) (hpre_0 : TKI (σ.2.1 4) (σ.2.2.1 6) (σ.2.1 7) (σ.1 3) (σ.1 14)) (hpre_1 : 0 ≤ (σ.1 15).toInt) (hpre_2 : (σ.1 15).toInt ≤ 3510) (hpre_4 : PQ0 1 1 (σ.1 14) (σ.1 15) (σ.1 16) (σ.1 19) (σ.1 29) (σ.2.1 11) (σ.2.2.1 12) (σ.2.1 31) (σ.2.1 30) (σ.2.1 32) (σ.2.1 21) (σ.2.1 22) (σ.2.1 20) (σ.2.1 23) (σ.2.1 24) (σ.2.1 25) (σ.2.1 27) (σ.1 33) (σ.1 34)) (hpre_5 : ((σ.2.1 4) (σ.1 14).toNatClampNeg).toInt = 5) (ex1 : x1 = (σ.1 14) + (1 : Int32)) (tx1 : x1.toInt = (σ.1 14).toInt + 1) (hr30_0 : n31.toInt = (σ.1 16).toInt + 1) (hr30_1 : r30.toInt = (σ.1 15).toInt + (σ.1 16).toInt) (hr32_0 : ((σ.2.1 4) x1.toNatClampNeg).toInt = 5) (hr32_1 : ((σ.2.2.1 6) x1.toNatClampNeg).toInt = (41 : Int32).toInt) (ex49 : x49 = x1 + (1 : Int32)) (tx49 : x49.toInt = x1.toInt + 1) (hr52_0 : n53.toInt = n31.toInt + 1) (hr52_1 : r52.toInt = (σ.1 15).toInt + n31.toInt) (ex54 : x54 = (σ.1 15) + n53) : x54.toInt = (σ.1 15).toInt + n53.toInt := by
  have q1 : (1 : Int32).toInt = 1 := by decide +kernel
  have q41 : (41 : Int32).toInt = 41 := by decide +kernel
  have bb_hpre_0 := hpre_0.b
  have bb_hpre_4 := hpre_4.b
  have kk_hpre_0 := hpre_0.in
  rw [ex54, z_add (by omega) (by omega)]; first | done | omega
-- in@74 @74
theorem v_call_34 (σ : RS) (k0 : Int32) (x1 : Int32) (n31 : Int32) (r30 : Int32) (x49 : Int32) (x50 : Int64) (x51 : Int64) (n53 : Int32) (r52 : Int32) (x54 : Int32) (x55 : Int64) (hpre_0 : TKI (σ.2.1 4) (σ.2.2.1 6) (σ.2.1 7) (σ.1 3) (σ.1 14)) (hpre_1 : 0 ≤ (σ.1 15).toInt) (hpre_2 : (σ.1 15).toInt ≤ 3510) (hpre_4 : PQ0 1 1 (σ.1 14) (σ.1 15) (σ.1 16) (σ.1 19) (σ.1 29) (σ.2.1 11) (σ.2.2.1 12) (σ.2.1 31) (σ.2.1 30) (σ.2.1 32) (σ.2.1 21) (σ.2.1 22) (σ.2.1 20) (σ.2.1 23) (σ.2.1 24) (σ.2.1 25) (σ.2.1 27) (σ.1 33) (σ.1 34)) (hpre_5 : ((σ.2.1 4) (σ.1 14).toNatClampNeg).toInt = 5) (hpre_6 : 0 ≤ k0.toInt) (hpre_7 : k0.toInt ≤ 14348906) (ex1 : x1 = (σ.1 14) + (1 : Int32)) (tx1 : x1.toInt = (σ.1 14).toInt + 1) (hr30_0 : n31.toInt = (σ.1 16).toInt + 1) (hr30_1 : r30.toInt = (σ.1 15).toInt + (σ.1 16).toInt) (hr32_0 : ((σ.2.1 4) x1.toNatClampNeg).toInt = 5) (hr32_1 : ((σ.2.2.1 6) x1.toNatClampNeg).toInt = (41 : Int32).toInt) (ex49 : x49 = x1 + (1 : Int32)) (tx49 : x49.toInt = x1.toInt + 1) (ex50 : x50 = Int32.toInt64 k0) (tx50 : x50.toInt = k0.toInt) (ex51 : x51 = (4 : Int64) * x50) (tx51 : x51.toInt = 4 * x50.toInt) (hr52_0 : n53.toInt = n31.toInt + 1) (hr52_1 : r52.toInt = (σ.1 15).toInt + n31.toInt) (ex54 : x54 = (σ.1 15) + n53) (tx54 : x54.toInt = (σ.1 15).toInt + n53.toInt) (ex55 : x55 = Int32.toInt64 x54) (tx55 : x55.toInt = x54.toInt) : vp_in r30 3600 := by
  have q1 : (1 : Int32).toInt = 1 := by decide +kernel
  have q41 : (41 : Int32).toInt = 41 := by decide +kernel
  have ql4 : (4 : Int64).toInt = 4 := by decide +kernel
  have bb_hpre_0 := hpre_0.b
  have bb_hpre_4 := hpre_4.b
  have kk_hpre_0 := hpre_0.in
  exact vp_in_iff.mpr ⟨by omega, by omega⟩
-- pre:ready@77 @77
theorem v_call_35 (σ : RS) (k0 : Int32) (x1 : Int32) (n31 : Int32) (r30 : Int32) (x49 : Int32) (x50 : Int64) (x51 : Int64) (n53 : Int32) (r52 : Int32) (x54 : Int32) (x55 : Int64) (hpre_0 : TKI (σ.2.1 4) (σ.2.2.1 6) (σ.2.1 7) (σ.1 3) (σ.1 14)) (hpre_1 : 0 ≤ (σ.1 15).toInt) (hpre_2 : (σ.1 15).toInt ≤ 3510) (hpre_4 : PQ0 1 1 (σ.1 14) (σ.1 15) (σ.1 16) (σ.1 19) (σ.1 29) (σ.2.1 11) (σ.2.2.1 12) (σ.2.1 31) (σ.2.1 30) (σ.2.1 32) (σ.2.1 21) (σ.2.1 22) (σ.2.1 20) (σ.2.1 23) (σ.2.1 24) (σ.2.1 25) (σ.2.1 27) (σ.1 33) (σ.1 34)) (hpre_5 : ((σ.2.1 4) (σ.1 14).toNatClampNeg).toInt = 5) (hpre_6 : 0 ≤ k0.toInt) (hpre_7 : k0.toInt ≤ 14348906) (ex1 : x1 = (σ.1 14) + (1 : Int32)) (tx1 : x1.toInt = (σ.1 14).toInt + 1) (hr30_0 : n31.toInt = (σ.1 16).toInt + 1) (hr30_1 : r30.toInt = (σ.1 15).toInt + (σ.1 16).toInt) (hr32_0 : ((σ.2.1 4) x1.toNatClampNeg).toInt = 5) (hr32_1 : ((σ.2.2.1 6) x1.toNatClampNeg).toInt = (41 : Int32).toInt) (ex49 : x49 = x1 + (1 : Int32)) (tx49 : x49.toInt = x1.toInt + 1) (ex50 : x50 = Int32.toInt64 k0) (tx50 : x50.toInt = k0.toInt) (ex51 : x51 = (4 : Int64) * x50) (tx51 : x51.toInt = 4 * x50.toInt) (hr52_0 : n53.toInt = n31.toInt + 1) (hr52_1 : r52.toInt = (σ.1 15).toInt + n31.toInt) (ex54 : x54 = (σ.1 15) + n53) (tx54 : x54.toInt = (σ.1 15).toInt + n53.toInt) (ex55 : x55 = Int32.toInt64 x54) (tx55 : x55.toInt = x54.toInt) : 1 ≤ (σ.1 19).toInt ∧ (σ.1 19).toInt ≤ 8 ∧ ((0 : Int32) = 0 ∨ (0 : Int32) = 1) := by
  have q0 : (0 : Int32).toInt = 0 := by decide +kernel
  have q1 : (1 : Int32).toInt = 1 := by decide +kernel
  have q41 : (41 : Int32).toInt = 41 := by decide +kernel
  have ql4 : (4 : Int64).toInt = 4 := by decide +kernel
  have bb_hpre_0 := hpre_0.b
  have bb_hpre_4 := hpre_4.b
  have kk_hpre_0 := hpre_0.in
  refine ⟨?_, ?_, ?_⟩ <;> first | assumption | omega | (subst_vars; omega) | trivial
-- post @80
theorem v_call_36 (σ : RS) (k0 : Int32) (x1 : Int32) (n31 : Int32) (r30 : Int32) (x49 : Int32) (x50 : Int64) (x51 : Int64) (n53 : Int32) (r52 : Int32) (x54 : Int32) (x55 : Int64) (hpre_0 : TKI (σ.2.1 4) (σ.2.2.1 6) (σ.2.1 7) (σ.1 3) (σ.1 14)) (hpre_1 : 0 ≤ (σ.1 15).toInt) (hpre_2 : (σ.1 15).toInt ≤ 3510) (hpre_3 : (σ.1 8).toInt = 0) (hpre_4 : PQ0 1 1 (σ.1 14) (σ.1 15) (σ.1 16) (σ.1 19) (σ.1 29) (σ.2.1 11) (σ.2.2.1 12) (σ.2.1 31) (σ.2.1 30) (σ.2.1 32) (σ.2.1 21) (σ.2.1 22) (σ.2.1 20) (σ.2.1 23) (σ.2.1 24) (σ.2.1 25) (σ.2.1 27) (σ.1 33) (σ.1 34)) (hpre_5 : ((σ.2.1 4) (σ.1 14).toNatClampNeg).toInt = 5) (hpre_6 : 0 ≤ k0.toInt) (hpre_7 : k0.toInt ≤ 14348906) (ex1 : x1 = (σ.1 14) + (1 : Int32)) (tx1 : x1.toInt = (σ.1 14).toInt + 1) (hr30_0 : n31.toInt = (σ.1 16).toInt + 1) (hr30_1 : r30.toInt = (σ.1 15).toInt + (σ.1 16).toInt) (hr32_0 : ((σ.2.1 4) x1.toNatClampNeg).toInt = 5) (hr32_1 : ((σ.2.2.1 6) x1.toNatClampNeg).toInt = (41 : Int32).toInt) (ex49 : x49 = x1 + (1 : Int32)) (tx49 : x49.toInt = x1.toInt + 1) (ex50 : x50 = Int32.toInt64 k0) (tx50 : x50.toInt = k0.toInt) (ex51 : x51 = (4 : Int64) * x50) (tx51 : x51.toInt = 4 * x50.toInt) (hr52_0 : n53.toInt = n31.toInt + 1) (hr52_1 : r52.toInt = (σ.1 15).toInt + n31.toInt) (ex54 : x54 = (σ.1 15) + n53) (tx54 : x54.toInt = (σ.1 15).toInt + n53.toInt) (ex55 : x55 = Int32.toInt64 x54) (tx55 : x55.toInt = x54.toInt) : Keep (σ.1 15).toInt (σ.2.1 11) (upd (upd (σ.2.1 11) ((σ.1 15).toInt + (σ.1 16).toInt).toNat (14 : Int32)) ((σ.1 15).toInt + n31.toInt).toNat (15 : Int32)) (σ.2.2.1 12) (vp_updL (vp_updL (vp_updL (σ.2.2.1 12) ((σ.1 15).toInt + (σ.1 16).toInt).toNat (0 : Int64)) ((σ.1 15).toInt + n31.toInt).toNat x51) r30.toNatClampNeg x55) ∧ 0 ≤ (σ.1 8).toInt ∧ (σ.1 8).toInt ≤ 3 ∧ ((σ.1 8).toInt = 0 → TKI (σ.2.1 4) (σ.2.2.1 6) (σ.2.1 7) (σ.1 3) x49 ∧ LI (0 : Int32) x49 (σ.1 15) n53 (σ.1 19) (σ.1 29) (upd (upd (σ.2.1 11) ((σ.1 15).toInt + (σ.1 16).toInt).toNat (14 : Int32)) ((σ.1 15).toInt + n31.toInt).toNat (15 : Int32)) (vp_updL (vp_updL (vp_updL (σ.2.2.1 12) ((σ.1 15).toInt + (σ.1 16).toInt).toNat (0 : Int64)) ((σ.1 15).toInt + n31.toInt).toNat x51) r30.toNatClampNeg x55) (σ.2.1 31) (σ.2.1 30) (σ.2.1 32) (σ.2.1 21) (σ.2.1 22) (σ.2.1 20) (σ.2.1 23) (σ.2.1 24) (σ.2.1 25) (σ.2.1 27) (σ.1 33) (σ.1 34) (upd (σ.2.1 28) ((σ.1 19).toInt - 1).toNat (0 : Int32)) ∧ 2 * (σ.1 14).toInt - (σ.1 19).toInt ≤ 2 * x49.toInt - (σ.1 19).toInt) := by
  have q0 : (0 : Int32).toInt = 0 := by decide +kernel
  have q1 : (1 : Int32).toInt = 1 := by decide +kernel
  have q14 : (14 : Int32).toInt = 14 := by decide +kernel
  have q15 : (15 : Int32).toInt = 15 := by decide +kernel
  have q41 : (41 : Int32).toInt = 41 := by decide +kernel
  have ql0 : (0 : Int64).toInt = 0 := by decide +kernel
  have ql4 : (4 : Int64).toInt = 4 := by decide +kernel
  have bb_hpre_0 := hpre_0.b
  have bb_hpre_4 := hpre_4.b
  have kk_hpre_0 := hpre_0.in
  have k := hpre_0.in (by omega)
  have k2 := (hpre_0.up (nx' := x1) (by omega) (by omega)).in (by omega)
  exact ⟨((Keep.rf.em (by omega)).em (by omega)).pa (by rw [clampN]; omega), by omega, by omega, fun _ => ⟨hpre_0.up (by omega) (by omega), Or.inr ⟨q0, PQ_call0 hpre_4 hpre_2 (by omega) (by omega) (by omega) (by rw [clampN]; omega) (by omega) (by omega) (by omega) (by omega) (by omega) (by omega) (fun hc => by rw [upd_at (by omega)]; exact q0)⟩, by omega⟩⟩
set_option maxHeartbeats 4000000 in
set_option maxRecDepth 100000 in
theorem M_call (l : Launch) (D : va_G) (cy : Nat → ClassId) (sz0 : Nat) (sa : Nat → Nat) (ad : Nat → Nat) (σ : RS) (sz : Nat) (k0 : Int32) (k1 : Int32) (hpre : TKI (σ.2.1 4) (σ.2.2.1 6) (σ.2.1 7) (σ.1 3) (σ.1 14) ∧ 0 ≤ (σ.1 15).toInt ∧ (σ.1 15).toInt ≤ 3510 ∧ (σ.1 8).toInt = 0 ∧ PQ0 1 1 (σ.1 14) (σ.1 15) (σ.1 16) (σ.1 19) (σ.1 29) (σ.2.1 11) (σ.2.2.1 12) (σ.2.1 31) (σ.2.1 30) (σ.2.1 32) (σ.2.1 21) (σ.2.1 22) (σ.2.1 20) (σ.2.1 23) (σ.2.1 24) (σ.2.1 25) (σ.2.1 27) (σ.1 33) (σ.1 34) ∧ ((σ.2.1 4) (σ.1 14).toNatClampNeg).toInt = 5 ∧ 0 ≤ k0.toInt ∧ k0.toInt ≤ 14348906 ∧ (k1 = 0 ∨ k1 = 1)) : Met l yX12_call (Cond.code yX12_call cX12_call 4 none :: GWm) ({ frames := 2, cells := 0, slots := 0, locals := 43 }) (PcR D cy sz0 sa ad [.ref (ad 0), .int k0, .int k1] σ sz) (va_Qv (fun (u : Int32 × (Nat → Int32) × (Nat → Int64) × Int32 × Int32 × Int32 × (Nat → Int32) × (Nat → Int32) × (Nat → Int32) × (Nat → Int32) × (Nat → Int32) × (Nat → Int32) × (Nat → Int32) × (Nat → Int32) × (Nat → Int32) × (Nat → Int32) × (Nat → Int32) × (Nat → Int32) × Int32 × Int32 × Int32 × Int32 × Int32) => Keep (σ.1 15).toInt (σ.2.1 11) u.2.1 (σ.2.2.1 12) u.2.2.1 ∧ 0 ≤ u.2.2.2.2.2.2.2.2.2.2.2.2.2.2.2.2.2.2.2.2.2.1.toInt ∧ u.2.2.2.2.2.2.2.2.2.2.2.2.2.2.2.2.2.2.2.2.2.1.toInt ≤ 3 ∧ (u.2.2.2.2.2.2.2.2.2.2.2.2.2.2.2.2.2.2.2.2.2.1.toInt = 0 → TKI (σ.2.1 4) (σ.2.2.1 6) (σ.2.1 7) (σ.1 3) u.1 ∧ LI u.2.2.2.2.2.2.2.2.2.2.2.2.2.2.2.2.2.2.1 u.1 (σ.1 15) u.2.2.2.1 u.2.2.2.2.1 u.2.2.2.2.2.1 u.2.1 u.2.2.1 u.2.2.2.2.2.2.1 u.2.2.2.2.2.2.2.1 u.2.2.2.2.2.2.2.2.1 u.2.2.2.2.2.2.2.2.2.1 u.2.2.2.2.2.2.2.2.2.2.1 u.2.2.2.2.2.2.2.2.2.2.2.1 u.2.2.2.2.2.2.2.2.2.2.2.2.1 u.2.2.2.2.2.2.2.2.2.2.2.2.2.1 u.2.2.2.2.2.2.2.2.2.2.2.2.2.2.1 u.2.2.2.2.2.2.2.2.2.2.2.2.2.2.2.2.1 u.2.2.2.2.2.2.2.2.2.2.2.2.2.2.2.2.2.2.2.1 u.2.2.2.2.2.2.2.2.2.2.2.2.2.2.2.2.2.2.2.2.1 u.2.2.2.2.2.2.2.2.2.2.2.2.2.2.2.2.2.1 ∧ 2 * (σ.1 14).toInt - (σ.1 19).toInt ≤ 2 * u.1.toInt - u.2.2.2.2.1.toInt)) (fun (u : Int32 × (Nat → Int32) × (Nat → Int64) × Int32 × Int32 × Int32 × (Nat → Int32) × (Nat → Int32) × (Nat → Int32) × (Nat → Int32) × (Nat → Int32) × (Nat → Int32) × (Nat → Int32) × (Nat → Int32) × (Nat → Int32) × (Nat → Int32) × (Nat → Int32) × (Nat → Int32) × Int32 × Int32 × Int32 × Int32 × Int32) (t : State) => RP D cy ad (rS (rS (rS (rS (rS (rA (rA (rA (rA (rA (rA (rA (rA (rA (rA (rA (rA (rS (rS (rS (rJ (rA (rS σ 14 u.1) 11 u.2.1) 12 u.2.2.1) 16 u.2.2.2.1) 19 u.2.2.2.2.1) 29 u.2.2.2.2.2.1) 31 u.2.2.2.2.2.2.1) 30 u.2.2.2.2.2.2.2.1) 32 u.2.2.2.2.2.2.2.2.1) 21 u.2.2.2.2.2.2.2.2.2.1) 22 u.2.2.2.2.2.2.2.2.2.2.1) 20 u.2.2.2.2.2.2.2.2.2.2.2.1) 23 u.2.2.2.2.2.2.2.2.2.2.2.2.1) 24 u.2.2.2.2.2.2.2.2.2.2.2.2.2.1) 25 u.2.2.2.2.2.2.2.2.2.2.2.2.2.2.1) 26 u.2.2.2.2.2.2.2.2.2.2.2.2.2.2.2.1) 27 u.2.2.2.2.2.2.2.2.2.2.2.2.2.2.2.2.1) 28 u.2.2.2.2.2.2.2.2.2.2.2.2.2.2.2.2.2.1) 17 u.2.2.2.2.2.2.2.2.2.2.2.2.2.2.2.2.2.2.1) 33 u.2.2.2.2.2.2.2.2.2.2.2.2.2.2.2.2.2.2.2.1) 34 u.2.2.2.2.2.2.2.2.2.2.2.2.2.2.2.2.2.2.2.2.1) 8 u.2.2.2.2.2.2.2.2.2.2.2.2.2.2.2.2.2.2.2.2.2.1) 9 u.2.2.2.2.2.2.2.2.2.2.2.2.2.2.2.2.2.2.2.2.2.2) t.heap) (AR cy ad sz)) 0 0 (AR cy ad sz) := by
  refine RM_of (loc0 := [(0, .ref (ad 0)), (1, .int k0), (2, .int k1)]) (by decide) rfl rfl (Nat.le_of_ble_eq_true rfl) ?_
  intro p e s m below meth c ls hsz C hP hS hl
  have hx := C.1
  have hb := C.2.1
  have hown := C.2.2.2.2.1
  have hw := C.2.2.2.2.2.1
  clear hsz
  obtain ⟨hpre_0, hpre_1, hpre_2, hpre_3, hpre_4, hpre_5, hpre_6, hpre_7, hpre_8⟩ := hpre
  refine lv_aload_n hx hb dX12_call_0 rfl (lv_at hl 0 rfl) ?_
  refine lv_dup hx hb dX12_call_1 rfl ?_
  refine rg_14 (v := (σ.1 14)) C hP rfl wm_62 dX12_call_2 ?_
  refine lv_iconst (v := 1) hx hb dX12_call_5 (by decide +kernel) ?_
  refine lv_iadd hx hb dX12_call_6 ?_
  refine lv_topi (fun x1 ex1 => ?_)
  have tx1 : x1.toInt = (σ.1 14).toInt + 1 := (v_call_1 σ x1 hpre_0 hpre_1 hpre_2 hpre_4 hpre_5 ex1)
  refine rp_14 C hP hS wm_62 dX12_call_7 (fun H locs hP hS => ?_)
  refine lv_aload_n hx hb dX12_call_10 rfl (lv_at hl 0 rfl) ?_
  refine lv_iload_n hx hb dX12_call_11 rfl (lv_at hl 2 rfl) ?_
  refine lv_if_eq (tgt := 20) hx hb dX12_call_12 (by decide) (fun c2 => ?_) (fun c2 => ?_)
  · have c2 : k1.toInt = 0 := by have h := z_eq c2; rw [show (0 : Int32).toInt = 0 from by decide +kernel] at h; exact h
    refine lv_bipush (v := 13) hx hb dX12_call_20 (by decide +kernel) ?_
    refine lv_lconst (v := 0) hx hb dX12_call_22 rfl ?_
    refine r_callVi (As := [.int 13, .long 0]) (rest := []) C hP hS hl.1 ⟨Nat.zero_le _, Nat.zero_le _⟩ (M_emit l D cy sz0 sa ad (rS σ 14 x1) H.size (13 : Int32) (0 : Int64) (v_call_2 σ x1 hpre_0 hpre_1 hpre_2 hpre_4 hpre_5 ex1 tx1)) (n := 2) ⟨wm_89, wm_64, by decide +kernel⟩ ⟨wm_90, wm_91, wm_10⟩ rfl rfl (lv_room (Nat.le_of_ble_eq_true rfl)) ⟨Nat.le_of_ble_eq_true rfl, Nat.le_of_ble_eq_true rfl⟩ dX12_call_23 (fun r3 u H locs hr3 hP hS => ?_)
    obtain ⟨n4, rfl⟩ : ∃ z, z = u := ⟨_, rfl⟩
    have hr3 : n4.toInt = (σ.1 16).toInt + 1 ∧ r3.toInt = (σ.1 15).toInt + (σ.1 16).toInt := hr3
    obtain ⟨hr3_0, hr3_1⟩ := hr3
    have hP : RP D cy ad (rS (rJ (rA (rS σ 14 x1) 11 (upd (σ.2.1 11) ((σ.1 15).toInt + (σ.1 16).toInt).toNat (13 : Int32))) 12 (vp_updL (σ.2.2.1 12) ((σ.1 15).toInt + (σ.1 16).toInt).toNat (0 : Int64))) 16 n4) H := hP
    refine lv_istore_n (lv' := [(3, .int r3), (0, .ref (ad 0)), (1, .int k0), (2, .int k1)]) hx hb dX12_call_26 rfl hl (by decide) rfl (fun ls hl => ?_)
    refine lv_aload_n hx hb dX12_call_27 rfl (lv_at hl 1 rfl) ?_
    refine lv_bipush (v := 41) hx hb dX12_call_28 (by decide +kernel) ?_
    refine r_callVi (As := [.int 41]) (rest := []) C hP hS hl.1 ⟨Nat.zero_le _, Nat.zero_le _⟩ (M_isSign l D cy sz0 sa ad (rS (rJ (rA (rS σ 14 x1) 11 (upd (σ.2.1 11) ((σ.1 15).toInt + (σ.1 16).toInt).toNat (13 : Int32))) 12 (vp_updL (σ.2.2.1 12) ((σ.1 15).toInt + (σ.1 16).toInt).toNat (0 : Int64))) 16 n4) H.size (41 : Int32) (v_call_3 σ x1 n4 r3 hpre_0 hpre_1 hpre_2 hpre_4 hpre_5 ex1 tx1 hr3_0 hr3_1)) (n := 1) ⟨wm_92, wm_61, by decide +kernel⟩ ⟨wm_93, wm_94, wm_10⟩ rfl rfl (lv_room (Nat.le_of_ble_eq_true rfl)) ⟨Nat.le_of_ble_eq_true rfl, Nat.le_of_ble_eq_true rfl⟩ dX12_call_30 (fun r5 u H locs hr5 hP hS => ?_)
    have hr5 : (r5.toInt = 0 ∧ ¬ (((σ.2.1 4) x1.toNatClampNeg).toInt = 5 ∧ ((σ.2.2.1 6) x1.toNatClampNeg).toInt = (41 : Int32).toInt)) ∨ (r5.toInt = 1 ∧ (((σ.2.1 4) x1.toNatClampNeg).toInt = 5 ∧ ((σ.2.2.1 6) x1.toNatClampNeg).toInt = (41 : Int32).toInt)) := hr5
    refine lv_if_eq (tgt := 81) hx hb dX12_call_33 (by decide) (fun c6 => ?_) (fun c6 => ?_)
    · have c6 : r5.toInt = 0 := by have h := z_eq c6; rw [show (0 : Int32).toInt = 0 from by decide +kernel] at h; exact h
      have hr5 : ¬ (((σ.2.1 4) x1.toNatClampNeg).toInt = 5 ∧ ((σ.2.2.1 6) x1.toNatClampNeg).toInt = (41 : Int32).toInt) := bq_f hr5 c6
      refine lv_aload_n hx hb dX12_call_81 rfl (lv_at hl 1 rfl) ?_
      refine lv_iconst (v := 3) hx hb dX12_call_82 (by decide +kernel) ?_
      refine r_callVv (As := [.int 3]) (rest := []) C hP hS hl.1 ⟨Nat.zero_le _, Nat.zero_le _⟩ (M_open l D cy sz0 sa ad (rS (rJ (rA (rS σ 14 x1) 11 (upd (σ.2.1 11) ((σ.1 15).toInt + (σ.1 16).toInt).toNat (13 : Int32))) 12 (vp_updL (σ.2.2.1 12) ((σ.1 15).toInt + (σ.1 16).toInt).toNat (0 : Int64))) 16 n4) H.size (3 : Int32) (v_call_4 σ x1 n4 r3 hpre_0 hpre_1 hpre_2 hpre_3 hpre_4 hpre_5 ex1 tx1 hr3_0 hr3_1 hr5)) (n := 1) ⟨wm_98, wm_69, by decide +kernel⟩ ⟨wm_99, wm_100, wm_10⟩ rfl rfl (lv_room (Nat.le_of_ble_eq_true rfl)) ⟨Nat.le_of_ble_eq_true rfl, Nat.le_of_ble_eq_true rfl⟩ dX12_call_83 (fun u H locs hr7 hP hS => ?_)
      obtain ⟨F8, n9, F10, F11, F12, F13, F14, n15, n16, n17⟩ := u
      have hr7 : ((σ.1 19).toInt = 5 ∧ n16.toInt = 3 ∧ n9.toInt = 5) ∨ ((σ.1 19).toInt < 5 ∧ n16 = (σ.1 8) ∧ n9.toInt = (σ.1 19).toInt + 1 ∧ F8 = upd (σ.2.1 20) (σ.1 19).toInt.toNat (3 : Int32) ∧ F10 = upd (σ.2.1 21) (σ.1 19).toInt.toNat (σ.1 29) ∧ F11 = upd (σ.2.1 22) (σ.1 19).toInt.toNat (0 : Int32) ∧ F13 = upd (σ.2.1 27) (σ.1 19).toInt.toNat (1 : Int32) ∧ F14 = upd (σ.2.1 28) (σ.1 19).toInt.toNat (0 : Int32) ∧ n15.toInt = 1) := hr7
      have hP : RP D cy ad (rS (rS (rS (rA (rA (rA (rA (rA (rS (rA (rS (rJ (rA (rS σ 14 x1) 11 (upd (σ.2.1 11) ((σ.1 15).toInt + (σ.1 16).toInt).toNat (13 : Int32))) 12 (vp_updL (σ.2.2.1 12) ((σ.1 15).toInt + (σ.1 16).toInt).toNat (0 : Int64))) 16 n4) 20 F8) 19 n9) 21 F10) 22 F11) 26 F12) 27 F13) 28 F14) 17 n15) 8 n16) 9 n17) H := hP
      refine lv_aload_n hx hb dX12_call_86 rfl (lv_at hl 1 rfl) ?_
      refine rg_8 (v := n16) C hP rfl wm_13 dX12_call_87 ?_
      refine lv_if_ne (tgt := 129) hx hb dX12_call_90 (by decide) (fun c18 => ?_) (fun c18 => ?_)
      · have c18 : ¬ n16.toInt = 0 := by have h := z_ne c18; rw [show (0 : Int32).toInt = 0 from by decide +kernel] at h; exact h
        have hP : RP D cy ad (rS (rS (rS (rS (rS (rA (rA (rA (rA (rA (rA (rA (rA (rA (rA (rA (rA (rS (rS (rS (rJ (rA (rS σ 14 x1) 11 (upd (σ.2.1 11) ((σ.1 15).toInt + (σ.1 16).toInt).toNat (13 : Int32))) 12 (vp_updL (σ.2.2.1 12) ((σ.1 15).toInt + (σ.1 16).toInt).toNat (0 : Int64))) 16 n4) 19 n9) 29 (σ.1 29)) 31 (σ.2.1 31)) 30 (σ.2.1 30)) 32 (σ.2.1 32)) 21 F10) 22 F11) 20 F8) 23 (σ.2.1 23)) 24 (σ.2.1 24)) 25 (σ.2.1 25)) 26 F12) 27 F13) 28 F14) 17 n15) 33 (σ.1 33)) 34 (σ.1 34)) 8 n16) 9 n17) H := RP.cong hP (Eq.trans (b := (σ.1 0)) rfl rfl) (Eq.trans (b := (σ.1 1)) rfl rfl) (Eq.trans (b := (σ.2.1 2)) rfl rfl) (Eq.trans (b := (σ.1 3)) rfl rfl) (Eq.trans (b := (σ.2.1 4)) rfl rfl) (Eq.trans (b := (σ.2.1 5)) rfl rfl) (Eq.trans (b := (σ.2.2.1 6)) rfl rfl) (Eq.trans (b := (σ.2.1 7)) rfl rfl) (Eq.trans (b := n16) rfl rfl) (Eq.trans (b := n17) rfl rfl) (Eq.trans (b := (σ.1 10)) rfl rfl) (Eq.trans (b := (upd (σ.2.1 11) ((σ.1 15).toInt + (σ.1 16).toInt).toNat (13 : Int32))) rfl rfl) (Eq.trans (b := (vp_updL (σ.2.2.1 12) ((σ.1 15).toInt + (σ.1 16).toInt).toNat (0 : Int64))) rfl rfl) (Eq.trans (b := (σ.2.1 13)) rfl rfl) (Eq.trans (b := x1) rfl rfl) (Eq.trans (b := (σ.1 15)) rfl rfl) (Eq.trans (b := n4) rfl rfl) (Eq.trans (b := n15) rfl rfl) (Eq.trans (b := (σ.1 18)) rfl rfl) (Eq.trans (b := n9) rfl rfl) (Eq.trans (b := F8) rfl rfl) (Eq.trans (b := F10) rfl rfl) (Eq.trans (b := F11) rfl rfl) (Eq.trans (b := (σ.2.1 23)) rfl rfl) (Eq.trans (b := (σ.2.1 24)) rfl rfl) (Eq.trans (b := (σ.2.1 25)) rfl rfl) (Eq.trans (b := F12) rfl rfl) (Eq.trans (b := F13) rfl rfl) (Eq.trans (b := F14) rfl rfl) (Eq.trans (b := (σ.1 29)) rfl rfl) (Eq.trans (b := (σ.2.1 30)) rfl rfl) (Eq.trans (b := (σ.2.1 31)) rfl rfl) (Eq.trans (b := (σ.2.1 32)) rfl rfl) (Eq.trans (b := (σ.1 33)) rfl rfl) (Eq.trans (b := (σ.1 34)) rfl rfl) (Eq.trans (b := (σ.1 35)) rfl rfl) (Eq.trans (b := (σ.2.1 36)) rfl rfl) (Eq.trans (b := (σ.2.1 37)) rfl rfl) (Eq.trans (b := (σ.2.1 38)) rfl rfl) (Eq.trans (b := (σ.2.1 39)) rfl rfl) (Eq.trans (b := (σ.2.1 40)) rfl rfl) (Eq.trans (b := (σ.2.1 41)) rfl rfl) (Eq.trans (b := (σ.2.1 42)) rfl rfl) (Eq.trans (b := (σ.2.1 43)) rfl rfl) (Eq.trans (b := (σ.2.1 44)) rfl rfl) (Eq.trans (b := (σ.2.1 45)) rfl rfl) (Eq.trans (b := (σ.2.1 46)) rfl rfl) (Eq.trans (b := (σ.1 47)) rfl rfl) (Eq.trans (b := (σ.2.1 48)) rfl rfl) (Eq.trans (b := (σ.1 49)) rfl rfl) (Eq.trans (b := (σ.2.1 50)) rfl rfl) (Eq.trans (b := (σ.2.1 51)) rfl rfl) (Eq.trans (b := (σ.2.2.1 52)) rfl rfl) (Eq.trans (b := (σ.2.2.1 53)) rfl rfl) (Eq.trans (b := (σ.2.2.2)) rfl rfl) (Eq.trans (b := (σ.1 55)) rfl rfl) (Eq.trans (b := (σ.1 56)) rfl rfl) (Eq.trans (b := (σ.1 57)) rfl rfl) (Eq.trans (b := (σ.2.1 58)) rfl rfl) (Eq.trans (b := (σ.1 59)) rfl rfl)
        exact r_retv C ⟨x1, (upd (σ.2.1 11) ((σ.1 15).toInt + (σ.1 16).toInt).toNat (13 : Int32)), (vp_updL (σ.2.2.1 12) ((σ.1 15).toInt + (σ.1 16).toInt).toNat (0 : Int64)), n4, n9, (σ.1 29), (σ.2.1 31), (σ.2.1 30), (σ.2.1 32), F10, F11, F8, (σ.2.1 23), (σ.2.1 24), (σ.2.1 25), F12, F13, F14, n15, (σ.1 33), (σ.1 34), n16, n17⟩ (v_call_5 σ x1 n4 r3 F8 n9 F10 F11 F13 F14 n15 n16 hpre_0 hpre_1 hpre_2 hpre_3 hpre_4 hpre_5 ex1 tx1 hr3_0 hr3_1 hr5 hr7 c18) hP hS dX12_call_129
      · have c18 : n16.toInt = 0 := by have h := z_eq c18; rw [show (0 : Int32).toInt = 0 from by decide +kernel] at h; exact h
        refine lv_aload_n hx hb dX12_call_93 rfl (lv_at hl 1 rfl) ?_
        refine rg_23 C hP wm_86 dX12_call_94 ?_
        refine lv_aload_n hx hb dX12_call_97 rfl (lv_at hl 1 rfl) ?_
        refine rg_19 (v := n9) C hP rfl wm_70 dX12_call_98 ?_
        refine lv_iconst (v := 1) hx hb dX12_call_101 (by decide +kernel) ?_
        refine lv_isub hx hb dX12_call_102 ?_
        refine lv_topi (fun x19 ex19 => ?_)
        have tx19 : x19.toInt = n9.toInt - 1 := (v_call_6 σ x1 n4 r3 F8 n9 F10 F11 F13 F14 n15 n16 x19 hpre_0 hpre_1 hpre_2 hpre_3 hpre_4 hpre_5 ex1 tx1 hr3_0 hr3_1 hr7 c18 ex19)
        refine lv_iload_n hx hb dX12_call_103 rfl (lv_at hl 0 rfl) ?_
        refine rw_23 (f := (σ.2.1 23)) C hP hS rfl (v_call_7 σ x1 n4 r3 F8 n9 F10 F11 F13 F14 n15 n16 x19 hpre_0 hpre_1 hpre_2 hpre_3 hpre_4 hpre_5 ex1 tx1 hr3_0 hr3_1 hr7 c18 ex19 tx19) dX12_call_104 (fun H locs hP hS => ?_)
        refine lv_aload_n hx hb dX12_call_105 rfl (lv_at hl 1 rfl) ?_
        refine rg_24 C hP wm_87 dX12_call_106 ?_
        refine lv_aload_n hx hb dX12_call_109 rfl (lv_at hl 1 rfl) ?_
        refine rg_19 (v := n9) C hP rfl wm_70 dX12_call_110 ?_
        refine lv_iconst (v := 1) hx hb dX12_call_113 (by decide +kernel) ?_
        refine lv_isub hx hb dX12_call_114 ?_
        refine lv_topi (fun x20 ex20 => ?_)
        have tx20 : x20.toInt = n9.toInt - 1 := (v_call_8 σ x1 n4 r3 F8 n9 F10 F11 F13 F14 n15 n16 x19 x20 hpre_0 hpre_1 hpre_2 hpre_3 hpre_4 hpre_5 ex1 tx1 hr3_0 hr3_1 hr7 c18 ex19 tx19 ex20)
        refine lv_iload_n hx hb dX12_call_115 rfl (lv_at hl 2 rfl) ?_
        refine rw_24 (f := (σ.2.1 24)) C hP hS rfl (v_call_9 σ x1 n4 r3 F8 n9 F10 F11 F13 F14 n15 n16 x19 x20 hpre_0 hpre_1 hpre_2 hpre_3 hpre_4 hpre_5 ex1 tx1 hr3_0 hr3_1 hr7 c18 ex19 tx19 ex20 tx20) dX12_call_116 (fun H locs hP hS => ?_)
        refine lv_aload_n hx hb dX12_call_117 rfl (lv_at hl 1 rfl) ?_
        refine rg_25 C hP wm_88 dX12_call_118 ?_
        refine lv_aload_n hx hb dX12_call_121 rfl (lv_at hl 1 rfl) ?_
        refine rg_19 (v := n9) C hP rfl wm_70 dX12_call_122 ?_
        refine lv_iconst (v := 1) hx hb dX12_call_125 (by decide +kernel) ?_
        refine lv_isub hx hb dX12_call_126 ?_
        refine lv_topi (fun x21 ex21 => ?_)
        have tx21 : x21.toInt = n9.toInt - 1 := (v_call_10 σ x1 n4 r3 F8 n9 F10 F11 F13 F14 n15 n16 x19 x20 x21 hpre_0 hpre_1 hpre_2 hpre_3 hpre_4 hpre_5 ex1 tx1 hr3_0 hr3_1 hr7 c18 ex19 tx19 ex20 tx20 ex21)
        refine lv_iconst (v := 1) hx hb dX12_call_127 (by decide +kernel) ?_
        refine rw_25 (f := (σ.2.1 25)) C hP hS rfl (v_call_11 σ x1 n4 r3 F8 n9 F10 F11 F13 F14 n15 n16 x19 x20 x21 hpre_0 hpre_1 hpre_2 hpre_3 hpre_4 hpre_5 ex1 tx1 hr3_0 hr3_1 hr7 c18 ex19 tx19 ex20 tx20 ex21 tx21) dX12_call_128 (fun H locs hP hS => ?_)
        have hP : RP D cy ad (rS (rS (rS (rS (rS (rA (rA (rA (rA (rA (rA (rA (rA (rA (rA (rA (rA (rS (rS (rS (rJ (rA (rS σ 14 x1) 11 (upd (σ.2.1 11) ((σ.1 15).toInt + (σ.1 16).toInt).toNat (13 : Int32))) 12 (vp_updL (σ.2.2.1 12) ((σ.1 15).toInt + (σ.1 16).toInt).toNat (0 : Int64))) 16 n4) 19 n9) 29 (σ.1 29)) 31 (σ.2.1 31)) 30 (σ.2.1 30)) 32 (σ.2.1 32)) 21 F10) 22 F11) 20 F8) 23 (upd (σ.2.1 23) x19.toNatClampNeg r3)) 24 (upd (σ.2.1 24) x20.toNatClampNeg k0)) 25 (upd (σ.2.1 25) x21.toNatClampNeg (1 : Int32))) 26 F12) 27 F13) 28 F14) 17 n15) 33 (σ.1 33)) 34 (σ.1 34)) 8 n16) 9 n17) H := RP.cong hP (Eq.trans (b := (σ.1 0)) rfl rfl) (Eq.trans (b := (σ.1 1)) rfl rfl) (Eq.trans (b := (σ.2.1 2)) rfl rfl) (Eq.trans (b := (σ.1 3)) rfl rfl) (Eq.trans (b := (σ.2.1 4)) rfl rfl) (Eq.trans (b := (σ.2.1 5)) rfl rfl) (Eq.trans (b := (σ.2.2.1 6)) rfl rfl) (Eq.trans (b := (σ.2.1 7)) rfl rfl) (Eq.trans (b := n16) rfl rfl) (Eq.trans (b := n17) rfl rfl) (Eq.trans (b := (σ.1 10)) rfl rfl) (Eq.trans (b := (upd (σ.2.1 11) ((σ.1 15).toInt + (σ.1 16).toInt).toNat (13 : Int32))) rfl rfl) (Eq.trans (b := (vp_updL (σ.2.2.1 12) ((σ.1 15).toInt + (σ.1 16).toInt).toNat (0 : Int64))) rfl rfl) (Eq.trans (b := (σ.2.1 13)) rfl rfl) (Eq.trans (b := x1) rfl rfl) (Eq.trans (b := (σ.1 15)) rfl rfl) (Eq.trans (b := n4) rfl rfl) (Eq.trans (b := n15) rfl rfl) (Eq.trans (b := (σ.1 18)) rfl rfl) (Eq.trans (b := n9) rfl rfl) (Eq.trans (b := F8) rfl rfl) (Eq.trans (b := F10) rfl rfl) (Eq.trans (b := F11) rfl rfl) (Eq.trans (b := (upd (σ.2.1 23) x19.toNatClampNeg r3)) rfl rfl) (Eq.trans (b := (upd (σ.2.1 24) x20.toNatClampNeg k0)) rfl rfl) (Eq.trans (b := (upd (σ.2.1 25) x21.toNatClampNeg (1 : Int32))) rfl rfl) (Eq.trans (b := F12) rfl rfl) (Eq.trans (b := F13) rfl rfl) (Eq.trans (b := F14) rfl rfl) (Eq.trans (b := (σ.1 29)) rfl rfl) (Eq.trans (b := (σ.2.1 30)) rfl rfl) (Eq.trans (b := (σ.2.1 31)) rfl rfl) (Eq.trans (b := (σ.2.1 32)) rfl rfl) (Eq.trans (b := (σ.1 33)) rfl rfl) (Eq.trans (b := (σ.1 34)) rfl rfl) (Eq.trans (b := (σ.1 35)) rfl rfl) (Eq.trans (b := (σ.2.1 36)) rfl rfl) (Eq.trans (b := (σ.2.1 37)) rfl rfl) (Eq.trans (b := (σ.2.1 38)) rfl rfl) (Eq.trans (b := (σ.2.1 39)) rfl rfl) (Eq.trans (b := (σ.2.1 40)) rfl rfl) (Eq.trans (b := (σ.2.1 41)) rfl rfl) (Eq.trans (b := (σ.2.1 42)) rfl rfl) (Eq.trans (b := (σ.2.1 43)) rfl rfl) (Eq.trans (b := (σ.2.1 44)) rfl rfl) (Eq.trans (b := (σ.2.1 45)) rfl rfl) (Eq.trans (b := (σ.2.1 46)) rfl rfl) (Eq.trans (b := (σ.1 47)) rfl rfl) (Eq.trans (b := (σ.2.1 48)) rfl rfl) (Eq.trans (b := (σ.1 49)) rfl rfl) (Eq.trans (b := (σ.2.1 50)) rfl rfl) (Eq.trans (b := (σ.2.1 51)) rfl rfl) (Eq.trans (b := (σ.2.2.1 52)) rfl rfl) (Eq.trans (b := (σ.2.2.1 53)) rfl rfl) (Eq.trans (b := (σ.2.2.2)) rfl rfl) (Eq.trans (b := (σ.1 55)) rfl rfl) (Eq.trans (b := (σ.1 56)) rfl rfl) (Eq.trans (b := (σ.1 57)) rfl rfl) (Eq.trans (b := (σ.2.1 58)) rfl rfl) (Eq.trans (b := (σ.1 59)) rfl rfl)
        exact r_retv C ⟨x1, (upd (σ.2.1 11) ((σ.1 15).toInt + (σ.1 16).toInt).toNat (13 : Int32)), (vp_updL (σ.2.2.1 12) ((σ.1 15).toInt + (σ.1 16).toInt).toNat (0 : Int64)), n4, n9, (σ.1 29), (σ.2.1 31), (σ.2.1 30), (σ.2.1 32), F10, F11, F8, (upd (σ.2.1 23) x19.toNatClampNeg r3), (upd (σ.2.1 24) x20.toNatClampNeg k0), (upd (σ.2.1 25) x21.toNatClampNeg (1 : Int32)), F12, F13, F14, n15, (σ.1 33), (σ.1 34), n16, n17⟩ (v_call_12 σ k0 x1 n4 r3 F8 n9 F10 F11 F13 F14 n15 n16 x19 x20 x21 hpre_0 hpre_1 hpre_2 hpre_3 hpre_4 hpre_5 hpre_6 hpre_7 ex1 tx1 hr3_0 hr3_1 hr5 hr7 c18 ex19 tx19 ex20 tx20 ex21 tx21) hP hS dX12_call_129
    · have c6 : ¬ r5.toInt = 0 := by have h := z_ne c6; rw [show (0 : Int32).toInt = 0 from by decide +kernel] at h; exact h
      have hr5v : r5.toInt = 1 := hr5.elim (fun h9 => absurd h9.1 c6) (fun h9 => h9.1)
      have hr5 : ((σ.2.1 4) x1.toNatClampNeg).toInt = 5 ∧ ((σ.2.2.1 6) x1.toNatClampNeg).toInt = (41 : Int32).toInt := bq_t hr5 c6
      obtain ⟨hr5_0, hr5_1⟩ := hr5
      refine lv_aload_n hx hb dX12_call_36 rfl (lv_at hl 1 rfl) ?_
      refine lv_dup hx hb dX12_call_37 rfl ?_
      refine rg_14 (v := x1) C hP rfl wm_62 dX12_call_38 ?_
      refine lv_iconst (v := 1) hx hb dX12_call_41 (by decide +kernel) ?_
      refine lv_iadd hx hb dX12_call_42 ?_
      refine lv_topi (fun x22 ex22 => ?_)
      have tx22 : x22.toInt = x1.toInt + 1 := (v_call_13 σ x1 n4 r3 x22 hpre_0 hpre_1 hpre_2 hpre_4 hpre_5 ex1 tx1 hr3_0 hr3_1 hr5_0 hr5_1 ex22)
      refine rp_14 C hP hS wm_62 dX12_call_43 (fun H locs hP hS => ?_)
      refine lv_aload_n hx hb dX12_call_46 rfl (lv_at hl 1 rfl) ?_
      refine lv_bipush (v := 15) hx hb dX12_call_47 (by decide +kernel) ?_
      refine lv_ldc2 (v := 4) hx hb hown (hw _ wm_85) dX12_call_49 ?_
      refine lv_iload_n hx hb dX12_call_52 rfl (lv_at hl 2 rfl) ?_
      refine lv_i2l hx hb dX12_call_53 rfl ?_
      refine lv_topl (fun x23 ex23 => ?_)
      have tx23 : x23.toInt = k0.toInt := by rw [ex23]; exact Int32.toInt_toInt64 _
      refine lv_lmul hx hb dX12_call_54 ?_
      refine lv_topl (fun x24 ex24 => ?_)
      have tx24 : x24.toInt = 4 * x23.toInt := (v_call_14 k0 x23 x24 hpre_6 hpre_7 ex23 tx23 ex24)
      refine r_callVi (As := [.int 15, .long x24]) (rest := []) C hP hS hl.1 ⟨Nat.zero_le _, Nat.zero_le _⟩ (M_emit l D cy sz0 sa ad (rS (rS (rJ (rA (rS σ 14 x1) 11 (upd (σ.2.1 11) ((σ.1 15).toInt + (σ.1 16).toInt).toNat (13 : Int32))) 12 (vp_updL (σ.2.2.1 12) ((σ.1 15).toInt + (σ.1 16).toInt).toNat (0 : Int64))) 16 n4) 14 x22) H.size (15 : Int32) x24 (v_call_15 σ x1 n4 r3 x22 hpre_0 hpre_1 hpre_2 hpre_4 hpre_5 ex1 tx1 hr3_0 hr3_1 hr5_0 hr5_1 ex22 tx22)) (n := 2) ⟨wm_89, wm_64, by decide +kernel⟩ ⟨wm_90, wm_91, wm_10⟩ rfl rfl (lv_room (Nat.le_of_ble_eq_true rfl)) ⟨Nat.le_of_ble_eq_true rfl, Nat.le_of_ble_eq_true rfl⟩ dX12_call_55 (fun r25 u H locs hr25 hP hS => ?_)
      obtain ⟨n26, rfl⟩ : ∃ z, z = u := ⟨_, rfl⟩
      have hr25 : n26.toInt = n4.toInt + 1 ∧ r25.toInt = (σ.1 15).toInt + n4.toInt := hr25
      obtain ⟨hr25_0, hr25_1⟩ := hr25
      have hP : RP D cy ad (rS (rJ (rA (rS (rS (rJ (rA (rS σ 14 x1) 11 (upd (σ.2.1 11) ((σ.1 15).toInt + (σ.1 16).toInt).toNat (13 : Int32))) 12 (vp_updL (σ.2.2.1 12) ((σ.1 15).toInt + (σ.1 16).toInt).toNat (0 : Int64))) 16 n4) 14 x22) 11 (upd (upd (σ.2.1 11) ((σ.1 15).toInt + (σ.1 16).toInt).toNat (13 : Int32)) ((σ.1 15).toInt + n4.toInt).toNat (15 : Int32))) 12 (vp_updL (vp_updL (σ.2.2.1 12) ((σ.1 15).toInt + (σ.1 16).toInt).toNat (0 : Int64)) ((σ.1 15).toInt + n4.toInt).toNat x24)) 16 n26) H := hP
      refine lv_pop hx hb dX12_call_58 rfl ?_
      refine lv_aload_n hx hb dX12_call_59 rfl (lv_at hl 1 rfl) ?_
      refine rg_12 C hP wm_68 dX12_call_60 ?_
      refine lv_iload_n hx hb dX12_call_63 rfl (lv_at hl 0 rfl) ?_
      refine lv_aload_n hx hb dX12_call_64 rfl (lv_at hl 1 rfl) ?_
      refine rg_15 (v := (σ.1 15)) C hP rfl wm_66 dX12_call_65 ?_
      refine lv_aload_n hx hb dX12_call_68 rfl (lv_at hl 1 rfl) ?_
      refine rg_16 (v := n26) C hP rfl wm_67 dX12_call_69 ?_
      refine lv_iadd hx hb dX12_call_72 ?_
      refine lv_topi (fun x27 ex27 => ?_)
      have tx27 : x27.toInt = (σ.1 15).toInt + n26.toInt := (v_call_16 σ x1 n4 r3 x22 n26 r25 x27 hpre_0 hpre_1 hpre_2 hpre_4 hpre_5 ex1 tx1 hr3_0 hr3_1 hr5_0 hr5_1 ex22 tx22 hr25_0 hr25_1 ex27)
      refine lv_i2l hx hb dX12_call_73 rfl ?_
      refine lv_topl (fun x28 ex28 => ?_)
      have tx28 : x28.toInt = x27.toInt := by rw [ex28]; exact Int32.toInt_toInt64 _
      refine rw_12 (f := (vp_updL (vp_updL (σ.2.2.1 12) ((σ.1 15).toInt + (σ.1 16).toInt).toNat (0 : Int64)) ((σ.1 15).toInt + n4.toInt).toNat x24)) C hP hS rfl (v_call_17 σ k0 x1 n4 r3 x22 x23 x24 n26 r25 x27 x28 hpre_0 hpre_1 hpre_2 hpre_4 hpre_5 hpre_6 hpre_7 ex1 tx1 hr3_0 hr3_1 hr5_0 hr5_1 ex22 tx22 ex23 tx23 ex24 tx24 hr25_0 hr25_1 ex27 tx27 ex28 tx28) dX12_call_74 (fun H locs hP hS => ?_)
      refine lv_aload_n hx hb dX12_call_75 rfl (lv_at hl 1 rfl) ?_
      refine lv_iconst (v := 0) hx hb dX12_call_76 (by decide +kernel) ?_
      refine r_callVv (As := [.int 0]) (rest := []) C hP hS hl.1 ⟨Nat.zero_le _, Nat.zero_le _⟩ (M_ready l D cy sz0 sa ad (rJ (rS (rJ (rA (rS (rS (rJ (rA (rS σ 14 x1) 11 (upd (σ.2.1 11) ((σ.1 15).toInt + (σ.1 16).toInt).toNat (13 : Int32))) 12 (vp_updL (σ.2.2.1 12) ((σ.1 15).toInt + (σ.1 16).toInt).toNat (0 : Int64))) 16 n4) 14 x22) 11 (upd (upd (σ.2.1 11) ((σ.1 15).toInt + (σ.1 16).toInt).toNat (13 : Int32)) ((σ.1 15).toInt + n4.toInt).toNat (15 : Int32))) 12 (vp_updL (vp_updL (σ.2.2.1 12) ((σ.1 15).toInt + (σ.1 16).toInt).toNat (0 : Int64)) ((σ.1 15).toInt + n4.toInt).toNat x24)) 16 n26) 12 (vp_updL (vp_updL (vp_updL (σ.2.2.1 12) ((σ.1 15).toInt + (σ.1 16).toInt).toNat (0 : Int64)) ((σ.1 15).toInt + n4.toInt).toNat x24) r3.toNatClampNeg x28)) H.size (0 : Int32) (v_call_18 σ k0 x1 n4 r3 x22 x23 x24 n26 r25 x27 x28 hpre_0 hpre_1 hpre_2 hpre_4 hpre_5 hpre_6 hpre_7 ex1 tx1 hr3_0 hr3_1 hr5_0 hr5_1 ex22 tx22 ex23 tx23 ex24 tx24 hr25_0 hr25_1 ex27 tx27 ex28 tx28)) (n := 1) ⟨wm_95, wm_83, by decide +kernel⟩ ⟨wm_96, wm_97, wm_10⟩ rfl rfl (lv_room (Nat.le_of_ble_eq_true rfl)) ⟨Nat.le_of_ble_eq_true rfl, Nat.le_of_ble_eq_true rfl⟩ dX12_call_77 (fun u H locs hr29 hP hS => ?_)
      have hr29 : True := hr29
      have hP : RP D cy ad (rS (rA (rJ (rS (rJ (rA (rS (rS (rJ (rA (rS σ 14 x1) 11 (upd (σ.2.1 11) ((σ.1 15).toInt + (σ.1 16).toInt).toNat (13 : Int32))) 12 (vp_updL (σ.2.2.1 12) ((σ.1 15).toInt + (σ.1 16).toInt).toNat (0 : Int64))) 16 n4) 14 x22) 11 (upd (upd (σ.2.1 11) ((σ.1 15).toInt + (σ.1 16).toInt).toNat (13 : Int32)) ((σ.1 15).toInt + n4.toInt).toNat (15 : Int32))) 12 (vp_updL (vp_updL (σ.2.2.1 12) ((σ.1 15).toInt + (σ.1 16).toInt).toNat (0 : Int64)) ((σ.1 15).toInt + n4.toInt).toNat x24)) 16 n26) 12 (vp_updL (vp_updL (vp_updL (σ.2.2.1 12) ((σ.1 15).toInt + (σ.1 16).toInt).toNat (0 : Int64)) ((σ.1 15).toInt + n4.toInt).toNat x24) r3.toNatClampNeg x28)) 28 (upd (σ.2.1 28) ((σ.1 19).toInt - 1).toNat (0 : Int32))) 17 (0 : Int32)) H := hP
      have hP : RP D cy ad (rS (rS (rS (rS (rS (rA (rA (rA (rA (rA (rA (rA (rA (rA (rA (rA (rA (rS (rS (rS (rJ (rA (rS σ 14 x22) 11 (upd (upd (σ.2.1 11) ((σ.1 15).toInt + (σ.1 16).toInt).toNat (13 : Int32)) ((σ.1 15).toInt + n4.toInt).toNat (15 : Int32))) 12 (vp_updL (vp_updL (vp_updL (σ.2.2.1 12) ((σ.1 15).toInt + (σ.1 16).toInt).toNat (0 : Int64)) ((σ.1 15).toInt + n4.toInt).toNat x24) r3.toNatClampNeg x28)) 16 n26) 19 (σ.1 19)) 29 (σ.1 29)) 31 (σ.2.1 31)) 30 (σ.2.1 30)) 32 (σ.2.1 32)) 21 (σ.2.1 21)) 22 (σ.2.1 22)) 20 (σ.2.1 20)) 23 (σ.2.1 23)) 24 (σ.2.1 24)) 25 (σ.2.1 25)) 26 (σ.2.1 26)) 27 (σ.2.1 27)) 28 (upd (σ.2.1 28) ((σ.1 19).toInt - 1).toNat (0 : Int32))) 17 (0 : Int32)) 33 (σ.1 33)) 34 (σ.1 34)) 8 (σ.1 8)) 9 (σ.1 9)) H := RP.cong hP (Eq.trans (b := (σ.1 0)) rfl rfl) (Eq.trans (b := (σ.1 1)) rfl rfl) (Eq.trans (b := (σ.2.1 2)) rfl rfl) (Eq.trans (b := (σ.1 3)) rfl rfl) (Eq.trans (b := (σ.2.1 4)) rfl rfl) (Eq.trans (b := (σ.2.1 5)) rfl rfl) (Eq.trans (b := (σ.2.2.1 6)) rfl rfl) (Eq.trans (b := (σ.2.1 7)) rfl rfl) (Eq.trans (b := (σ.1 8)) rfl rfl) (Eq.trans (b := (σ.1 9)) rfl rfl) (Eq.trans (b := (σ.1 10)) rfl rfl) (Eq.trans (b := (upd (upd (σ.2.1 11) ((σ.1 15).toInt + (σ.1 16).toInt).toNat (13 : Int32)) ((σ.1 15).toInt + n4.toInt).toNat (15 : Int32))) rfl rfl) (Eq.trans (b := (vp_updL (vp_updL (vp_updL (σ.2.2.1 12) ((σ.1 15).toInt + (σ.1 16).toInt).toNat (0 : Int64)) ((σ.1 15).toInt + n4.toInt).toNat x24) r3.toNatClampNeg x28)) rfl rfl) (Eq.trans (b := (σ.2.1 13)) rfl rfl) (Eq.trans (b := x22) rfl rfl) (Eq.trans (b := (σ.1 15)) rfl rfl) (Eq.trans (b := n26) rfl rfl) (Eq.trans (b := (0 : Int32)) rfl rfl) (Eq.trans (b := (σ.1 18)) rfl rfl) (Eq.trans (b := (σ.1 19)) rfl rfl) (Eq.trans (b := (σ.2.1 20)) rfl rfl) (Eq.trans (b := (σ.2.1 21)) rfl rfl) (Eq.trans (b := (σ.2.1 22)) rfl rfl) (Eq.trans (b := (σ.2.1 23)) rfl rfl) (Eq.trans (b := (σ.2.1 24)) rfl rfl) (Eq.trans (b := (σ.2.1 25)) rfl rfl) (Eq.trans (b := (σ.2.1 26)) rfl rfl) (Eq.trans (b := (σ.2.1 27)) rfl rfl) (Eq.trans (b := (upd (σ.2.1 28) ((σ.1 19).toInt - 1).toNat (0 : Int32))) rfl rfl) (Eq.trans (b := (σ.1 29)) rfl rfl) (Eq.trans (b := (σ.2.1 30)) rfl rfl) (Eq.trans (b := (σ.2.1 31)) rfl rfl) (Eq.trans (b := (σ.2.1 32)) rfl rfl) (Eq.trans (b := (σ.1 33)) rfl rfl) (Eq.trans (b := (σ.1 34)) rfl rfl) (Eq.trans (b := (σ.1 35)) rfl rfl) (Eq.trans (b := (σ.2.1 36)) rfl rfl) (Eq.trans (b := (σ.2.1 37)) rfl rfl) (Eq.trans (b := (σ.2.1 38)) rfl rfl) (Eq.trans (b := (σ.2.1 39)) rfl rfl) (Eq.trans (b := (σ.2.1 40)) rfl rfl) (Eq.trans (b := (σ.2.1 41)) rfl rfl) (Eq.trans (b := (σ.2.1 42)) rfl rfl) (Eq.trans (b := (σ.2.1 43)) rfl rfl) (Eq.trans (b := (σ.2.1 44)) rfl rfl) (Eq.trans (b := (σ.2.1 45)) rfl rfl) (Eq.trans (b := (σ.2.1 46)) rfl rfl) (Eq.trans (b := (σ.1 47)) rfl rfl) (Eq.trans (b := (σ.2.1 48)) rfl rfl) (Eq.trans (b := (σ.1 49)) rfl rfl) (Eq.trans (b := (σ.2.1 50)) rfl rfl) (Eq.trans (b := (σ.2.1 51)) rfl rfl) (Eq.trans (b := (σ.2.2.1 52)) rfl rfl) (Eq.trans (b := (σ.2.2.1 53)) rfl rfl) (Eq.trans (b := (σ.2.2.2)) rfl rfl) (Eq.trans (b := (σ.1 55)) rfl rfl) (Eq.trans (b := (σ.1 56)) rfl rfl) (Eq.trans (b := (σ.1 57)) rfl rfl) (Eq.trans (b := (σ.2.1 58)) rfl rfl) (Eq.trans (b := (σ.1 59)) rfl rfl)
      exact r_retv C ⟨x22, (upd (upd (σ.2.1 11) ((σ.1 15).toInt + (σ.1 16).toInt).toNat (13 : Int32)) ((σ.1 15).toInt + n4.toInt).toNat (15 : Int32)), (vp_updL (vp_updL (vp_updL (σ.2.2.1 12) ((σ.1 15).toInt + (σ.1 16).toInt).toNat (0 : Int64)) ((σ.1 15).toInt + n4.toInt).toNat x24) r3.toNatClampNeg x28), n26, (σ.1 19), (σ.1 29), (σ.2.1 31), (σ.2.1 30), (σ.2.1 32), (σ.2.1 21), (σ.2.1 22), (σ.2.1 20), (σ.2.1 23), (σ.2.1 24), (σ.2.1 25), (σ.2.1 26), (σ.2.1 27), (upd (σ.2.1 28) ((σ.1 19).toInt - 1).toNat (0 : Int32)), (0 : Int32), (σ.1 33), (σ.1 34), (σ.1 8), (σ.1 9)⟩ (v_call_19 σ k0 x1 n4 r3 x22 x23 x24 n26 r25 x27 x28 hpre_0 hpre_1 hpre_2 hpre_3 hpre_4 hpre_5 hpre_6 hpre_7 ex1 tx1 hr3_0 hr3_1 hr5_0 hr5_1 ex22 tx22 ex23 tx23 ex24 tx24 hr25_0 hr25_1 ex27 tx27 ex28 tx28) hP hS dX12_call_80
  · have c2 : ¬ k1.toInt = 0 := by have h := z_ne c2; rw [show (0 : Int32).toInt = 0 from by decide +kernel] at h; exact h
    refine lv_bipush (v := 14) hx hb dX12_call_15 (by decide +kernel) ?_
    refine lv_goto (tgt := 22) hx hb dX12_call_17 (by decide) ?_
    refine lv_lconst (v := 0) hx hb dX12_call_22 rfl ?_
    refine r_callVi (As := [.int 14, .long 0]) (rest := []) C hP hS hl.1 ⟨Nat.zero_le _, Nat.zero_le _⟩ (M_emit l D cy sz0 sa ad (rS σ 14 x1) H.size (14 : Int32) (0 : Int64) (v_call_2 σ x1 hpre_0 hpre_1 hpre_2 hpre_4 hpre_5 ex1 tx1)) (n := 2) ⟨wm_89, wm_64, by decide +kernel⟩ ⟨wm_90, wm_91, wm_10⟩ rfl rfl (lv_room (Nat.le_of_ble_eq_true rfl)) ⟨Nat.le_of_ble_eq_true rfl, Nat.le_of_ble_eq_true rfl⟩ dX12_call_23 (fun r30 u H locs hr30 hP hS => ?_)
    obtain ⟨n31, rfl⟩ : ∃ z, z = u := ⟨_, rfl⟩
    have hr30 : n31.toInt = (σ.1 16).toInt + 1 ∧ r30.toInt = (σ.1 15).toInt + (σ.1 16).toInt := hr30
    obtain ⟨hr30_0, hr30_1⟩ := hr30
    have hP : RP D cy ad (rS (rJ (rA (rS σ 14 x1) 11 (upd (σ.2.1 11) ((σ.1 15).toInt + (σ.1 16).toInt).toNat (14 : Int32))) 12 (vp_updL (σ.2.2.1 12) ((σ.1 15).toInt + (σ.1 16).toInt).toNat (0 : Int64))) 16 n31) H := hP
    refine lv_istore_n (lv' := [(3, .int r30), (0, .ref (ad 0)), (1, .int k0), (2, .int k1)]) hx hb dX12_call_26 rfl hl (by decide) rfl (fun ls hl => ?_)
    refine lv_aload_n hx hb dX12_call_27 rfl (lv_at hl 1 rfl) ?_
    refine lv_bipush (v := 41) hx hb dX12_call_28 (by decide +kernel) ?_
    refine r_callVi (As := [.int 41]) (rest := []) C hP hS hl.1 ⟨Nat.zero_le _, Nat.zero_le _⟩ (M_isSign l D cy sz0 sa ad (rS (rJ (rA (rS σ 14 x1) 11 (upd (σ.2.1 11) ((σ.1 15).toInt + (σ.1 16).toInt).toNat (14 : Int32))) 12 (vp_updL (σ.2.2.1 12) ((σ.1 15).toInt + (σ.1 16).toInt).toNat (0 : Int64))) 16 n31) H.size (41 : Int32) (v_call_20 σ x1 n31 r30 hpre_0 hpre_1 hpre_2 hpre_4 hpre_5 ex1 tx1 hr30_0 hr30_1)) (n := 1) ⟨wm_92, wm_61, by decide +kernel⟩ ⟨wm_93, wm_94, wm_10⟩ rfl rfl (lv_room (Nat.le_of_ble_eq_true rfl)) ⟨Nat.le_of_ble_eq_true rfl, Nat.le_of_ble_eq_true rfl⟩ dX12_call_30 (fun r32 u H locs hr32 hP hS => ?_)
    have hr32 : (r32.toInt = 0 ∧ ¬ (((σ.2.1 4) x1.toNatClampNeg).toInt = 5 ∧ ((σ.2.2.1 6) x1.toNatClampNeg).toInt = (41 : Int32).toInt)) ∨ (r32.toInt = 1 ∧ (((σ.2.1 4) x1.toNatClampNeg).toInt = 5 ∧ ((σ.2.2.1 6) x1.toNatClampNeg).toInt = (41 : Int32).toInt)) := hr32
    refine lv_if_eq (tgt := 81) hx hb dX12_call_33 (by decide) (fun c33 => ?_) (fun c33 => ?_)
    · have c33 : r32.toInt = 0 := by have h := z_eq c33; rw [show (0 : Int32).toInt = 0 from by decide +kernel] at h; exact h
      have hr32 : ¬ (((σ.2.1 4) x1.toNatClampNeg).toInt = 5 ∧ ((σ.2.2.1 6) x1.toNatClampNeg).toInt = (41 : Int32).toInt) := bq_f hr32 c33
      refine lv_aload_n hx hb dX12_call_81 rfl (lv_at hl 1 rfl) ?_
      refine lv_iconst (v := 3) hx hb dX12_call_82 (by decide +kernel) ?_
      refine r_callVv (As := [.int 3]) (rest := []) C hP hS hl.1 ⟨Nat.zero_le _, Nat.zero_le _⟩ (M_open l D cy sz0 sa ad (rS (rJ (rA (rS σ 14 x1) 11 (upd (σ.2.1 11) ((σ.1 15).toInt + (σ.1 16).toInt).toNat (14 : Int32))) 12 (vp_updL (σ.2.2.1 12) ((σ.1 15).toInt + (σ.1 16).toInt).toNat (0 : Int64))) 16 n31) H.size (3 : Int32) (v_call_21 σ x1 n31 r30 hpre_0 hpre_1 hpre_2 hpre_3 hpre_4 hpre_5 ex1 tx1 hr30_0 hr30_1 hr32)) (n := 1) ⟨wm_98, wm_69, by decide +kernel⟩ ⟨wm_99, wm_100, wm_10⟩ rfl rfl (lv_room (Nat.le_of_ble_eq_true rfl)) ⟨Nat.le_of_ble_eq_true rfl, Nat.le_of_ble_eq_true rfl⟩ dX12_call_83 (fun u H locs hr34 hP hS => ?_)
      obtain ⟨F35, n36, F37, F38, F39, F40, F41, n42, n43, n44⟩ := u
      have hr34 : ((σ.1 19).toInt = 5 ∧ n43.toInt = 3 ∧ n36.toInt = 5) ∨ ((σ.1 19).toInt < 5 ∧ n43 = (σ.1 8) ∧ n36.toInt = (σ.1 19).toInt + 1 ∧ F35 = upd (σ.2.1 20) (σ.1 19).toInt.toNat (3 : Int32) ∧ F37 = upd (σ.2.1 21) (σ.1 19).toInt.toNat (σ.1 29) ∧ F38 = upd (σ.2.1 22) (σ.1 19).toInt.toNat (0 : Int32) ∧ F40 = upd (σ.2.1 27) (σ.1 19).toInt.toNat (1 : Int32) ∧ F41 = upd (σ.2.1 28) (σ.1 19).toInt.toNat (0 : Int32) ∧ n42.toInt = 1) := hr34
      have hP : RP D cy ad (rS (rS (rS (rA (rA (rA (rA (rA (rS (rA (rS (rJ (rA (rS σ 14 x1) 11 (upd (σ.2.1 11) ((σ.1 15).toInt + (σ.1 16).toInt).toNat (14 : Int32))) 12 (vp_updL (σ.2.2.1 12) ((σ.1 15).toInt + (σ.1 16).toInt).toNat (0 : Int64))) 16 n31) 20 F35) 19 n36) 21 F37) 22 F38) 26 F39) 27 F40) 28 F41) 17 n42) 8 n43) 9 n44) H := hP
      refine lv_aload_n hx hb dX12_call_86 rfl (lv_at hl 1 rfl) ?_
      refine rg_8 (v := n43) C hP rfl wm_13 dX12_call_87 ?_
      refine lv_if_ne (tgt := 129) hx hb dX12_call_90 (by decide) (fun c45 => ?_) (fun c45 => ?_)
      · have c45 : ¬ n43.toInt = 0 := by have h := z_ne c45; rw [show (0 : Int32).toInt = 0 from by decide +kernel] at h; exact h
        have hP : RP D cy ad (rS (rS (rS (rS (rS (rA (rA (rA (rA (rA (rA (rA (rA (rA (rA (rA (rA (rS (rS (rS (rJ (rA (rS σ 14 x1) 11 (upd (σ.2.1 11) ((σ.1 15).toInt + (σ.1 16).toInt).toNat (14 : Int32))) 12 (vp_updL (σ.2.2.1 12) ((σ.1 15).toInt + (σ.1 16).toInt).toNat (0 : Int64))) 16 n31) 19 n36) 29 (σ.1 29)) 31 (σ.2.1 31)) 30 (σ.2.1 30)) 32 (σ.2.1 32)) 21 F37) 22 F38) 20 F35) 23 (σ.2.1 23)) 24 (σ.2.1 24)) 25 (σ.2.1 25)) 26 F39) 27 F40) 28 F41) 17 n42) 33 (σ.1 33)) 34 (σ.1 34)) 8 n43) 9 n44) H := RP.cong hP (Eq.trans (b := (σ.1 0)) rfl rfl) (Eq.trans (b := (σ.1 1)) rfl rfl) (Eq.trans (b := (σ.2.1 2)) rfl rfl) (Eq.trans (b := (σ.1 3)) rfl rfl) (Eq.trans (b := (σ.2.1 4)) rfl rfl) (Eq.trans (b := (σ.2.1 5)) rfl rfl) (Eq.trans (b := (σ.2.2.1 6)) rfl rfl) (Eq.trans (b := (σ.2.1 7)) rfl rfl) (Eq.trans (b := n43) rfl rfl) (Eq.trans (b := n44) rfl rfl) (Eq.trans (b := (σ.1 10)) rfl rfl) (Eq.trans (b := (upd (σ.2.1 11) ((σ.1 15).toInt + (σ.1 16).toInt).toNat (14 : Int32))) rfl rfl) (Eq.trans (b := (vp_updL (σ.2.2.1 12) ((σ.1 15).toInt + (σ.1 16).toInt).toNat (0 : Int64))) rfl rfl) (Eq.trans (b := (σ.2.1 13)) rfl rfl) (Eq.trans (b := x1) rfl rfl) (Eq.trans (b := (σ.1 15)) rfl rfl) (Eq.trans (b := n31) rfl rfl) (Eq.trans (b := n42) rfl rfl) (Eq.trans (b := (σ.1 18)) rfl rfl) (Eq.trans (b := n36) rfl rfl) (Eq.trans (b := F35) rfl rfl) (Eq.trans (b := F37) rfl rfl) (Eq.trans (b := F38) rfl rfl) (Eq.trans (b := (σ.2.1 23)) rfl rfl) (Eq.trans (b := (σ.2.1 24)) rfl rfl) (Eq.trans (b := (σ.2.1 25)) rfl rfl) (Eq.trans (b := F39) rfl rfl) (Eq.trans (b := F40) rfl rfl) (Eq.trans (b := F41) rfl rfl) (Eq.trans (b := (σ.1 29)) rfl rfl) (Eq.trans (b := (σ.2.1 30)) rfl rfl) (Eq.trans (b := (σ.2.1 31)) rfl rfl) (Eq.trans (b := (σ.2.1 32)) rfl rfl) (Eq.trans (b := (σ.1 33)) rfl rfl) (Eq.trans (b := (σ.1 34)) rfl rfl) (Eq.trans (b := (σ.1 35)) rfl rfl) (Eq.trans (b := (σ.2.1 36)) rfl rfl) (Eq.trans (b := (σ.2.1 37)) rfl rfl) (Eq.trans (b := (σ.2.1 38)) rfl rfl) (Eq.trans (b := (σ.2.1 39)) rfl rfl) (Eq.trans (b := (σ.2.1 40)) rfl rfl) (Eq.trans (b := (σ.2.1 41)) rfl rfl) (Eq.trans (b := (σ.2.1 42)) rfl rfl) (Eq.trans (b := (σ.2.1 43)) rfl rfl) (Eq.trans (b := (σ.2.1 44)) rfl rfl) (Eq.trans (b := (σ.2.1 45)) rfl rfl) (Eq.trans (b := (σ.2.1 46)) rfl rfl) (Eq.trans (b := (σ.1 47)) rfl rfl) (Eq.trans (b := (σ.2.1 48)) rfl rfl) (Eq.trans (b := (σ.1 49)) rfl rfl) (Eq.trans (b := (σ.2.1 50)) rfl rfl) (Eq.trans (b := (σ.2.1 51)) rfl rfl) (Eq.trans (b := (σ.2.2.1 52)) rfl rfl) (Eq.trans (b := (σ.2.2.1 53)) rfl rfl) (Eq.trans (b := (σ.2.2.2)) rfl rfl) (Eq.trans (b := (σ.1 55)) rfl rfl) (Eq.trans (b := (σ.1 56)) rfl rfl) (Eq.trans (b := (σ.1 57)) rfl rfl) (Eq.trans (b := (σ.2.1 58)) rfl rfl) (Eq.trans (b := (σ.1 59)) rfl rfl)
        exact r_retv C ⟨x1, (upd (σ.2.1 11) ((σ.1 15).toInt + (σ.1 16).toInt).toNat (14 : Int32)), (vp_updL (σ.2.2.1 12) ((σ.1 15).toInt + (σ.1 16).toInt).toNat (0 : Int64)), n31, n36, (σ.1 29), (σ.2.1 31), (σ.2.1 30), (σ.2.1 32), F37, F38, F35, (σ.2.1 23), (σ.2.1 24), (σ.2.1 25), F39, F40, F41, n42, (σ.1 33), (σ.1 34), n43, n44⟩ (v_call_22 σ x1 n31 r30 F35 n36 F37 F38 F40 F41 n42 n43 hpre_0 hpre_1 hpre_2 hpre_3 hpre_4 hpre_5 ex1 tx1 hr30_0 hr30_1 hr32 hr34 c45) hP hS dX12_call_129
      · have c45 : n43.toInt = 0 := by have h := z_eq c45; rw [show (0 : Int32).toInt = 0 from by decide +kernel] at h; exact h
        refine lv_aload_n hx hb dX12_call_93 rfl (lv_at hl 1 rfl) ?_
        refine rg_23 C hP wm_86 dX12_call_94 ?_
        refine lv_aload_n hx hb dX12_call_97 rfl (lv_at hl 1 rfl) ?_
        refine rg_19 (v := n36) C hP rfl wm_70 dX12_call_98 ?_
        refine lv_iconst (v := 1) hx hb dX12_call_101 (by decide +kernel) ?_
        refine lv_isub hx hb dX12_call_102 ?_
        refine lv_topi (fun x46 ex46 => ?_)
        have tx46 : x46.toInt = n36.toInt - 1 := (v_call_23 σ x1 n31 r30 F35 n36 F37 F38 F40 F41 n42 n43 x46 hpre_0 hpre_1 hpre_2 hpre_3 hpre_4 hpre_5 ex1 tx1 hr30_0 hr30_1 hr34 c45 ex46)
        refine lv_iload_n hx hb dX12_call_103 rfl (lv_at hl 0 rfl) ?_
        refine rw_23 (f := (σ.2.1 23)) C hP hS rfl (v_call_24 σ x1 n31 r30 F35 n36 F37 F38 F40 F41 n42 n43 x46 hpre_0 hpre_1 hpre_2 hpre_3 hpre_4 hpre_5 ex1 tx1 hr30_0 hr30_1 hr34 c45 ex46 tx46) dX12_call_104 (fun H locs hP hS => ?_)
        refine lv_aload_n hx hb dX12_call_105 rfl (lv_at hl 1 rfl) ?_
        refine rg_24 C hP wm_87 dX12_call_106 ?_
        refine lv_aload_n hx hb dX12_call_109 rfl (lv_at hl 1 rfl) ?_
        refine rg_19 (v := n36) C hP rfl wm_70 dX12_call_110 ?_
        refine lv_iconst (v := 1) hx hb dX12_call_113 (by decide +kernel) ?_
        refine lv_isub hx hb dX12_call_114 ?_
        refine lv_topi (fun x47 ex47 => ?_)
        have tx47 : x47.toInt = n36.toInt - 1 := (v_call_25 σ x1 n31 r30 F35 n36 F37 F38 F40 F41 n42 n43 x46 x47 hpre_0 hpre_1 hpre_2 hpre_3 hpre_4 hpre_5 ex1 tx1 hr30_0 hr30_1 hr34 c45 ex46 tx46 ex47)
        refine lv_iload_n hx hb dX12_call_115 rfl (lv_at hl 2 rfl) ?_
        refine rw_24 (f := (σ.2.1 24)) C hP hS rfl (v_call_26 σ x1 n31 r30 F35 n36 F37 F38 F40 F41 n42 n43 x46 x47 hpre_0 hpre_1 hpre_2 hpre_3 hpre_4 hpre_5 ex1 tx1 hr30_0 hr30_1 hr34 c45 ex46 tx46 ex47 tx47) dX12_call_116 (fun H locs hP hS => ?_)
        refine lv_aload_n hx hb dX12_call_117 rfl (lv_at hl 1 rfl) ?_
        refine rg_25 C hP wm_88 dX12_call_118 ?_
        refine lv_aload_n hx hb dX12_call_121 rfl (lv_at hl 1 rfl) ?_
        refine rg_19 (v := n36) C hP rfl wm_70 dX12_call_122 ?_
        refine lv_iconst (v := 1) hx hb dX12_call_125 (by decide +kernel) ?_
        refine lv_isub hx hb dX12_call_126 ?_
        refine lv_topi (fun x48 ex48 => ?_)
        have tx48 : x48.toInt = n36.toInt - 1 := (v_call_27 σ x1 n31 r30 F35 n36 F37 F38 F40 F41 n42 n43 x46 x47 x48 hpre_0 hpre_1 hpre_2 hpre_3 hpre_4 hpre_5 ex1 tx1 hr30_0 hr30_1 hr34 c45 ex46 tx46 ex47 tx47 ex48)
        refine lv_iconst (v := 1) hx hb dX12_call_127 (by decide +kernel) ?_
        refine rw_25 (f := (σ.2.1 25)) C hP hS rfl (v_call_28 σ x1 n31 r30 F35 n36 F37 F38 F40 F41 n42 n43 x46 x47 x48 hpre_0 hpre_1 hpre_2 hpre_3 hpre_4 hpre_5 ex1 tx1 hr30_0 hr30_1 hr34 c45 ex46 tx46 ex47 tx47 ex48 tx48) dX12_call_128 (fun H locs hP hS => ?_)
        have hP : RP D cy ad (rS (rS (rS (rS (rS (rA (rA (rA (rA (rA (rA (rA (rA (rA (rA (rA (rA (rS (rS (rS (rJ (rA (rS σ 14 x1) 11 (upd (σ.2.1 11) ((σ.1 15).toInt + (σ.1 16).toInt).toNat (14 : Int32))) 12 (vp_updL (σ.2.2.1 12) ((σ.1 15).toInt + (σ.1 16).toInt).toNat (0 : Int64))) 16 n31) 19 n36) 29 (σ.1 29)) 31 (σ.2.1 31)) 30 (σ.2.1 30)) 32 (σ.2.1 32)) 21 F37) 22 F38) 20 F35) 23 (upd (σ.2.1 23) x46.toNatClampNeg r30)) 24 (upd (σ.2.1 24) x47.toNatClampNeg k0)) 25 (upd (σ.2.1 25) x48.toNatClampNeg (1 : Int32))) 26 F39) 27 F40) 28 F41) 17 n42) 33 (σ.1 33)) 34 (σ.1 34)) 8 n43) 9 n44) H := RP.cong hP (Eq.trans (b := (σ.1 0)) rfl rfl) (Eq.trans (b := (σ.1 1)) rfl rfl) (Eq.trans (b := (σ.2.1 2)) rfl rfl) (Eq.trans (b := (σ.1 3)) rfl rfl) (Eq.trans (b := (σ.2.1 4)) rfl rfl) (Eq.trans (b := (σ.2.1 5)) rfl rfl) (Eq.trans (b := (σ.2.2.1 6)) rfl rfl) (Eq.trans (b := (σ.2.1 7)) rfl rfl) (Eq.trans (b := n43) rfl rfl) (Eq.trans (b := n44) rfl rfl) (Eq.trans (b := (σ.1 10)) rfl rfl) (Eq.trans (b := (upd (σ.2.1 11) ((σ.1 15).toInt + (σ.1 16).toInt).toNat (14 : Int32))) rfl rfl) (Eq.trans (b := (vp_updL (σ.2.2.1 12) ((σ.1 15).toInt + (σ.1 16).toInt).toNat (0 : Int64))) rfl rfl) (Eq.trans (b := (σ.2.1 13)) rfl rfl) (Eq.trans (b := x1) rfl rfl) (Eq.trans (b := (σ.1 15)) rfl rfl) (Eq.trans (b := n31) rfl rfl) (Eq.trans (b := n42) rfl rfl) (Eq.trans (b := (σ.1 18)) rfl rfl) (Eq.trans (b := n36) rfl rfl) (Eq.trans (b := F35) rfl rfl) (Eq.trans (b := F37) rfl rfl) (Eq.trans (b := F38) rfl rfl) (Eq.trans (b := (upd (σ.2.1 23) x46.toNatClampNeg r30)) rfl rfl) (Eq.trans (b := (upd (σ.2.1 24) x47.toNatClampNeg k0)) rfl rfl) (Eq.trans (b := (upd (σ.2.1 25) x48.toNatClampNeg (1 : Int32))) rfl rfl) (Eq.trans (b := F39) rfl rfl) (Eq.trans (b := F40) rfl rfl) (Eq.trans (b := F41) rfl rfl) (Eq.trans (b := (σ.1 29)) rfl rfl) (Eq.trans (b := (σ.2.1 30)) rfl rfl) (Eq.trans (b := (σ.2.1 31)) rfl rfl) (Eq.trans (b := (σ.2.1 32)) rfl rfl) (Eq.trans (b := (σ.1 33)) rfl rfl) (Eq.trans (b := (σ.1 34)) rfl rfl) (Eq.trans (b := (σ.1 35)) rfl rfl) (Eq.trans (b := (σ.2.1 36)) rfl rfl) (Eq.trans (b := (σ.2.1 37)) rfl rfl) (Eq.trans (b := (σ.2.1 38)) rfl rfl) (Eq.trans (b := (σ.2.1 39)) rfl rfl) (Eq.trans (b := (σ.2.1 40)) rfl rfl) (Eq.trans (b := (σ.2.1 41)) rfl rfl) (Eq.trans (b := (σ.2.1 42)) rfl rfl) (Eq.trans (b := (σ.2.1 43)) rfl rfl) (Eq.trans (b := (σ.2.1 44)) rfl rfl) (Eq.trans (b := (σ.2.1 45)) rfl rfl) (Eq.trans (b := (σ.2.1 46)) rfl rfl) (Eq.trans (b := (σ.1 47)) rfl rfl) (Eq.trans (b := (σ.2.1 48)) rfl rfl) (Eq.trans (b := (σ.1 49)) rfl rfl) (Eq.trans (b := (σ.2.1 50)) rfl rfl) (Eq.trans (b := (σ.2.1 51)) rfl rfl) (Eq.trans (b := (σ.2.2.1 52)) rfl rfl) (Eq.trans (b := (σ.2.2.1 53)) rfl rfl) (Eq.trans (b := (σ.2.2.2)) rfl rfl) (Eq.trans (b := (σ.1 55)) rfl rfl) (Eq.trans (b := (σ.1 56)) rfl rfl) (Eq.trans (b := (σ.1 57)) rfl rfl) (Eq.trans (b := (σ.2.1 58)) rfl rfl) (Eq.trans (b := (σ.1 59)) rfl rfl)
        exact r_retv C ⟨x1, (upd (σ.2.1 11) ((σ.1 15).toInt + (σ.1 16).toInt).toNat (14 : Int32)), (vp_updL (σ.2.2.1 12) ((σ.1 15).toInt + (σ.1 16).toInt).toNat (0 : Int64)), n31, n36, (σ.1 29), (σ.2.1 31), (σ.2.1 30), (σ.2.1 32), F37, F38, F35, (upd (σ.2.1 23) x46.toNatClampNeg r30), (upd (σ.2.1 24) x47.toNatClampNeg k0), (upd (σ.2.1 25) x48.toNatClampNeg (1 : Int32)), F39, F40, F41, n42, (σ.1 33), (σ.1 34), n43, n44⟩ (v_call_29 σ k0 x1 n31 r30 F35 n36 F37 F38 F40 F41 n42 n43 x46 x47 x48 hpre_0 hpre_1 hpre_2 hpre_3 hpre_4 hpre_5 hpre_6 hpre_7 ex1 tx1 hr30_0 hr30_1 hr32 hr34 c45 ex46 tx46 ex47 tx47 ex48 tx48) hP hS dX12_call_129
    · have c33 : ¬ r32.toInt = 0 := by have h := z_ne c33; rw [show (0 : Int32).toInt = 0 from by decide +kernel] at h; exact h
      have hr32v : r32.toInt = 1 := hr32.elim (fun h9 => absurd h9.1 c33) (fun h9 => h9.1)
      have hr32 : ((σ.2.1 4) x1.toNatClampNeg).toInt = 5 ∧ ((σ.2.2.1 6) x1.toNatClampNeg).toInt = (41 : Int32).toInt := bq_t hr32 c33
      obtain ⟨hr32_0, hr32_1⟩ := hr32
      refine lv_aload_n hx hb dX12_call_36 rfl (lv_at hl 1 rfl) ?_
      refine lv_dup hx hb dX12_call_37 rfl ?_
      refine rg_14 (v := x1) C hP rfl wm_62 dX12_call_38 ?_
      refine lv_iconst (v := 1) hx hb dX12_call_41 (by decide +kernel) ?_
      refine lv_iadd hx hb dX12_call_42 ?_
      refine lv_topi (fun x49 ex49 => ?_)
      have tx49 : x49.toInt = x1.toInt + 1 := (v_call_30 σ x1 n31 r30 x49 hpre_0 hpre_1 hpre_2 hpre_4 hpre_5 ex1 tx1 hr30_0 hr30_1 hr32_0 hr32_1 ex49)
      refine rp_14 C hP hS wm_62 dX12_call_43 (fun H locs hP hS => ?_)
      refine lv_aload_n hx hb dX12_call_46 rfl (lv_at hl 1 rfl) ?_
      refine lv_bipush (v := 15) hx hb dX12_call_47 (by decide +kernel) ?_
      refine lv_ldc2 (v := 4) hx hb hown (hw _ wm_85) dX12_call_49 ?_
      refine lv_iload_n hx hb dX12_call_52 rfl (lv_at hl 2 rfl) ?_
      refine lv_i2l hx hb dX12_call_53 rfl ?_
      refine lv_topl (fun x50 ex50 => ?_)
      have tx50 : x50.toInt = k0.toInt := by rw [ex50]; exact Int32.toInt_toInt64 _
      refine lv_lmul hx hb dX12_call_54 ?_
      refine lv_topl (fun x51 ex51 => ?_)
      have tx51 : x51.toInt = 4 * x50.toInt := (v_call_31 k0 x50 x51 hpre_6 hpre_7 ex50 tx50 ex51)
      refine r_callVi (As := [.int 15, .long x51]) (rest := []) C hP hS hl.1 ⟨Nat.zero_le _, Nat.zero_le _⟩ (M_emit l D cy sz0 sa ad (rS (rS (rJ (rA (rS σ 14 x1) 11 (upd (σ.2.1 11) ((σ.1 15).toInt + (σ.1 16).toInt).toNat (14 : Int32))) 12 (vp_updL (σ.2.2.1 12) ((σ.1 15).toInt + (σ.1 16).toInt).toNat (0 : Int64))) 16 n31) 14 x49) H.size (15 : Int32) x51 (v_call_32 σ x1 n31 r30 x49 hpre_0 hpre_1 hpre_2 hpre_4 hpre_5 ex1 tx1 hr30_0 hr30_1 hr32_0 hr32_1 ex49 tx49)) (n := 2) ⟨wm_89, wm_64, by decide +kernel⟩ ⟨wm_90, wm_91, wm_10⟩ rfl rfl (lv_room (Nat.le_of_ble_eq_true rfl)) ⟨Nat.le_of_ble_eq_true rfl, Nat.le_of_ble_eq_true rfl⟩ dX12_call_55 (fun r52 u H locs hr52 hP hS => ?_)
      obtain ⟨n53, rfl⟩ : ∃ z, z = u := ⟨_, rfl⟩
      have hr52 : n53.toInt = n31.toInt + 1 ∧ r52.toInt = (σ.1 15).toInt + n31.toInt := hr52
      obtain ⟨hr52_0, hr52_1⟩ := hr52
      have hP : RP D cy ad (rS (rJ (rA (rS (rS (rJ (rA (rS σ 14 x1) 11 (upd (σ.2.1 11) ((σ.1 15).toInt + (σ.1 16).toInt).toNat (14 : Int32))) 12 (vp_updL (σ.2.2.1 12) ((σ.1 15).toInt + (σ.1 16).toInt).toNat (0 : Int64))) 16 n31) 14 x49) 11 (upd (upd (σ.2.1 11) ((σ.1 15).toInt + (σ.1 16).toInt).toNat (14 : Int32)) ((σ.1 15).toInt + n31.toInt).toNat (15 : Int32))) 12 (vp_updL (vp_updL (σ.2.2.1 12) ((σ.1 15).toInt + (σ.1 16).toInt).toNat (0 : Int64)) ((σ.1 15).toInt + n31.toInt).toNat x51)) 16 n53) H := hP
      refine lv_pop hx hb dX12_call_58 rfl ?_
      refine lv_aload_n hx hb dX12_call_59 rfl (lv_at hl 1 rfl) ?_
      refine rg_12 C hP wm_68 dX12_call_60 ?_
      refine lv_iload_n hx hb dX12_call_63 rfl (lv_at hl 0 rfl) ?_
      refine lv_aload_n hx hb dX12_call_64 rfl (lv_at hl 1 rfl) ?_
      refine rg_15 (v := (σ.1 15)) C hP rfl wm_66 dX12_call_65 ?_
      refine lv_aload_n hx hb dX12_call_68 rfl (lv_at hl 1 rfl) ?_
      refine rg_16 (v := n53) C hP rfl wm_67 dX12_call_69 ?_
      refine lv_iadd hx hb dX12_call_72 ?_
      refine lv_topi (fun x54 ex54 => ?_)
      have tx54 : x54.toInt = (σ.1 15).toInt + n53.toInt := (v_call_33 σ x1 n31 r30 x49 n53 r52 x54 hpre_0 hpre_1 hpre_2 hpre_4 hpre_5 ex1 tx1 hr30_0 hr30_1 hr32_0 hr32_1 ex49 tx49 hr52_0 hr52_1 ex54)
      refine lv_i2l hx hb dX12_call_73 rfl ?_
      refine lv_topl (fun x55 ex55 => ?_)
      have tx55 : x55.toInt = x54.toInt := by rw [ex55]; exact Int32.toInt_toInt64 _
      refine rw_12 (f := (vp_updL (vp_updL (σ.2.2.1 12) ((σ.1 15).toInt + (σ.1 16).toInt).toNat (0 : Int64)) ((σ.1 15).toInt + n31.toInt).toNat x51)) C hP hS rfl (v_call_34 σ k0 x1 n31 r30 x49 x50 x51 n53 r52 x54 x55 hpre_0 hpre_1 hpre_2 hpre_4 hpre_5 hpre_6 hpre_7 ex1 tx1 hr30_0 hr30_1 hr32_0 hr32_1 ex49 tx49 ex50 tx50 ex51 tx51 hr52_0 hr52_1 ex54 tx54 ex55 tx55) dX12_call_74 (fun H locs hP hS => ?_)
      refine lv_aload_n hx hb dX12_call_75 rfl (lv_at hl 1 rfl) ?_
      refine lv_iconst (v := 0) hx hb dX12_call_76 (by decide +kernel) ?_
      refine r_callVv (As := [.int 0]) (rest := []) C hP hS hl.1 ⟨Nat.zero_le _, Nat.zero_le _⟩ (M_ready l D cy sz0 sa ad (rJ (rS (rJ (rA (rS (rS (rJ (rA (rS σ 14 x1) 11 (upd (σ.2.1 11) ((σ.1 15).toInt + (σ.1 16).toInt).toNat (14 : Int32))) 12 (vp_updL (σ.2.2.1 12) ((σ.1 15).toInt + (σ.1 16).toInt).toNat (0 : Int64))) 16 n31) 14 x49) 11 (upd (upd (σ.2.1 11) ((σ.1 15).toInt + (σ.1 16).toInt).toNat (14 : Int32)) ((σ.1 15).toInt + n31.toInt).toNat (15 : Int32))) 12 (vp_updL (vp_updL (σ.2.2.1 12) ((σ.1 15).toInt + (σ.1 16).toInt).toNat (0 : Int64)) ((σ.1 15).toInt + n31.toInt).toNat x51)) 16 n53) 12 (vp_updL (vp_updL (vp_updL (σ.2.2.1 12) ((σ.1 15).toInt + (σ.1 16).toInt).toNat (0 : Int64)) ((σ.1 15).toInt + n31.toInt).toNat x51) r30.toNatClampNeg x55)) H.size (0 : Int32) (v_call_35 σ k0 x1 n31 r30 x49 x50 x51 n53 r52 x54 x55 hpre_0 hpre_1 hpre_2 hpre_4 hpre_5 hpre_6 hpre_7 ex1 tx1 hr30_0 hr30_1 hr32_0 hr32_1 ex49 tx49 ex50 tx50 ex51 tx51 hr52_0 hr52_1 ex54 tx54 ex55 tx55)) (n := 1) ⟨wm_95, wm_83, by decide +kernel⟩ ⟨wm_96, wm_97, wm_10⟩ rfl rfl (lv_room (Nat.le_of_ble_eq_true rfl)) ⟨Nat.le_of_ble_eq_true rfl, Nat.le_of_ble_eq_true rfl⟩ dX12_call_77 (fun u H locs hr56 hP hS => ?_)
      have hr56 : True := hr56
      have hP : RP D cy ad (rS (rA (rJ (rS (rJ (rA (rS (rS (rJ (rA (rS σ 14 x1) 11 (upd (σ.2.1 11) ((σ.1 15).toInt + (σ.1 16).toInt).toNat (14 : Int32))) 12 (vp_updL (σ.2.2.1 12) ((σ.1 15).toInt + (σ.1 16).toInt).toNat (0 : Int64))) 16 n31) 14 x49) 11 (upd (upd (σ.2.1 11) ((σ.1 15).toInt + (σ.1 16).toInt).toNat (14 : Int32)) ((σ.1 15).toInt + n31.toInt).toNat (15 : Int32))) 12 (vp_updL (vp_updL (σ.2.2.1 12) ((σ.1 15).toInt + (σ.1 16).toInt).toNat (0 : Int64)) ((σ.1 15).toInt + n31.toInt).toNat x51)) 16 n53) 12 (vp_updL (vp_updL (vp_updL (σ.2.2.1 12) ((σ.1 15).toInt + (σ.1 16).toInt).toNat (0 : Int64)) ((σ.1 15).toInt + n31.toInt).toNat x51) r30.toNatClampNeg x55)) 28 (upd (σ.2.1 28) ((σ.1 19).toInt - 1).toNat (0 : Int32))) 17 (0 : Int32)) H := hP
      have hP : RP D cy ad (rS (rS (rS (rS (rS (rA (rA (rA (rA (rA (rA (rA (rA (rA (rA (rA (rA (rS (rS (rS (rJ (rA (rS σ 14 x49) 11 (upd (upd (σ.2.1 11) ((σ.1 15).toInt + (σ.1 16).toInt).toNat (14 : Int32)) ((σ.1 15).toInt + n31.toInt).toNat (15 : Int32))) 12 (vp_updL (vp_updL (vp_updL (σ.2.2.1 12) ((σ.1 15).toInt + (σ.1 16).toInt).toNat (0 : Int64)) ((σ.1 15).toInt + n31.toInt).toNat x51) r30.toNatClampNeg x55)) 16 n53) 19 (σ.1 19)) 29 (σ.1 29)) 31 (σ.2.1 31)) 30 (σ.2.1 30)) 32 (σ.2.1 32)) 21 (σ.2.1 21)) 22 (σ.2.1 22)) 20 (σ.2.1 20)) 23 (σ.2.1 23)) 24 (σ.2.1 24)) 25 (σ.2.1 25)) 26 (σ.2.1 26)) 27 (σ.2.1 27)) 28 (upd (σ.2.1 28) ((σ.1 19).toInt - 1).toNat (0 : Int32))) 17 (0 : Int32)) 33 (σ.1 33)) 34 (σ.1 34)) 8 (σ.1 8)) 9 (σ.1 9)) H := RP.cong hP (Eq.trans (b := (σ.1 0)) rfl rfl) (Eq.trans (b := (σ.1 1)) rfl rfl) (Eq.trans (b := (σ.2.1 2)) rfl rfl) (Eq.trans (b := (σ.1 3)) rfl rfl) (Eq.trans (b := (σ.2.1 4)) rfl rfl) (Eq.trans (b := (σ.2.1 5)) rfl rfl) (Eq.trans (b := (σ.2.2.1 6)) rfl rfl) (Eq.trans (b := (σ.2.1 7)) rfl rfl) (Eq.trans (b := (σ.1 8)) rfl rfl) (Eq.trans (b := (σ.1 9)) rfl rfl) (Eq.trans (b := (σ.1 10)) rfl rfl) (Eq.trans (b := (upd (upd (σ.2.1 11) ((σ.1 15).toInt + (σ.1 16).toInt).toNat (14 : Int32)) ((σ.1 15).toInt + n31.toInt).toNat (15 : Int32))) rfl rfl) (Eq.trans (b := (vp_updL (vp_updL (vp_updL (σ.2.2.1 12) ((σ.1 15).toInt + (σ.1 16).toInt).toNat (0 : Int64)) ((σ.1 15).toInt + n31.toInt).toNat x51) r30.toNatClampNeg x55)) rfl rfl) (Eq.trans (b := (σ.2.1 13)) rfl rfl) (Eq.trans (b := x49) rfl rfl) (Eq.trans (b := (σ.1 15)) rfl rfl) (Eq.trans (b := n53) rfl rfl) (Eq.trans (b := (0 : Int32)) rfl rfl) (Eq.trans (b := (σ.1 18)) rfl rfl) (Eq.trans (b := (σ.1 19)) rfl rfl) (Eq.trans (b := (σ.2.1 20)) rfl rfl) (Eq.trans (b := (σ.2.1 21)) rfl rfl) (Eq.trans (b := (σ.2.1 22)) rfl rfl) (Eq.trans (b := (σ.2.1 23)) rfl rfl) (Eq.trans (b := (σ.2.1 24)) rfl rfl) (Eq.trans (b := (σ.2.1 25)) rfl rfl) (Eq.trans (b := (σ.2.1 26)) rfl rfl) (Eq.trans (b := (σ.2.1 27)) rfl rfl) (Eq.trans (b := (upd (σ.2.1 28) ((σ.1 19).toInt - 1).toNat (0 : Int32))) rfl rfl) (Eq.trans (b := (σ.1 29)) rfl rfl) (Eq.trans (b := (σ.2.1 30)) rfl rfl) (Eq.trans (b := (σ.2.1 31)) rfl rfl) (Eq.trans (b := (σ.2.1 32)) rfl rfl) (Eq.trans (b := (σ.1 33)) rfl rfl) (Eq.trans (b := (σ.1 34)) rfl rfl) (Eq.trans (b := (σ.1 35)) rfl rfl) (Eq.trans (b := (σ.2.1 36)) rfl rfl) (Eq.trans (b := (σ.2.1 37)) rfl rfl) (Eq.trans (b := (σ.2.1 38)) rfl rfl) (Eq.trans (b := (σ.2.1 39)) rfl rfl) (Eq.trans (b := (σ.2.1 40)) rfl rfl) (Eq.trans (b := (σ.2.1 41)) rfl rfl) (Eq.trans (b := (σ.2.1 42)) rfl rfl) (Eq.trans (b := (σ.2.1 43)) rfl rfl) (Eq.trans (b := (σ.2.1 44)) rfl rfl) (Eq.trans (b := (σ.2.1 45)) rfl rfl) (Eq.trans (b := (σ.2.1 46)) rfl rfl) (Eq.trans (b := (σ.1 47)) rfl rfl) (Eq.trans (b := (σ.2.1 48)) rfl rfl) (Eq.trans (b := (σ.1 49)) rfl rfl) (Eq.trans (b := (σ.2.1 50)) rfl rfl) (Eq.trans (b := (σ.2.1 51)) rfl rfl) (Eq.trans (b := (σ.2.2.1 52)) rfl rfl) (Eq.trans (b := (σ.2.2.1 53)) rfl rfl) (Eq.trans (b := (σ.2.2.2)) rfl rfl) (Eq.trans (b := (σ.1 55)) rfl rfl) (Eq.trans (b := (σ.1 56)) rfl rfl) (Eq.trans (b := (σ.1 57)) rfl rfl) (Eq.trans (b := (σ.2.1 58)) rfl rfl) (Eq.trans (b := (σ.1 59)) rfl rfl)
      exact r_retv C ⟨x49, (upd (upd (σ.2.1 11) ((σ.1 15).toInt + (σ.1 16).toInt).toNat (14 : Int32)) ((σ.1 15).toInt + n31.toInt).toNat (15 : Int32)), (vp_updL (vp_updL (vp_updL (σ.2.2.1 12) ((σ.1 15).toInt + (σ.1 16).toInt).toNat (0 : Int64)) ((σ.1 15).toInt + n31.toInt).toNat x51) r30.toNatClampNeg x55), n53, (σ.1 19), (σ.1 29), (σ.2.1 31), (σ.2.1 30), (σ.2.1 32), (σ.2.1 21), (σ.2.1 22), (σ.2.1 20), (σ.2.1 23), (σ.2.1 24), (σ.2.1 25), (σ.2.1 26), (σ.2.1 27), (upd (σ.2.1 28) ((σ.1 19).toInt - 1).toNat (0 : Int32)), (0 : Int32), (σ.1 33), (σ.1 34), (σ.1 8), (σ.1 9)⟩ (v_call_36 σ k0 x1 n31 r30 x49 x50 x51 n53 r52 x54 x55 hpre_0 hpre_1 hpre_2 hpre_3 hpre_4 hpre_5 hpre_6 hpre_7 ex1 tx1 hr30_0 hr30_1 hr32_0 hr32_1 ex49 tx49 ex50 tx50 ex51 tx51 hr52_0 hr52_1 ex54 tx54 ex55 tx55) hP hS dX12_call_80
