-- pre:misfit@47 @47
theorem v_assign_1 (σ : RS) (x1 : Int32) (hpre_0 : TKI (σ.2.1 4) (σ.2.2.1 6) (σ.2.1 7) (σ.1 3) (σ.1 14)) (hpre_1 : 0 ≤ (σ.1 15).toInt) (hpre_2 : (σ.1 15).toInt ≤ 3510) (hpre_4 : PQ1 1 0 (σ.1 14) (σ.1 15) (σ.1 16) (σ.1 19) (σ.1 29) (σ.2.1 11) (σ.2.2.1 12) (σ.2.1 31) (σ.2.1 30) (σ.2.1 32) (σ.2.1 21) (σ.2.1 22) (σ.2.1 20) (σ.2.1 23) (σ.2.1 24) (σ.2.1 25) (σ.2.1 27) (σ.1 33) (σ.1 34) (σ.2.1 28)) (hpre_5 : (σ.1 19).toInt = 1) (hpre_6 : (σ.1 29).toInt = 0) (ex1 : x1 = (σ.2.1 20) 0) (tx1 : x1.toInt = ((σ.2.1 20) 0).toInt) (c2 : ¬ x1.toInt = 0) : 0 ≤ (σ.1 14).toInt ∧ (σ.1 14).toInt ≤ 41 := by
  have bb_hpre_0 := hpre_0.b
  have bb_hpre_4 := hpre_4.z.b
  have kk_hpre_0 := hpre_0.in
  refine ⟨?_, ?_⟩ <;> first | assumption | omega | (subst_vars; omega) | trivial
-- post @50
theorem v_assign_2 (σ : RS) (x1 : Int32) (n5 : Int32) (hpre_0 : TKI (σ.2.1 4) (σ.2.2.1 6) (σ.2.1 7) (σ.1 3) (σ.1 14)) (hpre_1 : 0 ≤ (σ.1 15).toInt) (hpre_2 : (σ.1 15).toInt ≤ 3510) (hpre_3 : (σ.1 8).toInt = 0) (hpre_4 : PQ1 1 0 (σ.1 14) (σ.1 15) (σ.1 16) (σ.1 19) (σ.1 29) (σ.2.1 11) (σ.2.2.1 12) (σ.2.1 31) (σ.2.1 30) (σ.2.1 32) (σ.2.1 21) (σ.2.1 22) (σ.2.1 20) (σ.2.1 23) (σ.2.1 24) (σ.2.1 25) (σ.2.1 27) (σ.1 33) (σ.1 34) (σ.2.1 28)) (hpre_5 : (σ.1 19).toInt = 1) (hpre_6 : (σ.1 29).toInt = 0) (ex1 : x1 = (σ.2.1 20) 0) (tx1 : x1.toInt = ((σ.2.1 20) 0).toInt) (c2 : ¬ x1.toInt = 0) (hr4 : (σ.1 8).toInt = 0 → n5.toInt = 2) : Keep (σ.1 15).toInt (σ.2.1 11) (σ.2.1 11) (σ.2.2.1 12) (σ.2.2.1 12) ∧ 0 ≤ n5.toInt ∧ n5.toInt ≤ 3 ∧ (n5.toInt = 0 → TKI (σ.2.1 4) (σ.2.2.1 6) (σ.2.1 7) (σ.1 3) (σ.1 14) ∧ LI (σ.1 17) (σ.1 14) (σ.1 15) (σ.1 16) (σ.1 19) (σ.1 29) (σ.2.1 11) (σ.2.2.1 12) (σ.2.1 31) (σ.2.1 30) (σ.2.1 32) (σ.2.1 21) (σ.2.1 22) (σ.2.1 20) (σ.2.1 23) (σ.2.1 24) (σ.2.1 25) (σ.2.1 27) (σ.1 33) (σ.1 34) (σ.2.1 28) ∧ 2 * (σ.1 14).toInt - (σ.1 19).toInt < 2 * (σ.1 14).toInt - (σ.1 19).toInt) := by
  have bb_hpre_0 := hpre_0.b
  have bb_hpre_4 := hpre_4.z.b
  have kk_hpre_0 := hpre_0.in
  exact ⟨Keep.rf, by omega, by omega, fun h => by omega⟩
-- pre:isSign@12 @12
theorem v_assign_3 (σ : RS) (x1 : Int32) (hpre_0 : TKI (σ.2.1 4) (σ.2.2.1 6) (σ.2.1 7) (σ.1 3) (σ.1 14)) (hpre_1 : 0 ≤ (σ.1 15).toInt) (hpre_2 : (σ.1 15).toInt ≤ 3510) (hpre_4 : PQ1 1 0 (σ.1 14) (σ.1 15) (σ.1 16) (σ.1 19) (σ.1 29) (σ.2.1 11) (σ.2.2.1 12) (σ.2.1 31) (σ.2.1 30) (σ.2.1 32) (σ.2.1 21) (σ.2.1 22) (σ.2.1 20) (σ.2.1 23) (σ.2.1 24) (σ.2.1 25) (σ.2.1 27) (σ.1 33) (σ.1 34) (σ.2.1 28)) (hpre_5 : (σ.1 19).toInt = 1) (hpre_6 : (σ.1 29).toInt = 0) (ex1 : x1 = (σ.2.1 20) 0) (tx1 : x1.toInt = ((σ.2.1 20) 0).toInt) (c2 : x1.toInt = 0) : 0 ≤ (σ.1 14).toInt ∧ (σ.1 14).toInt ≤ 41 := by
  have bb_hpre_0 := hpre_0.b
  have bb_hpre_4 := hpre_4.z.b
  have kk_hpre_0 := hpre_0.in
  refine ⟨?_, ?_⟩ <;> first | assumption | omega | (subst_vars; omega) | trivial
-- pre:misfit@47 @47
theorem v_assign_4 (σ : RS) (x1 : Int32) (hpre_0 : TKI (σ.2.1 4) (σ.2.2.1 6) (σ.2.1 7) (σ.1 3) (σ.1 14)) (hpre_1 : 0 ≤ (σ.1 15).toInt) (hpre_2 : (σ.1 15).toInt ≤ 3510) (hpre_4 : PQ1 1 0 (σ.1 14) (σ.1 15) (σ.1 16) (σ.1 19) (σ.1 29) (σ.2.1 11) (σ.2.2.1 12) (σ.2.1 31) (σ.2.1 30) (σ.2.1 32) (σ.2.1 21) (σ.2.1 22) (σ.2.1 20) (σ.2.1 23) (σ.2.1 24) (σ.2.1 25) (σ.2.1 27) (σ.1 33) (σ.1 34) (σ.2.1 28)) (hpre_5 : (σ.1 19).toInt = 1) (hpre_6 : (σ.1 29).toInt = 0) (ex1 : x1 = (σ.2.1 20) 0) (tx1 : x1.toInt = ((σ.2.1 20) 0).toInt) (c2 : x1.toInt = 0) (hr7 : ¬ (((σ.2.1 4) (σ.1 14).toNatClampNeg).toInt = 5 ∧ ((σ.2.2.1 6) (σ.1 14).toNatClampNeg).toInt = (61 : Int32).toInt)) : 0 ≤ (σ.1 14).toInt ∧ (σ.1 14).toInt ≤ 41 := by
  have q61 : (61 : Int32).toInt = 61 := by decide +kernel
  have bb_hpre_0 := hpre_0.b
  have bb_hpre_4 := hpre_4.z.b
  have kk_hpre_0 := hpre_0.in
  refine ⟨?_, ?_⟩ <;> first | assumption | omega | (subst_vars; omega) | trivial
-- post @50
theorem v_assign_5 (σ : RS) (x1 : Int32) (n11 : Int32) (hpre_0 : TKI (σ.2.1 4) (σ.2.2.1 6) (σ.2.1 7) (σ.1 3) (σ.1 14)) (hpre_1 : 0 ≤ (σ.1 15).toInt) (hpre_2 : (σ.1 15).toInt ≤ 3510) (hpre_3 : (σ.1 8).toInt = 0) (hpre_4 : PQ1 1 0 (σ.1 14) (σ.1 15) (σ.1 16) (σ.1 19) (σ.1 29) (σ.2.1 11) (σ.2.2.1 12) (σ.2.1 31) (σ.2.1 30) (σ.2.1 32) (σ.2.1 21) (σ.2.1 22) (σ.2.1 20) (σ.2.1 23) (σ.2.1 24) (σ.2.1 25) (σ.2.1 27) (σ.1 33) (σ.1 34) (σ.2.1 28)) (hpre_5 : (σ.1 19).toInt = 1) (hpre_6 : (σ.1 29).toInt = 0) (ex1 : x1 = (σ.2.1 20) 0) (tx1 : x1.toInt = ((σ.2.1 20) 0).toInt) (c2 : x1.toInt = 0) (hr7 : ¬ (((σ.2.1 4) (σ.1 14).toNatClampNeg).toInt = 5 ∧ ((σ.2.2.1 6) (σ.1 14).toNatClampNeg).toInt = (61 : Int32).toInt)) (hr10 : (σ.1 8).toInt = 0 → n11.toInt = 2) : Keep (σ.1 15).toInt (σ.2.1 11) (σ.2.1 11) (σ.2.2.1 12) (σ.2.2.1 12) ∧ 0 ≤ n11.toInt ∧ n11.toInt ≤ 3 ∧ (n11.toInt = 0 → TKI (σ.2.1 4) (σ.2.2.1 6) (σ.2.1 7) (σ.1 3) (σ.1 14) ∧ LI (σ.1 17) (σ.1 14) (σ.1 15) (σ.1 16) (σ.1 19) (σ.1 29) (σ.2.1 11) (σ.2.2.1 12) (σ.2.1 31) (σ.2.1 30) (σ.2.1 32) (σ.2.1 21) (σ.2.1 22) (σ.2.1 20) (σ.2.1 23) (σ.2.1 24) (σ.2.1 25) (σ.2.1 27) (σ.1 33) (σ.1 34) (σ.2.1 28) ∧ 2 * (σ.1 14).toInt - (σ.1 19).toInt < 2 * (σ.1 14).toInt - (σ.1 19).toInt) := by
  have q61 : (61 : Int32).toInt = 61 := by decide +kernel
  have bb_hpre_0 := hpre_0.b
  have bb_hpre_4 := hpre_4.z.b
  have kk_hpre_0 := hpre_0.in
  exact ⟨Keep.rf, by omega, by omega, fun h => by omega⟩
-- pre:misfit@47 @47
theorem v_assign_6 (σ : RS) (x1 : Int32) (x13 : Int32) (hpre_0 : TKI (σ.2.1 4) (σ.2.2.1 6) (σ.2.1 7) (σ.1 3) (σ.1 14)) (hpre_1 : 0 ≤ (σ.1 15).toInt) (hpre_2 : (σ.1 15).toInt ≤ 3510) (hpre_4 : PQ1 1 0 (σ.1 14) (σ.1 15) (σ.1 16) (σ.1 19) (σ.1 29) (σ.2.1 11) (σ.2.2.1 12) (σ.2.1 31) (σ.2.1 30) (σ.2.1 32) (σ.2.1 21) (σ.2.1 22) (σ.2.1 20) (σ.2.1 23) (σ.2.1 24) (σ.2.1 25) (σ.2.1 27) (σ.1 33) (σ.1 34) (σ.2.1 28)) (hpre_5 : (σ.1 19).toInt = 1) (hpre_6 : (σ.1 29).toInt = 0) (ex1 : x1 = (σ.2.1 20) 0) (tx1 : x1.toInt = ((σ.2.1 20) 0).toInt) (c2 : x1.toInt = 0) (hr7_0 : ((σ.2.1 4) (σ.1 14).toNatClampNeg).toInt = 5) (hr7_1 : ((σ.2.2.1 6) (σ.1 14).toNatClampNeg).toInt = (61 : Int32).toInt) (ex13 : x13 = (σ.2.1 27) 0) (tx13 : x13.toInt = ((σ.2.1 27) 0).toInt) (c14 : x13.toInt = 0) : 0 ≤ (σ.1 14).toInt ∧ (σ.1 14).toInt ≤ 41 := by
  have q61 : (61 : Int32).toInt = 61 := by decide +kernel
  have bb_hpre_0 := hpre_0.b
  have bb_hpre_4 := hpre_4.z.b
  have kk_hpre_0 := hpre_0.in
  refine ⟨?_, ?_⟩ <;> first | assumption | omega | (subst_vars; omega) | trivial
-- post @50
theorem v_assign_7 (σ : RS) (x1 : Int32) (x13 : Int32) (n17 : Int32) (hpre_0 : TKI (σ.2.1 4) (σ.2.2.1 6) (σ.2.1 7) (σ.1 3) (σ.1 14)) (hpre_1 : 0 ≤ (σ.1 15).toInt) (hpre_2 : (σ.1 15).toInt ≤ 3510) (hpre_3 : (σ.1 8).toInt = 0) (hpre_4 : PQ1 1 0 (σ.1 14) (σ.1 15) (σ.1 16) (σ.1 19) (σ.1 29) (σ.2.1 11) (σ.2.2.1 12) (σ.2.1 31) (σ.2.1 30) (σ.2.1 32) (σ.2.1 21) (σ.2.1 22) (σ.2.1 20) (σ.2.1 23) (σ.2.1 24) (σ.2.1 25) (σ.2.1 27) (σ.1 33) (σ.1 34) (σ.2.1 28)) (hpre_5 : (σ.1 19).toInt = 1) (hpre_6 : (σ.1 29).toInt = 0) (ex1 : x1 = (σ.2.1 20) 0) (tx1 : x1.toInt = ((σ.2.1 20) 0).toInt) (c2 : x1.toInt = 0) (hr7_0 : ((σ.2.1 4) (σ.1 14).toNatClampNeg).toInt = 5) (hr7_1 : ((σ.2.2.1 6) (σ.1 14).toNatClampNeg).toInt = (61 : Int32).toInt) (ex13 : x13 = (σ.2.1 27) 0) (tx13 : x13.toInt = ((σ.2.1 27) 0).toInt) (c14 : x13.toInt = 0) (hr16 : (σ.1 8).toInt = 0 → n17.toInt = 2) : Keep (σ.1 15).toInt (σ.2.1 11) (σ.2.1 11) (σ.2.2.1 12) (σ.2.2.1 12) ∧ 0 ≤ n17.toInt ∧ n17.toInt ≤ 3 ∧ (n17.toInt = 0 → TKI (σ.2.1 4) (σ.2.2.1 6) (σ.2.1 7) (σ.1 3) (σ.1 14) ∧ LI (σ.1 17) (σ.1 14) (σ.1 15) (σ.1 16) (σ.1 19) (σ.1 29) (σ.2.1 11) (σ.2.2.1 12) (σ.2.1 31) (σ.2.1 30) (σ.2.1 32) (σ.2.1 21) (σ.2.1 22) (σ.2.1 20) (σ.2.1 23) (σ.2.1 24) (σ.2.1 25) (σ.2.1 27) (σ.1 33) (σ.1 34) (σ.2.1 28) ∧ 2 * (σ.1 14).toInt - (σ.1 19).toInt < 2 * (σ.1 14).toInt - (σ.1 19).toInt) := by
  have q61 : (61 : Int32).toInt = 61 := by decide +kernel
  have bb_hpre_0 := hpre_0.b
  have bb_hpre_4 := hpre_4.z.b
  have kk_hpre_0 := hpre_0.in
  exact ⟨Keep.rf, by omega, by omega, fun h => by omega⟩
-- pre:misfit@47 @47
theorem v_assign_8 (σ : RS) (x1 : Int32) (x13 : Int32) (x19 : Int32) (hpre_0 : TKI (σ.2.1 4) (σ.2.2.1 6) (σ.2.1 7) (σ.1 3) (σ.1 14)) (hpre_1 : 0 ≤ (σ.1 15).toInt) (hpre_2 : (σ.1 15).toInt ≤ 3510) (hpre_4 : PQ1 1 0 (σ.1 14) (σ.1 15) (σ.1 16) (σ.1 19) (σ.1 29) (σ.2.1 11) (σ.2.2.1 12) (σ.2.1 31) (σ.2.1 30) (σ.2.1 32) (σ.2.1 21) (σ.2.1 22) (σ.2.1 20) (σ.2.1 23) (σ.2.1 24) (σ.2.1 25) (σ.2.1 27) (σ.1 33) (σ.1 34) (σ.2.1 28)) (hpre_5 : (σ.1 19).toInt = 1) (hpre_6 : (σ.1 29).toInt = 0) (ex1 : x1 = (σ.2.1 20) 0) (tx1 : x1.toInt = ((σ.2.1 20) 0).toInt) (c2 : x1.toInt = 0) (hr7_0 : ((σ.2.1 4) (σ.1 14).toNatClampNeg).toInt = 5) (hr7_1 : ((σ.2.2.1 6) (σ.1 14).toNatClampNeg).toInt = (61 : Int32).toInt) (ex13 : x13 = (σ.2.1 27) 0) (tx13 : x13.toInt = ((σ.2.1 27) 0).toInt) (c14 : ¬ x13.toInt = 0) (ex19 : x19 = (σ.2.1 28) 0) (tx19 : x19.toInt = ((σ.2.1 28) 0).toInt) (c20 : x19.toInt = 0) : 0 ≤ (σ.1 14).toInt ∧ (σ.1 14).toInt ≤ 41 := by
  have q61 : (61 : Int32).toInt = 61 := by decide +kernel
  have bb_hpre_0 := hpre_0.b
  have bb_hpre_4 := hpre_4.z.b
  have kk_hpre_0 := hpre_0.in
  refine ⟨?_, ?_⟩ <;> first | assumption | omega | (subst_vars; omega) | trivial
-- post @50
theorem v_assign_9 (σ : RS) (x1 : Int32) (x13 : Int32) (x19 : Int32) (n23 : Int32) (hpre_0 : TKI (σ.2.1 4) (σ.2.2.1 6) (σ.2.1 7) (σ.1 3) (σ.1 14)) (hpre_1 : 0 ≤ (σ.1 15).toInt) (hpre_2 : (σ.1 15).toInt ≤ 3510) (hpre_3 : (σ.1 8).toInt = 0) (hpre_4 : PQ1 1 0 (σ.1 14) (σ.1 15) (σ.1 16) (σ.1 19) (σ.1 29) (σ.2.1 11) (σ.2.2.1 12) (σ.2.1 31) (σ.2.1 30) (σ.2.1 32) (σ.2.1 21) (σ.2.1 22) (σ.2.1 20) (σ.2.1 23) (σ.2.1 24) (σ.2.1 25) (σ.2.1 27) (σ.1 33) (σ.1 34) (σ.2.1 28)) (hpre_5 : (σ.1 19).toInt = 1) (hpre_6 : (σ.1 29).toInt = 0) (ex1 : x1 = (σ.2.1 20) 0) (tx1 : x1.toInt = ((σ.2.1 20) 0).toInt) (c2 : x1.toInt = 0) (hr7_0 : ((σ.2.1 4) (σ.1 14).toNatClampNeg).toInt = 5) (hr7_1 : ((σ.2.2.1 6) (σ.1 14).toNatClampNeg).toInt = (61 : Int32).toInt) (ex13 : x13 = (σ.2.1 27) 0) (tx13 : x13.toInt = ((σ.2.1 27) 0).toInt) (c14 : ¬ x13.toInt = 0) (ex19 : x19 = (σ.2.1 28) 0) (tx19 : x19.toInt = ((σ.2.1 28) 0).toInt) (c20 : x19.toInt = 0) (hr22 : (σ.1 8).toInt = 0 → n23.toInt = 2) : Keep (σ.1 15).toInt (σ.2.1 11) (σ.2.1 11) (σ.2.2.1 12) (σ.2.2.1 12) ∧ 0 ≤ n23.toInt ∧ n23.toInt ≤ 3 ∧ (n23.toInt = 0 → TKI (σ.2.1 4) (σ.2.2.1 6) (σ.2.1 7) (σ.1 3) (σ.1 14) ∧ LI (σ.1 17) (σ.1 14) (σ.1 15) (σ.1 16) (σ.1 19) (σ.1 29) (σ.2.1 11) (σ.2.2.1 12) (σ.2.1 31) (σ.2.1 30) (σ.2.1 32) (σ.2.1 21) (σ.2.1 22) (σ.2.1 20) (σ.2.1 23) (σ.2.1 24) (σ.2.1 25) (σ.2.1 27) (σ.1 33) (σ.1 34) (σ.2.1 28) ∧ 2 * (σ.1 14).toInt - (σ.1 19).toInt < 2 * (σ.1 14).toInt - (σ.1 19).toInt) := by
  have q61 : (61 : Int32).toInt = 61 := by decide +kernel
  have bb_hpre_0 := hpre_0.b
  have bb_hpre_4 := hpre_4.z.b
  have kk_hpre_0 := hpre_0.in
  exact ⟨Keep.rf, by omega, by omega, fun h => by omega⟩
-- nw@57 @57
theorem v_assign_10 (σ : RS) (x1 : Int32) (x13 : Int32) (x19 : Int32) (x26 : Int32) (hpre_0 : TKI (σ.2.1 4) (σ.2.2.1 6) (σ.2.1 7) (σ.1 3) (σ.1 14)) (hpre_1 : 0 ≤ (σ.1 15).toInt) (hpre_2 : (σ.1 15).toInt ≤ 3510) (hpre_4 : PQ1 1 0 (σ.1 14) (σ.1 15) (σ.1 16) (σ.1 19) (σ.1 29) (σ.2.1 11) (σ.2.2.1 12) (σ.2.1 31) (σ.2.1 30) (σ.2.1 32) (σ.2.1 21) (σ.2.1 22) (σ.2.1 20) (σ.2.1 23) (σ.2.1 24) (σ.2.1 25) (σ.2.1 27) (σ.1 33) (σ.1 34) (σ.2.1 28)) (hpre_5 : (σ.1 19).toInt = 1) (hpre_6 : (σ.1 29).toInt = 0) (ex1 : x1 = (σ.2.1 20) 0) (tx1 : x1.toInt = ((σ.2.1 20) 0).toInt) (c2 : x1.toInt = 0) (hr7_0 : ((σ.2.1 4) (σ.1 14).toNatClampNeg).toInt = 5) (hr7_1 : ((σ.2.2.1 6) (σ.1 14).toNatClampNeg).toInt = (61 : Int32).toInt) (ex13 : x13 = (σ.2.1 27) 0) (tx13 : x13.toInt = ((σ.2.1 27) 0).toInt) (c14 : ¬ x13.toInt = 0) (ex19 : x19 = (σ.2.1 28) 0) (tx19 : x19.toInt = ((σ.2.1 28) 0).toInt) (c20 : ¬ x19.toInt = 0) (ex26 : x26 = (σ.1 14) + (1 : Int32)) : x26.toInt = (σ.1 14).toInt + 1 := by
  have q1 : (1 : Int32).toInt = 1 := by decide +kernel
  have q61 : (61 : Int32).toInt = 61 := by decide +kernel
  have bb_hpre_0 := hpre_0.b
  have bb_hpre_4 := hpre_4.z.b
  have kk_hpre_0 := hpre_0.in
  have kl := PQ_last hpre_4 (by omega) (by omega) (by omega) (by omega)
  have w1 : (1 : Int32).toInt = 1 := by decide +kernel
  rw [ex26, z_add (by omega) (by omega)]; first | done | omega
-- nw@67 @67
theorem v_assign_11 (σ : RS) (x1 : Int32) (x13 : Int32) (x19 : Int32) (x26 : Int32) (x27 : Int32) (hpre_0 : TKI (σ.2.1 4) (σ.2.2.1 6) (σ.2.1 7) (σ.1 3) (σ.1 14)) (hpre_1 : 0 ≤ (σ.1 15).toInt) (hpre_2 : (σ.1 15).toInt ≤ 3510) (hpre_4 : PQ1 1 0 (σ.1 14) (σ.1 15) (σ.1 16) (σ.1 19) (σ.1 29) (σ.2.1 11) (σ.2.2.1 12) (σ.2.1 31) (σ.2.1 30) (σ.2.1 32) (σ.2.1 21) (σ.2.1 22) (σ.2.1 20) (σ.2.1 23) (σ.2.1 24) (σ.2.1 25) (σ.2.1 27) (σ.1 33) (σ.1 34) (σ.2.1 28)) (hpre_5 : (σ.1 19).toInt = 1) (hpre_6 : (σ.1 29).toInt = 0) (ex1 : x1 = (σ.2.1 20) 0) (tx1 : x1.toInt = ((σ.2.1 20) 0).toInt) (c2 : x1.toInt = 0) (hr7_0 : ((σ.2.1 4) (σ.1 14).toNatClampNeg).toInt = 5) (hr7_1 : ((σ.2.2.1 6) (σ.1 14).toNatClampNeg).toInt = (61 : Int32).toInt) (ex13 : x13 = (σ.2.1 27) 0) (tx13 : x13.toInt = ((σ.2.1 27) 0).toInt) (c14 : ¬ x13.toInt = 0) (ex19 : x19 = (σ.2.1 28) 0) (tx19 : x19.toInt = ((σ.2.1 28) 0).toInt) (c20 : ¬ x19.toInt = 0) (ex26 : x26 = (σ.1 14) + (1 : Int32)) (tx26 : x26.toInt = (σ.1 14).toInt + 1) (ex27 : x27 = (σ.1 16) - (1 : Int32)) : x27.toInt = (σ.1 16).toInt - 1 := by
  have q1 : (1 : Int32).toInt = 1 := by decide +kernel
  have q61 : (61 : Int32).toInt = 61 := by decide +kernel
  have bb_hpre_0 := hpre_0.b
  have bb_hpre_4 := hpre_4.z.b
  have kk_hpre_0 := hpre_0.in
  have kl := PQ_last hpre_4 (by omega) (by omega) (by omega) (by omega)
  have w1 : (1 : Int32).toInt = 1 := by decide +kernel
  rw [ex27, z_sub (by omega) (by omega)]; first | done | omega
-- nw@83 @83
theorem v_assign_12 (σ : RS) (x1 : Int32) (x13 : Int32) (x19 : Int32) (x26 : Int32) (x27 : Int32) (x28 : Int32) (hpre_0 : TKI (σ.2.1 4) (σ.2.2.1 6) (σ.2.1 7) (σ.1 3) (σ.1 14)) (hpre_1 : 0 ≤ (σ.1 15).toInt) (hpre_2 : (σ.1 15).toInt ≤ 3510) (hpre_4 : PQ1 1 0 (σ.1 14) (σ.1 15) (σ.1 16) (σ.1 19) (σ.1 29) (σ.2.1 11) (σ.2.2.1 12) (σ.2.1 31) (σ.2.1 30) (σ.2.1 32) (σ.2.1 21) (σ.2.1 22) (σ.2.1 20) (σ.2.1 23) (σ.2.1 24) (σ.2.1 25) (σ.2.1 27) (σ.1 33) (σ.1 34) (σ.2.1 28)) (hpre_5 : (σ.1 19).toInt = 1) (hpre_6 : (σ.1 29).toInt = 0) (ex1 : x1 = (σ.2.1 20) 0) (tx1 : x1.toInt = ((σ.2.1 20) 0).toInt) (c2 : x1.toInt = 0) (hr7_0 : ((σ.2.1 4) (σ.1 14).toNatClampNeg).toInt = 5) (hr7_1 : ((σ.2.2.1 6) (σ.1 14).toNatClampNeg).toInt = (61 : Int32).toInt) (ex13 : x13 = (σ.2.1 27) 0) (tx13 : x13.toInt = ((σ.2.1 27) 0).toInt) (c14 : ¬ x13.toInt = 0) (ex19 : x19 = (σ.2.1 28) 0) (tx19 : x19.toInt = ((σ.2.1 28) 0).toInt) (c20 : ¬ x19.toInt = 0) (ex26 : x26 = (σ.1 14) + (1 : Int32)) (tx26 : x26.toInt = (σ.1 14).toInt + 1) (ex27 : x27 = (σ.1 16) - (1 : Int32)) (tx27 : x27.toInt = (σ.1 16).toInt - 1) (ex28 : x28 = (σ.1 15) + x27) : x28.toInt = (σ.1 15).toInt + x27.toInt := by
  have q1 : (1 : Int32).toInt = 1 := by decide +kernel
  have q61 : (61 : Int32).toInt = 61 := by decide +kernel
  have bb_hpre_0 := hpre_0.b
  have bb_hpre_4 := hpre_4.z.b
  have kk_hpre_0 := hpre_0.in
  have kl := PQ_last hpre_4 (by omega) (by omega) (by omega) (by omega)
  rw [ex28, z_add (by omega) (by omega)]; first | done | omega
-- in@84 @84
theorem v_assign_13 (σ : RS) (x1 : Int32) (x13 : Int32) (x19 : Int32) (x26 : Int32) (x27 : Int32) (x28 : Int32) (hpre_0 : TKI (σ.2.1 4) (σ.2.2.1 6) (σ.2.1 7) (σ.1 3) (σ.1 14)) (hpre_1 : 0 ≤ (σ.1 15).toInt) (hpre_2 : (σ.1 15).toInt ≤ 3510) (hpre_4 : PQ1 1 0 (σ.1 14) (σ.1 15) (σ.1 16) (σ.1 19) (σ.1 29) (σ.2.1 11) (σ.2.2.1 12) (σ.2.1 31) (σ.2.1 30) (σ.2.1 32) (σ.2.1 21) (σ.2.1 22) (σ.2.1 20) (σ.2.1 23) (σ.2.1 24) (σ.2.1 25) (σ.2.1 27) (σ.1 33) (σ.1 34) (σ.2.1 28)) (hpre_5 : (σ.1 19).toInt = 1) (hpre_6 : (σ.1 29).toInt = 0) (ex1 : x1 = (σ.2.1 20) 0) (tx1 : x1.toInt = ((σ.2.1 20) 0).toInt) (c2 : x1.toInt = 0) (hr7_0 : ((σ.2.1 4) (σ.1 14).toNatClampNeg).toInt = 5) (hr7_1 : ((σ.2.2.1 6) (σ.1 14).toNatClampNeg).toInt = (61 : Int32).toInt) (ex13 : x13 = (σ.2.1 27) 0) (tx13 : x13.toInt = ((σ.2.1 27) 0).toInt) (c14 : ¬ x13.toInt = 0) (ex19 : x19 = (σ.2.1 28) 0) (tx19 : x19.toInt = ((σ.2.1 28) 0).toInt) (c20 : ¬ x19.toInt = 0) (ex26 : x26 = (σ.1 14) + (1 : Int32)) (tx26 : x26.toInt = (σ.1 14).toInt + 1) (ex27 : x27 = (σ.1 16) - (1 : Int32)) (tx27 : x27.toInt = (σ.1 16).toInt - 1) (ex28 : x28 = (σ.1 15) + x27) (tx28 : x28.toInt = (σ.1 15).toInt + x27.toInt) : vp_in x28 3600 := by
  have q1 : (1 : Int32).toInt = 1 := by decide +kernel
  have q61 : (61 : Int32).toInt = 61 := by decide +kernel
  have bb_hpre_0 := hpre_0.b
  have bb_hpre_4 := hpre_4.z.b
  have kk_hpre_0 := hpre_0.in
  have kl := PQ_last hpre_4 (by omega) (by omega) (by omega) (by omega)
  exact vp_in_iff.mpr ⟨by omega, by omega⟩
-- nw@99 @99
theorem v_assign_14 (σ : RS) (x1 : Int32) (x13 : Int32) (x19 : Int32) (x26 : Int32) (x27 : Int32) (x28 : Int32) (x29 : Int32) (x30 : Int32) (hpre_0 : TKI (σ.2.1 4) (σ.2.2.1 6) (σ.2.1 7) (σ.1 3) (σ.1 14)) (hpre_1 : 0 ≤ (σ.1 15).toInt) (hpre_2 : (σ.1 15).toInt ≤ 3510) (hpre_4 : PQ1 1 0 (σ.1 14) (σ.1 15) (σ.1 16) (σ.1 19) (σ.1 29) (σ.2.1 11) (σ.2.2.1 12) (σ.2.1 31) (σ.2.1 30) (σ.2.1 32) (σ.2.1 21) (σ.2.1 22) (σ.2.1 20) (σ.2.1 23) (σ.2.1 24) (σ.2.1 25) (σ.2.1 27) (σ.1 33) (σ.1 34) (σ.2.1 28)) (hpre_5 : (σ.1 19).toInt = 1) (hpre_6 : (σ.1 29).toInt = 0) (ex1 : x1 = (σ.2.1 20) 0) (tx1 : x1.toInt = ((σ.2.1 20) 0).toInt) (c2 : x1.toInt = 0) (hr7_0 : ((σ.2.1 4) (σ.1 14).toNatClampNeg).toInt = 5) (hr7_1 : ((σ.2.2.1 6) (σ.1 14).toNatClampNeg).toInt = (61 : Int32).toInt) (ex13 : x13 = (σ.2.1 27) 0) (tx13 : x13.toInt = ((σ.2.1 27) 0).toInt) (c14 : ¬ x13.toInt = 0) (ex19 : x19 = (σ.2.1 28) 0) (tx19 : x19.toInt = ((σ.2.1 28) 0).toInt) (c20 : ¬ x19.toInt = 0) (ex26 : x26 = (σ.1 14) + (1 : Int32)) (tx26 : x26.toInt = (σ.1 14).toInt + 1) (ex27 : x27 = (σ.1 16) - (1 : Int32)) (tx27 : x27.toInt = (σ.1 16).toInt - 1) (ex28 : x28 = (σ.1 15) + x27) (tx28 : x28.toInt = (σ.1 15).toInt + x27.toInt) (ex29 : x29 = (σ.2.1 11) x28.toNatClampNeg) (tx29 : x29.toInt = ((σ.2.1 11) ((σ.1 15).toInt + x27.toInt).toNat).toInt) (ex30 : x30 = (σ.1 15) + x27) : x30.toInt = (σ.1 15).toInt + x27.toInt := by
  have q1 : (1 : Int32).toInt = 1 := by decide +kernel
  have q61 : (61 : Int32).toInt = 61 := by decide +kernel
  have bb_hpre_0 := hpre_0.b
  have bb_hpre_4 := hpre_4.z.b
  have kk_hpre_0 := hpre_0.in
  have kl := PQ_last hpre_4 (by omega) (by omega) (by omega) (by omega)
  rw [ex30, z_add (by omega) (by omega)]; first | done | omega
-- in@100 @100
theorem v_assign_15 (σ : RS) (x1 : Int32) (x13 : Int32) (x19 : Int32) (x26 : Int32) (x27 : Int32) (x28 : Int32) (x29 : Int32) (x30 : Int32) (hpre_0 : TKI (σ.2.1 4) (σ.2.2.1 6) (σ.2.1 7) (σ.1 3) (σ.1 14)) (hpre_1 : 0 ≤ (σ.1 15).toInt) (hpre_2 : (σ.1 15).toInt ≤ 3510) (hpre_4 : PQ1 1 0 (σ.1 14) (σ.1 15) (σ.1 16) (σ.1 19) (σ.1 29) (σ.2.1 11) (σ.2.2.1 12) (σ.2.1 31) (σ.2.1 30) (σ.2.1 32) (σ.2.1 21) (σ.2.1 22) (σ.2.1 20) (σ.2.1 23) (σ.2.1 24) (σ.2.1 25) (σ.2.1 27) (σ.1 33) (σ.1 34) (σ.2.1 28)) (hpre_5 : (σ.1 19).toInt = 1) (hpre_6 : (σ.1 29).toInt = 0) (ex1 : x1 = (σ.2.1 20) 0) (tx1 : x1.toInt = ((σ.2.1 20) 0).toInt) (c2 : x1.toInt = 0) (hr7_0 : ((σ.2.1 4) (σ.1 14).toNatClampNeg).toInt = 5) (hr7_1 : ((σ.2.2.1 6) (σ.1 14).toNatClampNeg).toInt = (61 : Int32).toInt) (ex13 : x13 = (σ.2.1 27) 0) (tx13 : x13.toInt = ((σ.2.1 27) 0).toInt) (c14 : ¬ x13.toInt = 0) (ex19 : x19 = (σ.2.1 28) 0) (tx19 : x19.toInt = ((σ.2.1 28) 0).toInt) (c20 : ¬ x19.toInt = 0) (ex26 : x26 = (σ.1 14) + (1 : Int32)) (tx26 : x26.toInt = (σ.1 14).toInt + 1) (ex27 : x27 = (σ.1 16) - (1 : Int32)) (tx27 : x27.toInt = (σ.1 16).toInt - 1) (ex28 : x28 = (σ.1 15) + x27) (tx28 : x28.toInt = (σ.1 15).toInt + x27.toInt) (ex29 : x29 = (σ.2.1 11) x28.toNatClampNeg) (tx29 : x29.toInt = ((σ.2.1 11) ((σ.1 15).toInt + x27.toInt).toNat).toInt) (ex30 : x30 = (σ.1 15) + x27) (tx30 : x30.toInt = (σ.1 15).toInt + x27.toInt) : vp_in x30 3600 := by
  have q1 : (1 : Int32).toInt = 1 := by decide +kernel
  have q61 : (61 : Int32).toInt = 61 := by decide +kernel
  have bb_hpre_0 := hpre_0.b
  have bb_hpre_4 := hpre_4.z.b
  have kk_hpre_0 := hpre_0.in
  have kl := PQ_last hpre_4 (by omega) (by omega) (by omega) (by omega)
  exact vp_in_iff.mpr ⟨by omega, by omega⟩
-- dead@125 @140
theorem v_assign_16 (σ : RS) (x27 : Int32) (x28 : Int32) (x29 : Int32) (ex29 : x29 = (σ.2.1 11) x28.toNatClampNeg) (tx29 : x29.toInt = ((σ.2.1 11) ((σ.1 15).toInt + x27.toInt).toNat).toInt) (c33 : ¬ x29.toInt = 9) (c34 : x29.toInt = 9) : False := by
  first | assumption | omega | (subst_vars; omega) | trivial
-- pre:emit@136 @136
theorem v_assign_17 (σ : RS) (x1 : Int32) (x13 : Int32) (x19 : Int32) (x26 : Int32) (x27 : Int32) (x28 : Int32) (x29 : Int32) (x30 : Int32) (x31 : Int64) (x32 : Int32) (x35 : Int64) (hpre_0 : TKI (σ.2.1 4) (σ.2.2.1 6) (σ.2.1 7) (σ.1 3) (σ.1 14)) (hpre_1 : 0 ≤ (σ.1 15).toInt) (hpre_2 : (σ.1 15).toInt ≤ 3510) (hpre_4 : PQ1 1 0 (σ.1 14) (σ.1 15) (σ.1 16) (σ.1 19) (σ.1 29) (σ.2.1 11) (σ.2.2.1 12) (σ.2.1 31) (σ.2.1 30) (σ.2.1 32) (σ.2.1 21) (σ.2.1 22) (σ.2.1 20) (σ.2.1 23) (σ.2.1 24) (σ.2.1 25) (σ.2.1 27) (σ.1 33) (σ.1 34) (σ.2.1 28)) (hpre_5 : (σ.1 19).toInt = 1) (hpre_6 : (σ.1 29).toInt = 0) (ex1 : x1 = (σ.2.1 20) 0) (tx1 : x1.toInt = ((σ.2.1 20) 0).toInt) (c2 : x1.toInt = 0) (hr7_0 : ((σ.2.1 4) (σ.1 14).toNatClampNeg).toInt = 5) (hr7_1 : ((σ.2.2.1 6) (σ.1 14).toNatClampNeg).toInt = (61 : Int32).toInt) (ex13 : x13 = (σ.2.1 27) 0) (tx13 : x13.toInt = ((σ.2.1 27) 0).toInt) (c14 : ¬ x13.toInt = 0) (ex19 : x19 = (σ.2.1 28) 0) (tx19 : x19.toInt = ((σ.2.1 28) 0).toInt) (c20 : ¬ x19.toInt = 0) (ex26 : x26 = (σ.1 14) + (1 : Int32)) (tx26 : x26.toInt = (σ.1 14).toInt + 1) (ex27 : x27 = (σ.1 16) - (1 : Int32)) (tx27 : x27.toInt = (σ.1 16).toInt - 1) (ex28 : x28 = (σ.1 15) + x27) (tx28 : x28.toInt = (σ.1 15).toInt + x27.toInt) (ex29 : x29 = (σ.2.1 11) x28.toNatClampNeg) (tx29 : x29.toInt = ((σ.2.1 11) ((σ.1 15).toInt + x27.toInt).toNat).toInt) (ex30 : x30 = (σ.1 15) + x27) (tx30 : x30.toInt = (σ.1 15).toInt + x27.toInt) (ex31 : x31 = (σ.2.2.1 12) x30.toNatClampNeg) (tx31 : x31.toInt = ((σ.2.2.1 12) ((σ.1 15).toInt + x27.toInt).toNat).toInt) (ex32 : x32 = Int64.toInt32 x31) (tx32 : -2147483648 ≤ x31.toInt → x31.toInt < 2147483648 → x32.toInt = x31.toInt) (c33 : ¬ x29.toInt = 9) (c34 : ¬ x29.toInt = 9) (ex35 : x35 = Int32.toInt64 x32) (tx35 : x35.toInt = x32.toInt) : 0 ≤ (σ.1 15).toInt ∧ 0 ≤ x27.toInt ∧ (σ.1 15).toInt + x27.toInt < 3600 := by
  have q1 : (1 : Int32).toInt = 1 := by decide +kernel
  have q61 : (61 : Int32).toInt = 61 := by decide +kernel
  have bb_hpre_0 := hpre_0.b
  have bb_hpre_4 := hpre_4.z.b
  have kk_hpre_0 := hpre_0.in
  have kl := PQ_last hpre_4 (by omega) (by omega) (by omega) (by omega)
  refine ⟨?_, ?_, ?_⟩ <;> first | assumption | omega | (subst_vars; omega) | trivial
-- pre:fresh@148 @148
theorem v_assign_18 (σ : RS) (x1 : Int32) (x13 : Int32) (x19 : Int32) (x26 : Int32) (x27 : Int32) (x28 : Int32) (x29 : Int32) (x30 : Int32) (x31 : Int64) (x32 : Int32) (x35 : Int64) (n37 : Int32) (r36 : Int32) (hpre_0 : TKI (σ.2.1 4) (σ.2.2.1 6) (σ.2.1 7) (σ.1 3) (σ.1 14)) (hpre_1 : 0 ≤ (σ.1 15).toInt) (hpre_2 : (σ.1 15).toInt ≤ 3510) (hpre_4 : PQ1 1 0 (σ.1 14) (σ.1 15) (σ.1 16) (σ.1 19) (σ.1 29) (σ.2.1 11) (σ.2.2.1 12) (σ.2.1 31) (σ.2.1 30) (σ.2.1 32) (σ.2.1 21) (σ.2.1 22) (σ.2.1 20) (σ.2.1 23) (σ.2.1 24) (σ.2.1 25) (σ.2.1 27) (σ.1 33) (σ.1 34) (σ.2.1 28)) (hpre_5 : (σ.1 19).toInt = 1) (hpre_6 : (σ.1 29).toInt = 0) (ex1 : x1 = (σ.2.1 20) 0) (tx1 : x1.toInt = ((σ.2.1 20) 0).toInt) (c2 : x1.toInt = 0) (hr7_0 : ((σ.2.1 4) (σ.1 14).toNatClampNeg).toInt = 5) (hr7_1 : ((σ.2.2.1 6) (σ.1 14).toNatClampNeg).toInt = (61 : Int32).toInt) (ex13 : x13 = (σ.2.1 27) 0) (tx13 : x13.toInt = ((σ.2.1 27) 0).toInt) (c14 : ¬ x13.toInt = 0) (ex19 : x19 = (σ.2.1 28) 0) (tx19 : x19.toInt = ((σ.2.1 28) 0).toInt) (c20 : ¬ x19.toInt = 0) (ex26 : x26 = (σ.1 14) + (1 : Int32)) (tx26 : x26.toInt = (σ.1 14).toInt + 1) (ex27 : x27 = (σ.1 16) - (1 : Int32)) (tx27 : x27.toInt = (σ.1 16).toInt - 1) (ex28 : x28 = (σ.1 15) + x27) (tx28 : x28.toInt = (σ.1 15).toInt + x27.toInt) (ex29 : x29 = (σ.2.1 11) x28.toNatClampNeg) (tx29 : x29.toInt = ((σ.2.1 11) ((σ.1 15).toInt + x27.toInt).toNat).toInt) (ex30 : x30 = (σ.1 15) + x27) (tx30 : x30.toInt = (σ.1 15).toInt + x27.toInt) (ex31 : x31 = (σ.2.2.1 12) x30.toNatClampNeg) (tx31 : x31.toInt = ((σ.2.2.1 12) ((σ.1 15).toInt + x27.toInt).toNat).toInt) (ex32 : x32 = Int64.toInt32 x31) (c33 : ¬ x29.toInt = 9) (c34 : ¬ x29.toInt = 9) (ex35 : x35 = Int32.toInt64 x32) (tx35 : x35.toInt = x32.toInt) (hr36_0 : n37.toInt = x27.toInt + 1) (hr36_1 : r36.toInt = (σ.1 15).toInt + x27.toInt) : 1 ≤ (σ.1 19).toInt ∧ (σ.1 19).toInt ≤ 8 := by
  have q1 : (1 : Int32).toInt = 1 := by decide +kernel
  have q61 : (61 : Int32).toInt = 61 := by decide +kernel
  have bb_hpre_0 := hpre_0.b
  have bb_hpre_4 := hpre_4.z.b
  have kk_hpre_0 := hpre_0.in
  have kl := PQ_last hpre_4 (by omega) (by omega) (by omega) (by omega)
  refine ⟨?_, ?_⟩ <;> first | assumption | omega | (subst_vars; omega) | trivial
-- post @151
theorem v_assign_19 (σ : RS) (x1 : Int32) (x13 : Int32) (x19 : Int32) (x26 : Int32) (x27 : Int32) (x28 : Int32) (x29 : Int32) (x30 : Int32) (x31 : Int64) (x32 : Int32) (x35 : Int64) (n37 : Int32) (r36 : Int32) (hpre_0 : TKI (σ.2.1 4) (σ.2.2.1 6) (σ.2.1 7) (σ.1 3) (σ.1 14)) (hpre_1 : 0 ≤ (σ.1 15).toInt) (hpre_2 : (σ.1 15).toInt ≤ 3510) (hpre_3 : (σ.1 8).toInt = 0) (hpre_4 : PQ1 1 0 (σ.1 14) (σ.1 15) (σ.1 16) (σ.1 19) (σ.1 29) (σ.2.1 11) (σ.2.2.1 12) (σ.2.1 31) (σ.2.1 30) (σ.2.1 32) (σ.2.1 21) (σ.2.1 22) (σ.2.1 20) (σ.2.1 23) (σ.2.1 24) (σ.2.1 25) (σ.2.1 27) (σ.1 33) (σ.1 34) (σ.2.1 28)) (hpre_5 : (σ.1 19).toInt = 1) (hpre_6 : (σ.1 29).toInt = 0) (ex1 : x1 = (σ.2.1 20) 0) (tx1 : x1.toInt = ((σ.2.1 20) 0).toInt) (c2 : x1.toInt = 0) (hr7_0 : ((σ.2.1 4) (σ.1 14).toNatClampNeg).toInt = 5) (hr7_1 : ((σ.2.2.1 6) (σ.1 14).toNatClampNeg).toInt = (61 : Int32).toInt) (ex13 : x13 = (σ.2.1 27) 0) (tx13 : x13.toInt = ((σ.2.1 27) 0).toInt) (c14 : ¬ x13.toInt = 0) (ex19 : x19 = (σ.2.1 28) 0) (tx19 : x19.toInt = ((σ.2.1 28) 0).toInt) (c20 : ¬ x19.toInt = 0) (ex26 : x26 = (σ.1 14) + (1 : Int32)) (tx26 : x26.toInt = (σ.1 14).toInt + 1) (ex27 : x27 = (σ.1 16) - (1 : Int32)) (tx27 : x27.toInt = (σ.1 16).toInt - 1) (ex28 : x28 = (σ.1 15) + x27) (tx28 : x28.toInt = (σ.1 15).toInt + x27.toInt) (ex29 : x29 = (σ.2.1 11) x28.toNatClampNeg) (tx29 : x29.toInt = ((σ.2.1 11) ((σ.1 15).toInt + x27.toInt).toNat).toInt) (ex30 : x30 = (σ.1 15) + x27) (tx30 : x30.toInt = (σ.1 15).toInt + x27.toInt) (ex31 : x31 = (σ.2.2.1 12) x30.toNatClampNeg) (tx31 : x31.toInt = ((σ.2.2.1 12) ((σ.1 15).toInt + x27.toInt).toNat).toInt) (ex32 : x32 = Int64.toInt32 x31) (tx32 : -2147483648 ≤ x31.toInt → x31.toInt < 2147483648 → x32.toInt = x31.toInt) (c33 : ¬ x29.toInt = 9) (c34 : ¬ x29.toInt = 9) (ex35 : x35 = Int32.toInt64 x32) (tx35 : x35.toInt = x32.toInt) (hr36_0 : n37.toInt = x27.toInt + 1) (hr36_1 : r36.toInt = (σ.1 15).toInt + x27.toInt) : Keep (σ.1 15).toInt (σ.2.1 11) (upd (σ.2.1 11) ((σ.1 15).toInt + x27.toInt).toNat (39 : Int32)) (σ.2.2.1 12) (vp_updL (σ.2.2.1 12) ((σ.1 15).toInt + x27.toInt).toNat x35) ∧ 0 ≤ (σ.1 8).toInt ∧ (σ.1 8).toInt ≤ 3 ∧ ((σ.1 8).toInt = 0 → TKI (σ.2.1 4) (σ.2.2.1 6) (σ.2.1 7) (σ.1 3) x26 ∧ LI (1 : Int32) x26 (σ.1 15) n37 (σ.1 19) (σ.1 29) (upd (σ.2.1 11) ((σ.1 15).toInt + x27.toInt).toNat (39 : Int32)) (vp_updL (σ.2.2.1 12) ((σ.1 15).toInt + x27.toInt).toNat x35) (σ.2.1 31) (σ.2.1 30) (σ.2.1 32) (upd (σ.2.1 21) ((σ.1 19).toInt - 1).toNat (σ.1 29)) (upd (σ.2.1 22) ((σ.1 19).toInt - 1).toNat (0 : Int32)) (upd (σ.2.1 20) 0 (1 : Int32)) (σ.2.1 23) (σ.2.1 24) (σ.2.1 25) (upd (σ.2.1 27) ((σ.1 19).toInt - 1).toNat (1 : Int32)) x32 (40 : Int32) (upd (σ.2.1 28) ((σ.1 19).toInt - 1).toNat (0 : Int32)) ∧ 2 * (σ.1 14).toInt - (σ.1 19).toInt < 2 * x26.toInt - (σ.1 19).toInt) := by
  have q0 : (0 : Int32).toInt = 0 := by decide +kernel
  have q1 : (1 : Int32).toInt = 1 := by decide +kernel
  have q39 : (39 : Int32).toInt = 39 := by decide +kernel
  have q40 : (40 : Int32).toInt = 40 := by decide +kernel
  have q61 : (61 : Int32).toInt = 61 := by decide +kernel
  have bb_hpre_0 := hpre_0.b
  have bb_hpre_4 := hpre_4.z.b
  have kk_hpre_0 := hpre_0.in
  have kl := PQ_last hpre_4 (by omega) (by omega) (by omega) (by omega)
  have kn := hpre_0.in (by omega)
  rw [show ((σ.1 15).toInt + (σ.1 16).toInt - 1).toNat = ((σ.1 15).toInt + x27.toInt).toNat by omega] at kl
  first
  | (exfalso; omega)
  | exact ⟨Keep.rf.em (by omega), by omega, by omega, fun _ => ⟨hpre_0.up (by omega) (by omega), Or.inl ⟨q1, PQ_assignP hpre_4 hpre_2 (by omega) (by omega) (by omega) (by omega) (by omega) (by omega) (by omega) (by omega) (by omega) q39 (by omega) q1 q40 rfl q0 (by omega) (by omega) rfl (by omega)⟩, by omega⟩⟩
-- pre:fresh@148 @148
theorem v_assign_20 (σ : RS) (x1 : Int32) (x13 : Int32) (x19 : Int32) (x26 : Int32) (x27 : Int32) (x28 : Int32) (x29 : Int32) (x30 : Int32) (x31 : Int64) (x32 : Int32) (hpre_0 : TKI (σ.2.1 4) (σ.2.2.1 6) (σ.2.1 7) (σ.1 3) (σ.1 14)) (hpre_1 : 0 ≤ (σ.1 15).toInt) (hpre_2 : (σ.1 15).toInt ≤ 3510) (hpre_4 : PQ1 1 0 (σ.1 14) (σ.1 15) (σ.1 16) (σ.1 19) (σ.1 29) (σ.2.1 11) (σ.2.2.1 12) (σ.2.1 31) (σ.2.1 30) (σ.2.1 32) (σ.2.1 21) (σ.2.1 22) (σ.2.1 20) (σ.2.1 23) (σ.2.1 24) (σ.2.1 25) (σ.2.1 27) (σ.1 33) (σ.1 34) (σ.2.1 28)) (hpre_5 : (σ.1 19).toInt = 1) (hpre_6 : (σ.1 29).toInt = 0) (ex1 : x1 = (σ.2.1 20) 0) (tx1 : x1.toInt = ((σ.2.1 20) 0).toInt) (c2 : x1.toInt = 0) (hr7_0 : ((σ.2.1 4) (σ.1 14).toNatClampNeg).toInt = 5) (hr7_1 : ((σ.2.2.1 6) (σ.1 14).toNatClampNeg).toInt = (61 : Int32).toInt) (ex13 : x13 = (σ.2.1 27) 0) (tx13 : x13.toInt = ((σ.2.1 27) 0).toInt) (c14 : ¬ x13.toInt = 0) (ex19 : x19 = (σ.2.1 28) 0) (tx19 : x19.toInt = ((σ.2.1 28) 0).toInt) (c20 : ¬ x19.toInt = 0) (ex26 : x26 = (σ.1 14) + (1 : Int32)) (tx26 : x26.toInt = (σ.1 14).toInt + 1) (ex27 : x27 = (σ.1 16) - (1 : Int32)) (tx27 : x27.toInt = (σ.1 16).toInt - 1) (ex28 : x28 = (σ.1 15) + x27) (tx28 : x28.toInt = (σ.1 15).toInt + x27.toInt) (ex29 : x29 = (σ.2.1 11) x28.toNatClampNeg) (tx29 : x29.toInt = ((σ.2.1 11) ((σ.1 15).toInt + x27.toInt).toNat).toInt) (ex30 : x30 = (σ.1 15) + x27) (tx30 : x30.toInt = (σ.1 15).toInt + x27.toInt) (ex31 : x31 = (σ.2.2.1 12) x30.toNatClampNeg) (tx31 : x31.toInt = ((σ.2.2.1 12) ((σ.1 15).toInt + x27.toInt).toNat).toInt) (ex32 : x32 = Int64.toInt32 x31) (c33 : x29.toInt = 9) (c39 : x29.toInt = 9) : 1 ≤ (σ.1 19).toInt ∧ (σ.1 19).toInt ≤ 8 := by
  have q1 : (1 : Int32).toInt = 1 := by decide +kernel
  have q61 : (61 : Int32).toInt = 61 := by decide +kernel
  have bb_hpre_0 := hpre_0.b
  have bb_hpre_4 := hpre_4.z.b
  have kk_hpre_0 := hpre_0.in
  have kl := PQ_last hpre_4 (by omega) (by omega) (by omega) (by omega)
  refine ⟨?_, ?_⟩ <;> first | assumption | omega | (subst_vars; omega) | trivial
-- post @151
theorem v_assign_21 (σ : RS) (x1 : Int32) (x13 : Int32) (x19 : Int32) (x26 : Int32) (x27 : Int32) (x28 : Int32) (x29 : Int32) (x30 : Int32) (x31 : Int64) (x32 : Int32) (hpre_0 : TKI (σ.2.1 4) (σ.2.2.1 6) (σ.2.1 7) (σ.1 3) (σ.1 14)) (hpre_1 : 0 ≤ (σ.1 15).toInt) (hpre_2 : (σ.1 15).toInt ≤ 3510) (hpre_3 : (σ.1 8).toInt = 0) (hpre_4 : PQ1 1 0 (σ.1 14) (σ.1 15) (σ.1 16) (σ.1 19) (σ.1 29) (σ.2.1 11) (σ.2.2.1 12) (σ.2.1 31) (σ.2.1 30) (σ.2.1 32) (σ.2.1 21) (σ.2.1 22) (σ.2.1 20) (σ.2.1 23) (σ.2.1 24) (σ.2.1 25) (σ.2.1 27) (σ.1 33) (σ.1 34) (σ.2.1 28)) (hpre_5 : (σ.1 19).toInt = 1) (hpre_6 : (σ.1 29).toInt = 0) (ex1 : x1 = (σ.2.1 20) 0) (tx1 : x1.toInt = ((σ.2.1 20) 0).toInt) (c2 : x1.toInt = 0) (hr7_0 : ((σ.2.1 4) (σ.1 14).toNatClampNeg).toInt = 5) (hr7_1 : ((σ.2.2.1 6) (σ.1 14).toNatClampNeg).toInt = (61 : Int32).toInt) (ex13 : x13 = (σ.2.1 27) 0) (tx13 : x13.toInt = ((σ.2.1 27) 0).toInt) (c14 : ¬ x13.toInt = 0) (ex19 : x19 = (σ.2.1 28) 0) (tx19 : x19.toInt = ((σ.2.1 28) 0).toInt) (c20 : ¬ x19.toInt = 0) (ex26 : x26 = (σ.1 14) + (1 : Int32)) (tx26 : x26.toInt = (σ.1 14).toInt + 1) (ex27 : x27 = (σ.1 16) - (1 : Int32)) (tx27 : x27.toInt = (σ.1 16).toInt - 1) (ex28 : x28 = (σ.1 15) + x27) (tx28 : x28.toInt = (σ.1 15).toInt + x27.toInt) (ex29 : x29 = (σ.2.1 11) x28.toNatClampNeg) (tx29 : x29.toInt = ((σ.2.1 11) ((σ.1 15).toInt + x27.toInt).toNat).toInt) (ex30 : x30 = (σ.1 15) + x27) (tx30 : x30.toInt = (σ.1 15).toInt + x27.toInt) (ex31 : x31 = (σ.2.2.1 12) x30.toNatClampNeg) (tx31 : x31.toInt = ((σ.2.2.1 12) ((σ.1 15).toInt + x27.toInt).toNat).toInt) (ex32 : x32 = Int64.toInt32 x31) (tx32 : -2147483648 ≤ x31.toInt → x31.toInt < 2147483648 → x32.toInt = x31.toInt) (c33 : x29.toInt = 9) (c39 : x29.toInt = 9) : Keep (σ.1 15).toInt (σ.2.1 11) (σ.2.1 11) (σ.2.2.1 12) (σ.2.2.1 12) ∧ 0 ≤ (σ.1 8).toInt ∧ (σ.1 8).toInt ≤ 3 ∧ ((σ.1 8).toInt = 0 → TKI (σ.2.1 4) (σ.2.2.1 6) (σ.2.1 7) (σ.1 3) x26 ∧ LI (1 : Int32) x26 (σ.1 15) x27 (σ.1 19) (σ.1 29) (σ.2.1 11) (σ.2.2.1 12) (σ.2.1 31) (σ.2.1 30) (σ.2.1 32) (upd (σ.2.1 21) ((σ.1 19).toInt - 1).toNat (σ.1 29)) (upd (σ.2.1 22) ((σ.1 19).toInt - 1).toNat (0 : Int32)) (upd (σ.2.1 20) 0 (1 : Int32)) (σ.2.1 23) (σ.2.1 24) (σ.2.1 25) (upd (σ.2.1 27) ((σ.1 19).toInt - 1).toNat (1 : Int32)) x32 (38 : Int32) (upd (σ.2.1 28) ((σ.1 19).toInt - 1).toNat (0 : Int32)) ∧ 2 * (σ.1 14).toInt - (σ.1 19).toInt < 2 * x26.toInt - (σ.1 19).toInt) := by
  have q0 : (0 : Int32).toInt = 0 := by decide +kernel
  have q1 : (1 : Int32).toInt = 1 := by decide +kernel
  have q38 : (38 : Int32).toInt = 38 := by decide +kernel
  have q61 : (61 : Int32).toInt = 61 := by decide +kernel
  have bb_hpre_0 := hpre_0.b
  have bb_hpre_4 := hpre_4.z.b
  have kk_hpre_0 := hpre_0.in
  have kl := PQ_last hpre_4 (by omega) (by omega) (by omega) (by omega)
  have kn := hpre_0.in (by omega)
  rw [show ((σ.1 15).toInt + (σ.1 16).toInt - 1).toNat = ((σ.1 15).toInt + x27.toInt).toNat by omega] at kl
  first
  | (exfalso; omega)
  | exact ⟨Keep.rf, by omega, by omega, fun _ => ⟨hpre_0.up (by omega) (by omega), Or.inl ⟨q1, PQ_assignV hpre_4 (by omega) (by omega) (by omega) (by omega) (by omega) (by omega) (i := ((σ.1 15).toInt + x27.toInt).toNat) (by omega) (by omega) q1 q38 rfl q0 (by omega) (by omega) rfl (by omega)⟩, by omega⟩⟩
-- dead@125 @128
theorem v_assign_22 (σ : RS) (x27 : Int32) (x28 : Int32) (x29 : Int32) (ex29 : x29 = (σ.2.1 11) x28.toNatClampNeg) (tx29 : x29.toInt = ((σ.2.1 11) ((σ.1 15).toInt + x27.toInt).toNat).toInt) (c33 : x29.toInt = 9) (c39 : ¬ x29.toInt = 9) : False := by
  first | assumption | omega | (subst_vars; omega) | trivial
set_option maxHeartbeats 4000000 in
set_option maxRecDepth 100000 in
theorem M_assign (l : Launch) (D : va_G) (cy : Nat → ClassId) (sz0 : Nat) (sa : Nat → Nat) (ad : Nat → Nat) (σ : RS) (sz : Nat)  (hpre : TKI (σ.2.1 4) (σ.2.2.1 6) (σ.2.1 7) (σ.1 3) (σ.1 14) ∧ 0 ≤ (σ.1 15).toInt ∧ (σ.1 15).toInt ≤ 3510 ∧ (σ.1 8).toInt = 0 ∧ PQ1 1 0 (σ.1 14) (σ.1 15) (σ.1 16) (σ.1 19) (σ.1 29) (σ.2.1 11) (σ.2.2.1 12) (σ.2.1 31) (σ.2.1 30) (σ.2.1 32) (σ.2.1 21) (σ.2.1 22) (σ.2.1 20) (σ.2.1 23) (σ.2.1 24) (σ.2.1 25) (σ.2.1 27) (σ.1 33) (σ.1 34) (σ.2.1 28) ∧ (σ.1 19).toInt = 1 ∧ (σ.1 29).toInt = 0) : Met l yX12_assign (Cond.code yX12_assign cX12_assign 3 none :: GWm) ({ frames := 2, cells := 0, slots := 0, locals := 42 }) (PcR D cy sz0 sa ad [.ref (ad 0)] σ sz) (va_Qv (fun (u : Int32 × (Nat → Int32) × (Nat → Int64) × Int32 × Int32 × Int32 × (Nat → Int32) × (Nat → Int32) × (Nat → Int32) × (Nat → Int32) × (Nat → Int32) × (Nat → Int32) × (Nat → Int32) × (Nat → Int32) × (Nat → Int32) × (Nat → Int32) × (Nat → Int32) × (Nat → Int32) × Int32 × Int32 × Int32 × Int32 × Int32) => Keep (σ.1 15).toInt (σ.2.1 11) u.2.1 (σ.2.2.1 12) u.2.2.1 ∧ 0 ≤ u.2.2.2.2.2.2.2.2.2.2.2.2.2.2.2.2.2.2.2.2.2.1.toInt ∧ u.2.2.2.2.2.2.2.2.2.2.2.2.2.2.2.2.2.2.2.2.2.1.toInt ≤ 3 ∧ (u.2.2.2.2.2.2.2.2.2.2.2.2.2.2.2.2.2.2.2.2.2.1.toInt = 0 → TKI (σ.2.1 4) (σ.2.2.1 6) (σ.2.1 7) (σ.1 3) u.1 ∧ LI u.2.2.2.2.2.2.2.2.2.2.2.2.2.2.2.2.2.2.1 u.1 (σ.1 15) u.2.2.2.1 u.2.2.2.2.1 u.2.2.2.2.2.1 u.2.1 u.2.2.1 u.2.2.2.2.2.2.1 u.2.2.2.2.2.2.2.1 u.2.2.2.2.2.2.2.2.1 u.2.2.2.2.2.2.2.2.2.1 u.2.2.2.2.2.2.2.2.2.2.1 u.2.2.2.2.2.2.2.2.2.2.2.1 u.2.2.2.2.2.2.2.2.2.2.2.2.1 u.2.2.2.2.2.2.2.2.2.2.2.2.2.1 u.2.2.2.2.2.2.2.2.2.2.2.2.2.2.1 u.2.2.2.2.2.2.2.2.2.2.2.2.2.2.2.2.1 u.2.2.2.2.2.2.2.2.2.2.2.2.2.2.2.2.2.2.2.1 u.2.2.2.2.2.2.2.2.2.2.2.2.2.2.2.2.2.2.2.2.1 u.2.2.2.2.2.2.2.2.2.2.2.2.2.2.2.2.2.1 ∧ 2 * (σ.1 14).toInt - (σ.1 19).toInt < 2 * u.1.toInt - u.2.2.2.2.1.toInt)) (fun (u : Int32 × (Nat → Int32) × (Nat → Int64) × Int32 × Int32 × Int32 × (Nat → Int32) × (Nat → Int32) × (Nat → Int32) × (Nat → Int32) × (Nat → Int32) × (Nat → Int32) × (Nat → Int32) × (Nat → Int32) × (Nat → Int32) × (Nat → Int32) × (Nat → Int32) × (Nat → Int32) × Int32 × Int32 × Int32 × Int32 × Int32) (t : State) => RP D cy ad (rS (rS (rS (rS (rS (rA (rA (rA (rA (rA (rA (rA (rA (rA (rA (rA (rA (rS (rS (rS (rJ (rA (rS σ 14 u.1) 11 u.2.1) 12 u.2.2.1) 16 u.2.2.2.1) 19 u.2.2.2.2.1) 29 u.2.2.2.2.2.1) 31 u.2.2.2.2.2.2.1) 30 u.2.2.2.2.2.2.2.1) 32 u.2.2.2.2.2.2.2.2.1) 21 u.2.2.2.2.2.2.2.2.2.1) 22 u.2.2.2.2.2.2.2.2.2.2.1) 20 u.2.2.2.2.2.2.2.2.2.2.2.1) 23 u.2.2.2.2.2.2.2.2.2.2.2.2.1) 24 u.2.2.2.2.2.2.2.2.2.2.2.2.2.1) 25 u.2.2.2.2.2.2.2.2.2.2.2.2.2.2.1) 26 u.2.2.2.2.2.2.2.2.2.2.2.2.2.2.2.1) 27 u.2.2.2.2.2.2.2.2.2.2.2.2.2.2.2.2.1) 28 u.2.2.2.2.2.2.2.2.2.2.2.2.2.2.2.2.2.1) 17 u.2.2.2.2.2.2.2.2.2.2.2.2.2.2.2.2.2.2.1) 33 u.2.2.2.2.2.2.2.2.2.2.2.2.2.2.2.2.2.2.2.1) 34 u.2.2.2.2.2.2.2.2.2.2.2.2.2.2.2.2.2.2.2.2.1) 8 u.2.2.2.2.2.2.2.2.2.2.2.2.2.2.2.2.2.2.2.2.2.1) 9 u.2.2.2.2.2.2.2.2.2.2.2.2.2.2.2.2.2.2.2.2.2.2) t.heap) (AR cy ad sz)) 0 0 (AR cy ad sz) := by
  refine RM_of (loc0 := [(0, .ref (ad 0))]) (by decide) rfl rfl (Nat.le_of_ble_eq_true rfl) ?_
  intro p e s m below meth c ls hsz C hP hS hl
  have hx := C.1
  have hb := C.2.1
  have hown := C.2.2.2.2.1
  have hw := C.2.2.2.2.2.1
  clear hsz
  obtain ⟨hpre_0, hpre_1, hpre_2, hpre_3, hpre_4, hpre_5, hpre_6⟩ := hpre
  refine lv_aload_n hx hb dX12_assign_0 rfl (lv_at hl 0 rfl) ?_
  refine rg_20 C hP wm_71 dX12_assign_1 ?_
  refine lv_iconst (v := 0) hx hb dX12_assign_4 (by decide +kernel) ?_
  refine ra_20 (f := (σ.2.1 20)) C hP rfl (vp_in_iff.mpr (by decide +kernel)) dX12_assign_5 (fun x1 ex1 => ?_)
  have ex1 : x1 = (σ.2.1 20) 0 := ex1
  have tx1 : x1.toInt = ((σ.2.1 20) 0).toInt := by rw [ex1]
  refine lv_if_ne (tgt := 40) hx hb dX12_assign_6 (by decide) (fun c2 => ?_) (fun c2 => ?_)
  · have c2 : ¬ x1.toInt = 0 := by have h := z_ne c2; rw [show (0 : Int32).toInt = 0 from by decide +kernel] at h; exact h
    refine lv_iconst (v := 0) hx hb dX12_assign_40 (by decide +kernel) ?_
    refine lv_istore_n (lv' := [(1, .int 0), (0, .ref (ad 0))]) hx hb dX12_assign_41 rfl hl (by decide) rfl (fun ls hl => ?_)
    refine lv_iload_n hx hb dX12_assign_42 rfl (lv_at hl 0 rfl) ?_
    refine lv_if_ne (tgt := 51) hx hb dX12_assign_43 (by decide) (fun c3 => absurd (by decide +kernel) c3) (fun _ => ?_)
    refine lv_aload_n hx hb dX12_assign_46 rfl (lv_at hl 1 rfl) ?_
    refine r_callVv (As := []) (rest := []) C hP hS hl.1 ⟨Nat.zero_le _, Nat.zero_le _⟩ (M_misfit l D cy sz0 sa ad σ s.heap.size  (v_assign_1 σ x1 hpre_0 hpre_1 hpre_2 hpre_4 hpre_5 hpre_6 ex1 tx1 c2)) (n := 0) ⟨wm_116, wm_63, by decide +kernel⟩ ⟨wm_117, wm_118, wm_10⟩ rfl rfl (lv_room (Nat.le_of_ble_eq_true rfl)) ⟨Nat.le_of_ble_eq_true rfl, Nat.le_of_ble_eq_true rfl⟩ dX12_assign_47 (fun u H locs hr4 hP hS => ?_)
    obtain ⟨n5, n6⟩ := u
    have hr4 : (σ.1 8).toInt = 0 → n5.toInt = 2 := hr4
    have hP : RP D cy ad (rS (rS σ 8 n5) 9 n6) H := hP
    have hP : RP D cy ad (rS (rS (rS (rS (rS (rA (rA (rA (rA (rA (rA (rA (rA (rA (rA (rA (rA (rS (rS (rS (rJ (rA (rS σ 14 (σ.1 14)) 11 (σ.2.1 11)) 12 (σ.2.2.1 12)) 16 (σ.1 16)) 19 (σ.1 19)) 29 (σ.1 29)) 31 (σ.2.1 31)) 30 (σ.2.1 30)) 32 (σ.2.1 32)) 21 (σ.2.1 21)) 22 (σ.2.1 22)) 20 (σ.2.1 20)) 23 (σ.2.1 23)) 24 (σ.2.1 24)) 25 (σ.2.1 25)) 26 (σ.2.1 26)) 27 (σ.2.1 27)) 28 (σ.2.1 28)) 17 (σ.1 17)) 33 (σ.1 33)) 34 (σ.1 34)) 8 n5) 9 n6) H := RP.cong hP (Eq.trans (b := (σ.1 0)) rfl rfl) (Eq.trans (b := (σ.1 1)) rfl rfl) (Eq.trans (b := (σ.2.1 2)) rfl rfl) (Eq.trans (b := (σ.1 3)) rfl rfl) (Eq.trans (b := (σ.2.1 4)) rfl rfl) (Eq.trans (b := (σ.2.1 5)) rfl rfl) (Eq.trans (b := (σ.2.2.1 6)) rfl rfl) (Eq.trans (b := (σ.2.1 7)) rfl rfl) (Eq.trans (b := n5) rfl rfl) (Eq.trans (b := n6) rfl rfl) (Eq.trans (b := (σ.1 10)) rfl rfl) (Eq.trans (b := (σ.2.1 11)) rfl rfl) (Eq.trans (b := (σ.2.2.1 12)) rfl rfl) (Eq.trans (b := (σ.2.1 13)) rfl rfl) (Eq.trans (b := (σ.1 14)) rfl rfl) (Eq.trans (b := (σ.1 15)) rfl rfl) (Eq.trans (b := (σ.1 16)) rfl rfl) (Eq.trans (b := (σ.1 17)) rfl rfl) (Eq.trans (b := (σ.1 18)) rfl rfl) (Eq.trans (b := (σ.1 19)) rfl rfl) (Eq.trans (b := (σ.2.1 20)) rfl rfl) (Eq.trans (b := (σ.2.1 21)) rfl rfl) (Eq.trans (b := (σ.2.1 22)) rfl rfl) (Eq.trans (b := (σ.2.1 23)) rfl rfl) (Eq.trans (b := (σ.2.1 24)) rfl rfl) (Eq.trans (b := (σ.2.1 25)) rfl rfl) (Eq.trans (b := (σ.2.1 26)) rfl rfl) (Eq.trans (b := (σ.2.1 27)) rfl rfl) (Eq.trans (b := (σ.2.1 28)) rfl rfl) (Eq.trans (b := (σ.1 29)) rfl rfl) (Eq.trans (b := (σ.2.1 30)) rfl rfl) (Eq.trans (b := (σ.2.1 31)) rfl rfl) (Eq.trans (b := (σ.2.1 32)) rfl rfl) (Eq.trans (b := (σ.1 33)) rfl rfl) (Eq.trans (b := (σ.1 34)) rfl rfl) (Eq.trans (b := (σ.1 35)) rfl rfl) (Eq.trans (b := (σ.2.1 36)) rfl rfl) (Eq.trans (b := (σ.2.1 37)) rfl rfl) (Eq.trans (b := (σ.2.1 38)) rfl rfl) (Eq.trans (b := (σ.2.1 39)) rfl rfl) (Eq.trans (b := (σ.2.1 40)) rfl rfl) (Eq.trans (b := (σ.2.1 41)) rfl rfl) (Eq.trans (b := (σ.2.1 42)) rfl rfl) (Eq.trans (b := (σ.2.1 43)) rfl rfl) (Eq.trans (b := (σ.2.1 44)) rfl rfl) (Eq.trans (b := (σ.2.1 45)) rfl rfl) (Eq.trans (b := (σ.2.1 46)) rfl rfl) (Eq.trans (b := (σ.1 47)) rfl rfl) (Eq.trans (b := (σ.2.1 48)) rfl rfl) (Eq.trans (b := (σ.1 49)) rfl rfl) (Eq.trans (b := (σ.2.1 50)) rfl rfl) (Eq.trans (b := (σ.2.1 51)) rfl rfl) (Eq.trans (b := (σ.2.2.1 52)) rfl rfl) (Eq.trans (b := (σ.2.2.1 53)) rfl rfl) (Eq.trans (b := (σ.2.2.2)) rfl rfl) (Eq.trans (b := (σ.1 55)) rfl rfl) (Eq.trans (b := (σ.1 56)) rfl rfl) (Eq.trans (b := (σ.1 57)) rfl rfl) (Eq.trans (b := (σ.2.1 58)) rfl rfl) (Eq.trans (b := (σ.1 59)) rfl rfl)
    exact r_retv C ⟨(σ.1 14), (σ.2.1 11), (σ.2.2.1 12), (σ.1 16), (σ.1 19), (σ.1 29), (σ.2.1 31), (σ.2.1 30), (σ.2.1 32), (σ.2.1 21), (σ.2.1 22), (σ.2.1 20), (σ.2.1 23), (σ.2.1 24), (σ.2.1 25), (σ.2.1 26), (σ.2.1 27), (σ.2.1 28), (σ.1 17), (σ.1 33), (σ.1 34), n5, n6⟩ (v_assign_2 σ x1 n5 hpre_0 hpre_1 hpre_2 hpre_3 hpre_4 hpre_5 hpre_6 ex1 tx1 c2 hr4) hP hS dX12_assign_50
  · have c2 : x1.toInt = 0 := by have h := z_eq c2; rw [show (0 : Int32).toInt = 0 from by decide +kernel] at h; exact h
    refine lv_aload_n hx hb dX12_assign_9 rfl (lv_at hl 0 rfl) ?_
    refine lv_bipush (v := 61) hx hb dX12_assign_10 (by decide +kernel) ?_
    refine r_callVi (As := [.int 61]) (rest := []) C hP hS hl.1 ⟨Nat.zero_le _, Nat.zero_le _⟩ (M_isSign l D cy sz0 sa ad σ s.heap.size (61 : Int32) (v_assign_3 σ x1 hpre_0 hpre_1 hpre_2 hpre_4 hpre_5 hpre_6 ex1 tx1 c2)) (n := 1) ⟨wm_92, wm_61, by decide +kernel⟩ ⟨wm_93, wm_94, wm_10⟩ rfl rfl (lv_room (Nat.le_of_ble_eq_true rfl)) ⟨Nat.le_of_ble_eq_true rfl, Nat.le_of_ble_eq_true rfl⟩ dX12_assign_12 (fun r7 u H locs hr7 hP hS => ?_)
    have hr7 : (r7.toInt = 0 ∧ ¬ (((σ.2.1 4) (σ.1 14).toNatClampNeg).toInt = 5 ∧ ((σ.2.2.1 6) (σ.1 14).toNatClampNeg).toInt = (61 : Int32).toInt)) ∨ (r7.toInt = 1 ∧ (((σ.2.1 4) (σ.1 14).toNatClampNeg).toInt = 5 ∧ ((σ.2.2.1 6) (σ.1 14).toNatClampNeg).toInt = (61 : Int32).toInt)) := hr7
    refine lv_if_eq (tgt := 40) hx hb dX12_assign_15 (by decide) (fun c8 => ?_) (fun c8 => ?_)
    · have c8 : r7.toInt = 0 := by have h := z_eq c8; rw [show (0 : Int32).toInt = 0 from by decide +kernel] at h; exact h
      have hr7 : ¬ (((σ.2.1 4) (σ.1 14).toNatClampNeg).toInt = 5 ∧ ((σ.2.2.1 6) (σ.1 14).toNatClampNeg).toInt = (61 : Int32).toInt) := bq_f hr7 c8
      refine lv_iconst (v := 0) hx hb dX12_assign_40 (by decide +kernel) ?_
      refine lv_istore_n (lv' := [(1, .int 0), (0, .ref (ad 0))]) hx hb dX12_assign_41 rfl hl (by decide) rfl (fun ls hl => ?_)
      refine lv_iload_n hx hb dX12_assign_42 rfl (lv_at hl 0 rfl) ?_
      refine lv_if_ne (tgt := 51) hx hb dX12_assign_43 (by decide) (fun c9 => absurd (by decide +kernel) c9) (fun _ => ?_)
      refine lv_aload_n hx hb dX12_assign_46 rfl (lv_at hl 1 rfl) ?_
      refine r_callVv (As := []) (rest := []) C hP hS hl.1 ⟨Nat.zero_le _, Nat.zero_le _⟩ (M_misfit l D cy sz0 sa ad σ H.size  (v_assign_4 σ x1 hpre_0 hpre_1 hpre_2 hpre_4 hpre_5 hpre_6 ex1 tx1 c2 hr7)) (n := 0) ⟨wm_116, wm_63, by decide +kernel⟩ ⟨wm_117, wm_118, wm_10⟩ rfl rfl (lv_room (Nat.le_of_ble_eq_true rfl)) ⟨Nat.le_of_ble_eq_true rfl, Nat.le_of_ble_eq_true rfl⟩ dX12_assign_47 (fun u H locs hr10 hP hS => ?_)
      obtain ⟨n11, n12⟩ := u
      have hr10 : (σ.1 8).toInt = 0 → n11.toInt = 2 := hr10
      have hP : RP D cy ad (rS (rS σ 8 n11) 9 n12) H := hP
      have hP : RP D cy ad (rS (rS (rS (rS (rS (rA (rA (rA (rA (rA (rA (rA (rA (rA (rA (rA (rA (rS (rS (rS (rJ (rA (rS σ 14 (σ.1 14)) 11 (σ.2.1 11)) 12 (σ.2.2.1 12)) 16 (σ.1 16)) 19 (σ.1 19)) 29 (σ.1 29)) 31 (σ.2.1 31)) 30 (σ.2.1 30)) 32 (σ.2.1 32)) 21 (σ.2.1 21)) 22 (σ.2.1 22)) 20 (σ.2.1 20)) 23 (σ.2.1 23)) 24 (σ.2.1 24)) 25 (σ.2.1 25)) 26 (σ.2.1 26)) 27 (σ.2.1 27)) 28 (σ.2.1 28)) 17 (σ.1 17)) 33 (σ.1 33)) 34 (σ.1 34)) 8 n11) 9 n12) H := RP.cong hP (Eq.trans (b := (σ.1 0)) rfl rfl) (Eq.trans (b := (σ.1 1)) rfl rfl) (Eq.trans (b := (σ.2.1 2)) rfl rfl) (Eq.trans (b := (σ.1 3)) rfl rfl) (Eq.trans (b := (σ.2.1 4)) rfl rfl) (Eq.trans (b := (σ.2.1 5)) rfl rfl) (Eq.trans (b := (σ.2.2.1 6)) rfl rfl) (Eq.trans (b := (σ.2.1 7)) rfl rfl) (Eq.trans (b := n11) rfl rfl) (Eq.trans (b := n12) rfl rfl) (Eq.trans (b := (σ.1 10)) rfl rfl) (Eq.trans (b := (σ.2.1 11)) rfl rfl) (Eq.trans (b := (σ.2.2.1 12)) rfl rfl) (Eq.trans (b := (σ.2.1 13)) rfl rfl) (Eq.trans (b := (σ.1 14)) rfl rfl) (Eq.trans (b := (σ.1 15)) rfl rfl) (Eq.trans (b := (σ.1 16)) rfl rfl) (Eq.trans (b := (σ.1 17)) rfl rfl) (Eq.trans (b := (σ.1 18)) rfl rfl) (Eq.trans (b := (σ.1 19)) rfl rfl) (Eq.trans (b := (σ.2.1 20)) rfl rfl) (Eq.trans (b := (σ.2.1 21)) rfl rfl) (Eq.trans (b := (σ.2.1 22)) rfl rfl) (Eq.trans (b := (σ.2.1 23)) rfl rfl) (Eq.trans (b := (σ.2.1 24)) rfl rfl) (Eq.trans (b := (σ.2.1 25)) rfl rfl) (Eq.trans (b := (σ.2.1 26)) rfl rfl) (Eq.trans (b := (σ.2.1 27)) rfl rfl) (Eq.trans (b := (σ.2.1 28)) rfl rfl) (Eq.trans (b := (σ.1 29)) rfl rfl) (Eq.trans (b := (σ.2.1 30)) rfl rfl) (Eq.trans (b := (σ.2.1 31)) rfl rfl) (Eq.trans (b := (σ.2.1 32)) rfl rfl) (Eq.trans (b := (σ.1 33)) rfl rfl) (Eq.trans (b := (σ.1 34)) rfl rfl) (Eq.trans (b := (σ.1 35)) rfl rfl) (Eq.trans (b := (σ.2.1 36)) rfl rfl) (Eq.trans (b := (σ.2.1 37)) rfl rfl) (Eq.trans (b := (σ.2.1 38)) rfl rfl) (Eq.trans (b := (σ.2.1 39)) rfl rfl) (Eq.trans (b := (σ.2.1 40)) rfl rfl) (Eq.trans (b := (σ.2.1 41)) rfl rfl) (Eq.trans (b := (σ.2.1 42)) rfl rfl) (Eq.trans (b := (σ.2.1 43)) rfl rfl) (Eq.trans (b := (σ.2.1 44)) rfl rfl) (Eq.trans (b := (σ.2.1 45)) rfl rfl) (Eq.trans (b := (σ.2.1 46)) rfl rfl) (Eq.trans (b := (σ.1 47)) rfl rfl) (Eq.trans (b := (σ.2.1 48)) rfl rfl) (Eq.trans (b := (σ.1 49)) rfl rfl) (Eq.trans (b := (σ.2.1 50)) rfl rfl) (Eq.trans (b := (σ.2.1 51)) rfl rfl) (Eq.trans (b := (σ.2.2.1 52)) rfl rfl) (Eq.trans (b := (σ.2.2.1 53)) rfl rfl) (Eq.trans (b := (σ.2.2.2)) rfl rfl) (Eq.trans (b := (σ.1 55)) rfl rfl) (Eq.trans (b := (σ.1 56)) rfl rfl) (Eq.trans (b := (σ.1 57)) rfl rfl) (Eq.trans (b := (σ.2.1 58)) rfl rfl) (Eq.trans (b := (σ.1 59)) rfl rfl)
      exact r_retv C ⟨(σ.1 14), (σ.2.1 11), (σ.2.2.1 12), (σ.1 16), (σ.1 19), (σ.1 29), (σ.2.1 31), (σ.2.1 30), (σ.2.1 32), (σ.2.1 21), (σ.2.1 22), (σ.2.1 20), (σ.2.1 23), (σ.2.1 24), (σ.2.1 25), (σ.2.1 26), (σ.2.1 27), (σ.2.1 28), (σ.1 17), (σ.1 33), (σ.1 34), n11, n12⟩ (v_assign_5 σ x1 n11 hpre_0 hpre_1 hpre_2 hpre_3 hpre_4 hpre_5 hpre_6 ex1 tx1 c2 hr7 hr10) hP hS dX12_assign_50
    · have c8 : ¬ r7.toInt = 0 := by have h := z_ne c8; rw [show (0 : Int32).toInt = 0 from by decide +kernel] at h; exact h
      have hr7v : r7.toInt = 1 := hr7.elim (fun h9 => absurd h9.1 c8) (fun h9 => h9.1)
      have hr7 : ((σ.2.1 4) (σ.1 14).toNatClampNeg).toInt = 5 ∧ ((σ.2.2.1 6) (σ.1 14).toNatClampNeg).toInt = (61 : Int32).toInt := bq_t hr7 c8
      obtain ⟨hr7_0, hr7_1⟩ := hr7
      refine lv_aload_n hx hb dX12_assign_18 rfl (lv_at hl 0 rfl) ?_
      refine rg_27 C hP wm_80 dX12_assign_19 ?_
      refine lv_iconst (v := 0) hx hb dX12_assign_22 (by decide +kernel) ?_
      refine ra_27 (f := (σ.2.1 27)) C hP rfl (vp_in_iff.mpr (by decide +kernel)) dX12_assign_23 (fun x13 ex13 => ?_)
      have ex13 : x13 = (σ.2.1 27) 0 := ex13
      have tx13 : x13.toInt = ((σ.2.1 27) 0).toInt := by rw [ex13]
      refine lv_if_eq (tgt := 40) hx hb dX12_assign_24 (by decide) (fun c14 => ?_) (fun c14 => ?_)
      · have c14 : x13.toInt = 0 := by have h := z_eq c14; rw [show (0 : Int32).toInt = 0 from by decide +kernel] at h; exact h
        refine lv_iconst (v := 0) hx hb dX12_assign_40 (by decide +kernel) ?_
        refine lv_istore_n (lv' := [(1, .int 0), (0, .ref (ad 0))]) hx hb dX12_assign_41 rfl hl (by decide) rfl (fun ls hl => ?_)
        refine lv_iload_n hx hb dX12_assign_42 rfl (lv_at hl 0 rfl) ?_
        refine lv_if_ne (tgt := 51) hx hb dX12_assign_43 (by decide) (fun c15 => absurd (by decide +kernel) c15) (fun _ => ?_)
        refine lv_aload_n hx hb dX12_assign_46 rfl (lv_at hl 1 rfl) ?_
        refine r_callVv (As := []) (rest := []) C hP hS hl.1 ⟨Nat.zero_le _, Nat.zero_le _⟩ (M_misfit l D cy sz0 sa ad σ H.size  (v_assign_6 σ x1 x13 hpre_0 hpre_1 hpre_2 hpre_4 hpre_5 hpre_6 ex1 tx1 c2 hr7_0 hr7_1 ex13 tx13 c14)) (n := 0) ⟨wm_116, wm_63, by decide +kernel⟩ ⟨wm_117, wm_118, wm_10⟩ rfl rfl (lv_room (Nat.le_of_ble_eq_true rfl)) ⟨Nat.le_of_ble_eq_true rfl, Nat.le_of_ble_eq_true rfl⟩ dX12_assign_47 (fun u H locs hr16 hP hS => ?_)
        obtain ⟨n17, n18⟩ := u
        have hr16 : (σ.1 8).toInt = 0 → n17.toInt = 2 := hr16
        have hP : RP D cy ad (rS (rS σ 8 n17) 9 n18) H := hP
        have hP : RP D cy ad (rS (rS (rS (rS (rS (rA (rA (rA (rA (rA (rA (rA (rA (rA (rA (rA (rA (rS (rS (rS (rJ (rA (rS σ 14 (σ.1 14)) 11 (σ.2.1 11)) 12 (σ.2.2.1 12)) 16 (σ.1 16)) 19 (σ.1 19)) 29 (σ.1 29)) 31 (σ.2.1 31)) 30 (σ.2.1 30)) 32 (σ.2.1 32)) 21 (σ.2.1 21)) 22 (σ.2.1 22)) 20 (σ.2.1 20)) 23 (σ.2.1 23)) 24 (σ.2.1 24)) 25 (σ.2.1 25)) 26 (σ.2.1 26)) 27 (σ.2.1 27)) 28 (σ.2.1 28)) 17 (σ.1 17)) 33 (σ.1 33)) 34 (σ.1 34)) 8 n17) 9 n18) H := RP.cong hP (Eq.trans (b := (σ.1 0)) rfl rfl) (Eq.trans (b := (σ.1 1)) rfl rfl) (Eq.trans (b := (σ.2.1 2)) rfl rfl) (Eq.trans (b := (σ.1 3)) rfl rfl) (Eq.trans (b := (σ.2.1 4)) rfl rfl) (Eq.trans (b := (σ.2.1 5)) rfl rfl) (Eq.trans (b := (σ.2.2.1 6)) rfl rfl) (Eq.trans (b := (σ.2.1 7)) rfl rfl) (Eq.trans (b := n17) rfl rfl) (Eq.trans (b := n18) rfl rfl) (Eq.trans (b := (σ.1 10)) rfl rfl) (Eq.trans (b := (σ.2.1 11)) rfl rfl) (Eq.trans (b := (σ.2.2.1 12)) rfl rfl) (Eq.trans (b := (σ.2.1 13)) rfl rfl) (Eq.trans (b := (σ.1 14)) rfl rfl) (Eq.trans (b := (σ.1 15)) rfl rfl) (Eq.trans (b := (σ.1 16)) rfl rfl) (Eq.trans (b := (σ.1 17)) rfl rfl) (Eq.trans (b := (σ.1 18)) rfl rfl) (Eq.trans (b := (σ.1 19)) rfl rfl) (Eq.trans (b := (σ.2.1 20)) rfl rfl) (Eq.trans (b := (σ.2.1 21)) rfl rfl) (Eq.trans (b := (σ.2.1 22)) rfl rfl) (Eq.trans (b := (σ.2.1 23)) rfl rfl) (Eq.trans (b := (σ.2.1 24)) rfl rfl) (Eq.trans (b := (σ.2.1 25)) rfl rfl) (Eq.trans (b := (σ.2.1 26)) rfl rfl) (Eq.trans (b := (σ.2.1 27)) rfl rfl) (Eq.trans (b := (σ.2.1 28)) rfl rfl) (Eq.trans (b := (σ.1 29)) rfl rfl) (Eq.trans (b := (σ.2.1 30)) rfl rfl) (Eq.trans (b := (σ.2.1 31)) rfl rfl) (Eq.trans (b := (σ.2.1 32)) rfl rfl) (Eq.trans (b := (σ.1 33)) rfl rfl) (Eq.trans (b := (σ.1 34)) rfl rfl) (Eq.trans (b := (σ.1 35)) rfl rfl) (Eq.trans (b := (σ.2.1 36)) rfl rfl) (Eq.trans (b := (σ.2.1 37)) rfl rfl) (Eq.trans (b := (σ.2.1 38)) rfl rfl) (Eq.trans (b := (σ.2.1 39)) rfl rfl) (Eq.trans (b := (σ.2.1 40)) rfl rfl) (Eq.trans (b := (σ.2.1 41)) rfl rfl) (Eq.trans (b := (σ.2.1 42)) rfl rfl) (Eq.trans (b := (σ.2.1 43)) rfl rfl) (Eq.trans (b := (σ.2.1 44)) rfl rfl) (Eq.trans (b := (σ.2.1 45)) rfl rfl) (Eq.trans (b := (σ.2.1 46)) rfl rfl) (Eq.trans (b := (σ.1 47)) rfl rfl) (Eq.trans (b := (σ.2.1 48)) rfl rfl) (Eq.trans (b := (σ.1 49)) rfl rfl) (Eq.trans (b := (σ.2.1 50)) rfl rfl) (Eq.trans (b := (σ.2.1 51)) rfl rfl) (Eq.trans (b := (σ.2.2.1 52)) rfl rfl) (Eq.trans (b := (σ.2.2.1 53)) rfl rfl) (Eq.trans (b := (σ.2.2.2)) rfl rfl) (Eq.trans (b := (σ.1 55)) rfl rfl) (Eq.trans (b := (σ.1 56)) rfl rfl) (Eq.trans (b := (σ.1 57)) rfl rfl) (Eq.trans (b := (σ.2.1 58)) rfl rfl) (Eq.trans (b := (σ.1 59)) rfl rfl)
        exact r_retv C ⟨(σ.1 14), (σ.2.1 11), (σ.2.2.1 12), (σ.1 16), (σ.1 19), (σ.1 29), (σ.2.1 31), (σ.2.1 30), (σ.2.1 32), (σ.2.1 21), (σ.2.1 22), (σ.2.1 20), (σ.2.1 23), (σ.2.1 24), (σ.2.1 25), (σ.2.1 26), (σ.2.1 27), (σ.2.1 28), (σ.1 17), (σ.1 33), (σ.1 34), n17, n18⟩ (v_assign_7 σ x1 x13 n17 hpre_0 hpre_1 hpre_2 hpre_3 hpre_4 hpre_5 hpre_6 ex1 tx1 c2 hr7_0 hr7_1 ex13 tx13 c14 hr16) hP hS dX12_assign_50
      · have c14 : ¬ x13.toInt = 0 := by have h := z_ne c14; rw [show (0 : Int32).toInt = 0 from by decide +kernel] at h; exact h
        refine lv_aload_n hx hb dX12_assign_27 rfl (lv_at hl 0 rfl) ?_
        refine rg_28 C hP wm_81 dX12_assign_28 ?_
        refine lv_iconst (v := 0) hx hb dX12_assign_31 (by decide +kernel) ?_
        refine ra_28 (f := (σ.2.1 28)) C hP rfl (vp_in_iff.mpr (by decide +kernel)) dX12_assign_32 (fun x19 ex19 => ?_)
        have ex19 : x19 = (σ.2.1 28) 0 := ex19
        have tx19 : x19.toInt = ((σ.2.1 28) 0).toInt := by rw [ex19]
        refine lv_if_eq (tgt := 40) hx hb dX12_assign_33 (by decide) (fun c20 => ?_) (fun c20 => ?_)
        · have c20 : x19.toInt = 0 := by have h := z_eq c20; rw [show (0 : Int32).toInt = 0 from by decide +kernel] at h; exact h
          refine lv_iconst (v := 0) hx hb dX12_assign_40 (by decide +kernel) ?_
          refine lv_istore_n (lv' := [(1, .int 0), (0, .ref (ad 0))]) hx hb dX12_assign_41 rfl hl (by decide) rfl (fun ls hl => ?_)
          refine lv_iload_n hx hb dX12_assign_42 rfl (lv_at hl 0 rfl) ?_
          refine lv_if_ne (tgt := 51) hx hb dX12_assign_43 (by decide) (fun c21 => absurd (by decide +kernel) c21) (fun _ => ?_)
          refine lv_aload_n hx hb dX12_assign_46 rfl (lv_at hl 1 rfl) ?_
          refine r_callVv (As := []) (rest := []) C hP hS hl.1 ⟨Nat.zero_le _, Nat.zero_le _⟩ (M_misfit l D cy sz0 sa ad σ H.size  (v_assign_8 σ x1 x13 x19 hpre_0 hpre_1 hpre_2 hpre_4 hpre_5 hpre_6 ex1 tx1 c2 hr7_0 hr7_1 ex13 tx13 c14 ex19 tx19 c20)) (n := 0) ⟨wm_116, wm_63, by decide +kernel⟩ ⟨wm_117, wm_118, wm_10⟩ rfl rfl (lv_room (Nat.le_of_ble_eq_true rfl)) ⟨Nat.le_of_ble_eq_true rfl, Nat.le_of_ble_eq_true rfl⟩ dX12_assign_47 (fun u H locs hr22 hP hS => ?_)
          obtain ⟨n23, n24⟩ := u
          have hr22 : (σ.1 8).toInt = 0 → n23.toInt = 2 := hr22
          have hP : RP D cy ad (rS (rS σ 8 n23) 9 n24) H := hP
          have hP : RP D cy ad (rS (rS (rS (rS (rS (rA (rA (rA (rA (rA (rA (rA (rA (rA (rA (rA (rA (rS (rS (rS (rJ (rA (rS σ 14 (σ.1 14)) 11 (σ.2.1 11)) 12 (σ.2.2.1 12)) 16 (σ.1 16)) 19 (σ.1 19)) 29 (σ.1 29)) 31 (σ.2.1 31)) 30 (σ.2.1 30)) 32 (σ.2.1 32)) 21 (σ.2.1 21)) 22 (σ.2.1 22)) 20 (σ.2.1 20)) 23 (σ.2.1 23)) 24 (σ.2.1 24)) 25 (σ.2.1 25)) 26 (σ.2.1 26)) 27 (σ.2.1 27)) 28 (σ.2.1 28)) 17 (σ.1 17)) 33 (σ.1 33)) 34 (σ.1 34)) 8 n23) 9 n24) H := RP.cong hP (Eq.trans (b := (σ.1 0)) rfl rfl) (Eq.trans (b := (σ.1 1)) rfl rfl) (Eq.trans (b := (σ.2.1 2)) rfl rfl) (Eq.trans (b := (σ.1 3)) rfl rfl) (Eq.trans (b := (σ.2.1 4)) rfl rfl) (Eq.trans (b := (σ.2.1 5)) rfl rfl) (Eq.trans (b := (σ.2.2.1 6)) rfl rfl) (Eq.trans (b := (σ.2.1 7)) rfl rfl) (Eq.trans (b := n23) rfl rfl) (Eq.trans (b := n24) rfl rfl) (Eq.trans (b := (σ.1 10)) rfl rfl) (Eq.trans (b := (σ.2.1 11)) rfl rfl) (Eq.trans (b := (σ.2.2.1 12)) rfl rfl) (Eq.trans (b := (σ.2.1 13)) rfl rfl) (Eq.trans (b := (σ.1 14)) rfl rfl) (Eq.trans (b := (σ.1 15)) rfl rfl) (Eq.trans (b := (σ.1 16)) rfl rfl) (Eq.trans (b := (σ.1 17)) rfl rfl) (Eq.trans (b := (σ.1 18)) rfl rfl) (Eq.trans (b := (σ.1 19)) rfl rfl) (Eq.trans (b := (σ.2.1 20)) rfl rfl) (Eq.trans (b := (σ.2.1 21)) rfl rfl) (Eq.trans (b := (σ.2.1 22)) rfl rfl) (Eq.trans (b := (σ.2.1 23)) rfl rfl) (Eq.trans (b := (σ.2.1 24)) rfl rfl) (Eq.trans (b := (σ.2.1 25)) rfl rfl) (Eq.trans (b := (σ.2.1 26)) rfl rfl) (Eq.trans (b := (σ.2.1 27)) rfl rfl) (Eq.trans (b := (σ.2.1 28)) rfl rfl) (Eq.trans (b := (σ.1 29)) rfl rfl) (Eq.trans (b := (σ.2.1 30)) rfl rfl) (Eq.trans (b := (σ.2.1 31)) rfl rfl) (Eq.trans (b := (σ.2.1 32)) rfl rfl) (Eq.trans (b := (σ.1 33)) rfl rfl) (Eq.trans (b := (σ.1 34)) rfl rfl) (Eq.trans (b := (σ.1 35)) rfl rfl) (Eq.trans (b := (σ.2.1 36)) rfl rfl) (Eq.trans (b := (σ.2.1 37)) rfl rfl) (Eq.trans (b := (σ.2.1 38)) rfl rfl) (Eq.trans (b := (σ.2.1 39)) rfl rfl) (Eq.trans (b := (σ.2.1 40)) rfl rfl) (Eq.trans (b := (σ.2.1 41)) rfl rfl) (Eq.trans (b := (σ.2.1 42)) rfl rfl) (Eq.trans (b := (σ.2.1 43)) rfl rfl) (Eq.trans (b := (σ.2.1 44)) rfl rfl) (Eq.trans (b := (σ.2.1 45)) rfl rfl) (Eq.trans (b := (σ.2.1 46)) rfl rfl) (Eq.trans (b := (σ.1 47)) rfl rfl) (Eq.trans (b := (σ.2.1 48)) rfl rfl) (Eq.trans (b := (σ.1 49)) rfl rfl) (Eq.trans (b := (σ.2.1 50)) rfl rfl) (Eq.trans (b := (σ.2.1 51)) rfl rfl) (Eq.trans (b := (σ.2.2.1 52)) rfl rfl) (Eq.trans (b := (σ.2.2.1 53)) rfl rfl) (Eq.trans (b := (σ.2.2.2)) rfl rfl) (Eq.trans (b := (σ.1 55)) rfl rfl) (Eq.trans (b := (σ.1 56)) rfl rfl) (Eq.trans (b := (σ.1 57)) rfl rfl) (Eq.trans (b := (σ.2.1 58)) rfl rfl) (Eq.trans (b := (σ.1 59)) rfl rfl)
          exact r_retv C ⟨(σ.1 14), (σ.2.1 11), (σ.2.2.1 12), (σ.1 16), (σ.1 19), (σ.1 29), (σ.2.1 31), (σ.2.1 30), (σ.2.1 32), (σ.2.1 21), (σ.2.1 22), (σ.2.1 20), (σ.2.1 23), (σ.2.1 24), (σ.2.1 25), (σ.2.1 26), (σ.2.1 27), (σ.2.1 28), (σ.1 17), (σ.1 33), (σ.1 34), n23, n24⟩ (v_assign_9 σ x1 x13 x19 n23 hpre_0 hpre_1 hpre_2 hpre_3 hpre_4 hpre_5 hpre_6 ex1 tx1 c2 hr7_0 hr7_1 ex13 tx13 c14 ex19 tx19 c20 hr22) hP hS dX12_assign_50
        · have c20 : ¬ x19.toInt = 0 := by have h := z_ne c20; rw [show (0 : Int32).toInt = 0 from by decide +kernel] at h; exact h
          refine lv_iconst (v := 1) hx hb dX12_assign_36 (by decide +kernel) ?_
          refine lv_goto (tgt := 41) hx hb dX12_assign_37 (by decide) ?_
          refine lv_istore_n (lv' := [(1, .int 1), (0, .ref (ad 0))]) hx hb dX12_assign_41 rfl hl (by decide) rfl (fun ls hl => ?_)
          refine lv_iload_n hx hb dX12_assign_42 rfl (lv_at hl 0 rfl) ?_
          refine lv_if_ne (tgt := 51) hx hb dX12_assign_43 (by decide) (fun _ => ?_) (fun c25 => absurd c25 (by decide +kernel))
          refine lv_aload_n hx hb dX12_assign_51 rfl (lv_at hl 1 rfl) ?_
          refine lv_dup hx hb dX12_assign_52 rfl ?_
          refine rg_14 (v := (σ.1 14)) C hP rfl wm_62 dX12_assign_53 ?_
          refine lv_iconst (v := 1) hx hb dX12_assign_56 (by decide +kernel) ?_
          refine lv_iadd hx hb dX12_assign_57 ?_
          refine lv_topi (fun x26 ex26 => ?_)
          have tx26 : x26.toInt = (σ.1 14).toInt + 1 := (v_assign_10 σ x1 x13 x19 x26 hpre_0 hpre_1 hpre_2 hpre_4 hpre_5 hpre_6 ex1 tx1 c2 hr7_0 hr7_1 ex13 tx13 c14 ex19 tx19 c20 ex26)
          refine rp_14 C hP hS wm_62 dX12_assign_58 (fun H locs hP hS => ?_)
          refine lv_aload_n hx hb dX12_assign_61 rfl (lv_at hl 1 rfl) ?_
          refine lv_dup hx hb dX12_assign_62 rfl ?_
          refine rg_16 (v := (σ.1 16)) C hP rfl wm_67 dX12_assign_63 ?_
          refine lv_iconst (v := 1) hx hb dX12_assign_66 (by decide +kernel) ?_
          refine lv_isub hx hb dX12_assign_67 ?_
          refine lv_topi (fun x27 ex27 => ?_)
          have tx27 : x27.toInt = (σ.1 16).toInt - 1 := (v_assign_11 σ x1 x13 x19 x26 x27 hpre_0 hpre_1 hpre_2 hpre_4 hpre_5 hpre_6 ex1 tx1 c2 hr7_0 hr7_1 ex13 tx13 c14 ex19 tx19 c20 ex26 tx26 ex27)
          refine rp_16 C hP hS wm_67 dX12_assign_68 (fun H locs hP hS => ?_)
          refine lv_aload_n hx hb dX12_assign_71 rfl (lv_at hl 1 rfl) ?_
          refine rg_11 C hP wm_65 dX12_assign_72 ?_
          refine lv_aload_n hx hb dX12_assign_75 rfl (lv_at hl 1 rfl) ?_
          refine rg_15 (v := (σ.1 15)) C hP rfl wm_66 dX12_assign_76 ?_
          refine lv_aload_n hx hb dX12_assign_79 rfl (lv_at hl 1 rfl) ?_
          refine rg_16 (v := x27) C hP rfl wm_67 dX12_assign_80 ?_
          refine lv_iadd hx hb dX12_assign_83 ?_
          refine lv_topi (fun x28 ex28 => ?_)
          have tx28 : x28.toInt = (σ.1 15).toInt + x27.toInt := (v_assign_12 σ x1 x13 x19 x26 x27 x28 hpre_0 hpre_1 hpre_2 hpre_4 hpre_5 hpre_6 ex1 tx1 c2 hr7_0 hr7_1 ex13 tx13 c14 ex19 tx19 c20 ex26 tx26 ex27 tx27 ex28)
          refine ra_11 (f := (σ.2.1 11)) C hP rfl (v_assign_13 σ x1 x13 x19 x26 x27 x28 hpre_0 hpre_1 hpre_2 hpre_4 hpre_5 hpre_6 ex1 tx1 c2 hr7_0 hr7_1 ex13 tx13 c14 ex19 tx19 c20 ex26 tx26 ex27 tx27 ex28 tx28) dX12_assign_84 (fun x29 ex29 => ?_)
          have tx29 : x29.toInt = ((σ.2.1 11) ((σ.1 15).toInt + x27.toInt).toNat).toInt := by rw [ex29, clampN, tx28]
          refine lv_istore_n (lv' := [(2, .int x29), (1, .int 1), (0, .ref (ad 0))]) hx hb dX12_assign_85 rfl hl (by decide) rfl (fun ls hl => ?_)
          refine lv_aload_n hx hb dX12_assign_86 rfl (lv_at hl 2 rfl) ?_
          refine lv_aload_n hx hb dX12_assign_87 rfl (lv_at hl 2 rfl) ?_
          refine rg_12 C hP wm_68 dX12_assign_88 ?_
          refine lv_aload_n hx hb dX12_assign_91 rfl (lv_at hl 2 rfl) ?_
          refine rg_15 (v := (σ.1 15)) C hP rfl wm_66 dX12_assign_92 ?_
          refine lv_aload_n hx hb dX12_assign_95 rfl (lv_at hl 2 rfl) ?_
          refine rg_16 (v := x27) C hP rfl wm_67 dX12_assign_96 ?_
          refine lv_iadd hx hb dX12_assign_99 ?_
          refine lv_topi (fun x30 ex30 => ?_)
          have tx30 : x30.toInt = (σ.1 15).toInt + x27.toInt := (v_assign_14 σ x1 x13 x19 x26 x27 x28 x29 x30 hpre_0 hpre_1 hpre_2 hpre_4 hpre_5 hpre_6 ex1 tx1 c2 hr7_0 hr7_1 ex13 tx13 c14 ex19 tx19 c20 ex26 tx26 ex27 tx27 ex28 tx28 ex29 tx29 ex30)
          refine ra_12 (f := (σ.2.2.1 12)) C hP rfl (v_assign_15 σ x1 x13 x19 x26 x27 x28 x29 x30 hpre_0 hpre_1 hpre_2 hpre_4 hpre_5 hpre_6 ex1 tx1 c2 hr7_0 hr7_1 ex13 tx13 c14 ex19 tx19 c20 ex26 tx26 ex27 tx27 ex28 tx28 ex29 tx29 ex30 tx30) dX12_assign_100 (fun x31 ex31 => ?_)
          have tx31 : x31.toInt = ((σ.2.2.1 12) ((σ.1 15).toInt + x27.toInt).toNat).toInt := by rw [ex31, clampN, tx30]
          refine lv_l2i hx hb dX12_assign_101 rfl ?_
          refine lv_topi (fun x32 ex32 => ?_)
          have tx32 : -2147483648 ≤ x31.toInt → x31.toInt < 2147483648 → x32.toInt = x31.toInt := z_l2i ex32
          refine rp_33 C hP hS wm_136 dX12_assign_102 (fun H locs hP hS => ?_)
          refine lv_aload_n hx hb dX12_assign_105 rfl (lv_at hl 2 rfl) ?_
          refine lv_iload_n hx hb dX12_assign_106 rfl (lv_at hl 0 rfl) ?_
          refine lv_bipush (v := 9) hx hb dX12_assign_107 (by decide +kernel) ?_
          refine lv_icmp_ne (tgt := 117) hx hb dX12_assign_109 (by decide) (fun c33 => ?_) (fun c33 => ?_)
          · have c33 : ¬ x29.toInt = 9 := by have h := z_ne c33; rw [show (9 : Int32).toInt = 9 from by decide +kernel] at h; exact h
            refine lv_bipush (v := 40) hx hb dX12_assign_117 (by decide +kernel) ?_
            refine rp_34 C hP hS wm_135 dX12_assign_119 (fun H locs hP hS => ?_)
            refine lv_iload_n hx hb dX12_assign_122 rfl (lv_at hl 0 rfl) ?_
            refine lv_bipush (v := 9) hx hb dX12_assign_123 (by decide +kernel) ?_
            refine lv_icmp_eq (tgt := 140) hx hb dX12_assign_125 (by decide) (fun c34 => ?_) (fun c34 => ?_)
            · have c34 : x29.toInt = 9 := by have h := z_eq c34; rw [show (9 : Int32).toInt = 9 from by decide +kernel] at h; exact h
              exact absurd (v_assign_16 σ x27 x28 x29 ex29 tx29 c33 c34) id
            · have c34 : ¬ x29.toInt = 9 := by have h := z_ne c34; rw [show (9 : Int32).toInt = 9 from by decide +kernel] at h; exact h
              refine lv_aload_n hx hb dX12_assign_128 rfl (lv_at hl 2 rfl) ?_
              refine lv_bipush (v := 39) hx hb dX12_assign_129 (by decide +kernel) ?_
              refine lv_aload_n hx hb dX12_assign_131 rfl (lv_at hl 2 rfl) ?_
              refine rg_33 (v := x32) C hP rfl wm_136 dX12_assign_132 ?_
              refine lv_i2l hx hb dX12_assign_135 rfl ?_
              refine lv_topl (fun x35 ex35 => ?_)
              have tx35 : x35.toInt = x32.toInt := by rw [ex35]; exact Int32.toInt_toInt64 _
              refine r_callVi (As := [.int 39, .long x35]) (rest := []) C hP hS hl.1 ⟨Nat.zero_le _, Nat.zero_le _⟩ (M_emit l D cy sz0 sa ad (rS (rS (rS (rS σ 14 x26) 16 x27) 33 x32) 34 (40 : Int32)) H.size (39 : Int32) x35 (v_assign_17 σ x1 x13 x19 x26 x27 x28 x29 x30 x31 x32 x35 hpre_0 hpre_1 hpre_2 hpre_4 hpre_5 hpre_6 ex1 tx1 c2 hr7_0 hr7_1 ex13 tx13 c14 ex19 tx19 c20 ex26 tx26 ex27 tx27 ex28 tx28 ex29 tx29 ex30 tx30 ex31 tx31 ex32 tx32 c33 c34 ex35 tx35)) (n := 2) ⟨wm_89, wm_64, by decide +kernel⟩ ⟨wm_90, wm_91, wm_10⟩ rfl rfl (lv_room (Nat.le_of_ble_eq_true rfl)) ⟨Nat.le_of_ble_eq_true rfl, Nat.le_of_ble_eq_true rfl⟩ dX12_assign_136 (fun r36 u H locs hr36 hP hS => ?_)
              obtain ⟨n37, rfl⟩ : ∃ z, z = u := ⟨_, rfl⟩
              have hr36 : n37.toInt = x27.toInt + 1 ∧ r36.toInt = (σ.1 15).toInt + x27.toInt := hr36
              obtain ⟨hr36_0, hr36_1⟩ := hr36
              have hP : RP D cy ad (rS (rJ (rA (rS (rS (rS (rS σ 14 x26) 16 x27) 33 x32) 34 (40 : Int32)) 11 (upd (σ.2.1 11) ((σ.1 15).toInt + x27.toInt).toNat (39 : Int32))) 12 (vp_updL (σ.2.2.1 12) ((σ.1 15).toInt + x27.toInt).toNat x35)) 16 n37) H := hP
              refine lv_pop hx hb dX12_assign_139 rfl ?_
              refine lv_aload_n hx hb dX12_assign_140 rfl (lv_at hl 2 rfl) ?_
              refine rg_20 C hP wm_71 dX12_assign_141 ?_
              refine lv_iconst (v := 0) hx hb dX12_assign_144 (by decide +kernel) ?_
              refine lv_iconst (v := 1) hx hb dX12_assign_145 (by decide +kernel) ?_
              refine rw_20 (f := (σ.2.1 20)) C hP hS rfl (vp_in_iff.mpr (by decide +kernel)) dX12_assign_146 (fun H locs hP hS => ?_)
              refine lv_aload_n hx hb dX12_assign_147 rfl (lv_at hl 2 rfl) ?_
              refine r_callVv (As := []) (rest := []) C hP hS hl.1 ⟨Nat.zero_le _, Nat.zero_le _⟩ (M_fresh l D cy sz0 sa ad (rA (rS (rJ (rA (rS (rS (rS (rS σ 14 x26) 16 x27) 33 x32) 34 (40 : Int32)) 11 (upd (σ.2.1 11) ((σ.1 15).toInt + x27.toInt).toNat (39 : Int32))) 12 (vp_updL (σ.2.2.1 12) ((σ.1 15).toInt + x27.toInt).toNat x35)) 16 n37) 20 (upd (σ.2.1 20) 0 (1 : Int32))) H.size  (v_assign_18 σ x1 x13 x19 x26 x27 x28 x29 x30 x31 x32 x35 n37 r36 hpre_0 hpre_1 hpre_2 hpre_4 hpre_5 hpre_6 ex1 tx1 c2 hr7_0 hr7_1 ex13 tx13 c14 ex19 tx19 c20 ex26 tx26 ex27 tx27 ex28 tx28 ex29 tx29 ex30 tx30 ex31 tx31 ex32 c33 c34 ex35 tx35 hr36_0 hr36_1)) (n := 0) ⟨wm_72, wm_75, by decide +kernel⟩ ⟨wm_73, wm_74, wm_10⟩ rfl rfl (lv_room (Nat.le_of_ble_eq_true rfl)) ⟨Nat.le_of_ble_eq_true rfl, Nat.le_of_ble_eq_true rfl⟩ dX12_assign_148 (fun u H locs hr38 hP hS => ?_)
              have hr38 : True := hr38
              have hP : RP D cy ad (rS (rA (rA (rA (rA (rA (rA (rS (rJ (rA (rS (rS (rS (rS σ 14 x26) 16 x27) 33 x32) 34 (40 : Int32)) 11 (upd (σ.2.1 11) ((σ.1 15).toInt + x27.toInt).toNat (39 : Int32))) 12 (vp_updL (σ.2.2.1 12) ((σ.1 15).toInt + x27.toInt).toNat x35)) 16 n37) 20 (upd (σ.2.1 20) 0 (1 : Int32))) 21 (upd (σ.2.1 21) ((σ.1 19).toInt - 1).toNat (σ.1 29))) 22 (upd (σ.2.1 22) ((σ.1 19).toInt - 1).toNat (0 : Int32))) 26 (upd (σ.2.1 26) ((σ.1 19).toInt - 1).toNat (0 : Int32))) 27 (upd (σ.2.1 27) ((σ.1 19).toInt - 1).toNat (1 : Int32))) 28 (upd (σ.2.1 28) ((σ.1 19).toInt - 1).toNat (0 : Int32))) 17 (1 : Int32)) H := hP
              have hP : RP D cy ad (rS (rS (rS (rS (rS (rA (rA (rA (rA (rA (rA (rA (rA (rA (rA (rA (rA (rS (rS (rS (rJ (rA (rS σ 14 x26) 11 (upd (σ.2.1 11) ((σ.1 15).toInt + x27.toInt).toNat (39 : Int32))) 12 (vp_updL (σ.2.2.1 12) ((σ.1 15).toInt + x27.toInt).toNat x35)) 16 n37) 19 (σ.1 19)) 29 (σ.1 29)) 31 (σ.2.1 31)) 30 (σ.2.1 30)) 32 (σ.2.1 32)) 21 (upd (σ.2.1 21) ((σ.1 19).toInt - 1).toNat (σ.1 29))) 22 (upd (σ.2.1 22) ((σ.1 19).toInt - 1).toNat (0 : Int32))) 20 (upd (σ.2.1 20) 0 (1 : Int32))) 23 (σ.2.1 23)) 24 (σ.2.1 24)) 25 (σ.2.1 25)) 26 (upd (σ.2.1 26) ((σ.1 19).toInt - 1).toNat (0 : Int32))) 27 (upd (σ.2.1 27) ((σ.1 19).toInt - 1).toNat (1 : Int32))) 28 (upd (σ.2.1 28) ((σ.1 19).toInt - 1).toNat (0 : Int32))) 17 (1 : Int32)) 33 x32) 34 (40 : Int32)) 8 (σ.1 8)) 9 (σ.1 9)) H := RP.cong hP (Eq.trans (b := (σ.1 0)) rfl rfl) (Eq.trans (b := (σ.1 1)) rfl rfl) (Eq.trans (b := (σ.2.1 2)) rfl rfl) (Eq.trans (b := (σ.1 3)) rfl rfl) (Eq.trans (b := (σ.2.1 4)) rfl rfl) (Eq.trans (b := (σ.2.1 5)) rfl rfl) (Eq.trans (b := (σ.2.2.1 6)) rfl rfl) (Eq.trans (b := (σ.2.1 7)) rfl rfl) (Eq.trans (b := (σ.1 8)) rfl rfl) (Eq.trans (b := (σ.1 9)) rfl rfl) (Eq.trans (b := (σ.1 10)) rfl rfl) (Eq.trans (b := (upd (σ.2.1 11) ((σ.1 15).toInt + x27.toInt).toNat (39 : Int32))) rfl rfl) (Eq.trans (b := (vp_updL (σ.2.2.1 12) ((σ.1 15).toInt + x27.toInt).toNat x35)) rfl rfl) (Eq.trans (b := (σ.2.1 13)) rfl rfl) (Eq.trans (b := x26) rfl rfl) (Eq.trans (b := (σ.1 15)) rfl rfl) (Eq.trans (b := n37) rfl rfl) (Eq.trans (b := (1 : Int32)) rfl rfl) (Eq.trans (b := (σ.1 18)) rfl rfl) (Eq.trans (b := (σ.1 19)) rfl rfl) (Eq.trans (b := (upd (σ.2.1 20) 0 (1 : Int32))) rfl rfl) (Eq.trans (b := (upd (σ.2.1 21) ((σ.1 19).toInt - 1).toNat (σ.1 29))) rfl rfl) (Eq.trans (b := (upd (σ.2.1 22) ((σ.1 19).toInt - 1).toNat (0 : Int32))) rfl rfl) (Eq.trans (b := (σ.2.1 23)) rfl rfl) (Eq.trans (b := (σ.2.1 24)) rfl rfl) (Eq.trans (b := (σ.2.1 25)) rfl rfl) (Eq.trans (b := (upd (σ.2.1 26) ((σ.1 19).toInt - 1).toNat (0 : Int32))) rfl rfl) (Eq.trans (b := (upd (σ.2.1 27) ((σ.1 19).toInt - 1).toNat (1 : Int32))) rfl rfl) (Eq.trans (b := (upd (σ.2.1 28) ((σ.1 19).toInt - 1).toNat (0 : Int32))) rfl rfl) (Eq.trans (b := (σ.1 29)) rfl rfl) (Eq.trans (b := (σ.2.1 30)) rfl rfl) (Eq.trans (b := (σ.2.1 31)) rfl rfl) (Eq.trans (b := (σ.2.1 32)) rfl rfl) (Eq.trans (b := x32) rfl rfl) (Eq.trans (b := (40 : Int32)) rfl rfl) (Eq.trans (b := (σ.1 35)) rfl rfl) (Eq.trans (b := (σ.2.1 36)) rfl rfl) (Eq.trans (b := (σ.2.1 37)) rfl rfl) (Eq.trans (b := (σ.2.1 38)) rfl rfl) (Eq.trans (b := (σ.2.1 39)) rfl rfl) (Eq.trans (b := (σ.2.1 40)) rfl rfl) (Eq.trans (b := (σ.2.1 41)) rfl rfl) (Eq.trans (b := (σ.2.1 42)) rfl rfl) (Eq.trans (b := (σ.2.1 43)) rfl rfl) (Eq.trans (b := (σ.2.1 44)) rfl rfl) (Eq.trans (b := (σ.2.1 45)) rfl rfl) (Eq.trans (b := (σ.2.1 46)) rfl rfl) (Eq.trans (b := (σ.1 47)) rfl rfl) (Eq.trans (b := (σ.2.1 48)) rfl rfl) (Eq.trans (b := (σ.1 49)) rfl rfl) (Eq.trans (b := (σ.2.1 50)) rfl rfl) (Eq.trans (b := (σ.2.1 51)) rfl rfl) (Eq.trans (b := (σ.2.2.1 52)) rfl rfl) (Eq.trans (b := (σ.2.2.1 53)) rfl rfl) (Eq.trans (b := (σ.2.2.2)) rfl rfl) (Eq.trans (b := (σ.1 55)) rfl rfl) (Eq.trans (b := (σ.1 56)) rfl rfl) (Eq.trans (b := (σ.1 57)) rfl rfl) (Eq.trans (b := (σ.2.1 58)) rfl rfl) (Eq.trans (b := (σ.1 59)) rfl rfl)
              exact r_retv C ⟨x26, (upd (σ.2.1 11) ((σ.1 15).toInt + x27.toInt).toNat (39 : Int32)), (vp_updL (σ.2.2.1 12) ((σ.1 15).toInt + x27.toInt).toNat x35), n37, (σ.1 19), (σ.1 29), (σ.2.1 31), (σ.2.1 30), (σ.2.1 32), (upd (σ.2.1 21) ((σ.1 19).toInt - 1).toNat (σ.1 29)), (upd (σ.2.1 22) ((σ.1 19).toInt - 1).toNat (0 : Int32)), (upd (σ.2.1 20) 0 (1 : Int32)), (σ.2.1 23), (σ.2.1 24), (σ.2.1 25), (upd (σ.2.1 26) ((σ.1 19).toInt - 1).toNat (0 : Int32)), (upd (σ.2.1 27) ((σ.1 19).toInt - 1).toNat (1 : Int32)), (upd (σ.2.1 28) ((σ.1 19).toInt - 1).toNat (0 : Int32)), (1 : Int32), x32, (40 : Int32), (σ.1 8), (σ.1 9)⟩ (v_assign_19 σ x1 x13 x19 x26 x27 x28 x29 x30 x31 x32 x35 n37 r36 hpre_0 hpre_1 hpre_2 hpre_3 hpre_4 hpre_5 hpre_6 ex1 tx1 c2 hr7_0 hr7_1 ex13 tx13 c14 ex19 tx19 c20 ex26 tx26 ex27 tx27 ex28 tx28 ex29 tx29 ex30 tx30 ex31 tx31 ex32 tx32 c33 c34 ex35 tx35 hr36_0 hr36_1) hP hS dX12_assign_151
          · have c33 : x29.toInt = 9 := by have h := z_eq c33; rw [show (9 : Int32).toInt = 9 from by decide +kernel] at h; exact h
            refine lv_bipush (v := 38) hx hb dX12_assign_112 (by decide +kernel) ?_
            refine lv_goto (tgt := 119) hx hb dX12_assign_114 (by decide) ?_
            refine rp_34 C hP hS wm_135 dX12_assign_119 (fun H locs hP hS => ?_)
            refine lv_iload_n hx hb dX12_assign_122 rfl (lv_at hl 0 rfl) ?_
            refine lv_bipush (v := 9) hx hb dX12_assign_123 (by decide +kernel) ?_
            refine lv_icmp_eq (tgt := 140) hx hb dX12_assign_125 (by decide) (fun c39 => ?_) (fun c39 => ?_)
            · have c39 : x29.toInt = 9 := by have h := z_eq c39; rw [show (9 : Int32).toInt = 9 from by decide +kernel] at h; exact h
              refine lv_aload_n hx hb dX12_assign_140 rfl (lv_at hl 2 rfl) ?_
              refine rg_20 C hP wm_71 dX12_assign_141 ?_
              refine lv_iconst (v := 0) hx hb dX12_assign_144 (by decide +kernel) ?_
              refine lv_iconst (v := 1) hx hb dX12_assign_145 (by decide +kernel) ?_
              refine rw_20 (f := (σ.2.1 20)) C hP hS rfl (vp_in_iff.mpr (by decide +kernel)) dX12_assign_146 (fun H locs hP hS => ?_)
              refine lv_aload_n hx hb dX12_assign_147 rfl (lv_at hl 2 rfl) ?_
              refine r_callVv (As := []) (rest := []) C hP hS hl.1 ⟨Nat.zero_le _, Nat.zero_le _⟩ (M_fresh l D cy sz0 sa ad (rA (rS (rS (rS (rS σ 14 x26) 16 x27) 33 x32) 34 (38 : Int32)) 20 (upd (σ.2.1 20) 0 (1 : Int32))) H.size  (v_assign_20 σ x1 x13 x19 x26 x27 x28 x29 x30 x31 x32 hpre_0 hpre_1 hpre_2 hpre_4 hpre_5 hpre_6 ex1 tx1 c2 hr7_0 hr7_1 ex13 tx13 c14 ex19 tx19 c20 ex26 tx26 ex27 tx27 ex28 tx28 ex29 tx29 ex30 tx30 ex31 tx31 ex32 c33 c39)) (n := 0) ⟨wm_72, wm_75, by decide +kernel⟩ ⟨wm_73, wm_74, wm_10⟩ rfl rfl (lv_room (Nat.le_of_ble_eq_true rfl)) ⟨Nat.le_of_ble_eq_true rfl, Nat.le_of_ble_eq_true rfl⟩ dX12_assign_148 (fun u H locs hr40 hP hS => ?_)
              have hr40 : True := hr40
              have hP : RP D cy ad (rS (rA (rA (rA (rA (rA (rA (rS (rS (rS (rS σ 14 x26) 16 x27) 33 x32) 34 (38 : Int32)) 20 (upd (σ.2.1 20) 0 (1 : Int32))) 21 (upd (σ.2.1 21) ((σ.1 19).toInt - 1).toNat (σ.1 29))) 22 (upd (σ.2.1 22) ((σ.1 19).toInt - 1).toNat (0 : Int32))) 26 (upd (σ.2.1 26) ((σ.1 19).toInt - 1).toNat (0 : Int32))) 27 (upd (σ.2.1 27) ((σ.1 19).toInt - 1).toNat (1 : Int32))) 28 (upd (σ.2.1 28) ((σ.1 19).toInt - 1).toNat (0 : Int32))) 17 (1 : Int32)) H := hP
              have hP : RP D cy ad (rS (rS (rS (rS (rS (rA (rA (rA (rA (rA (rA (rA (rA (rA (rA (rA (rA (rS (rS (rS (rJ (rA (rS σ 14 x26) 11 (σ.2.1 11)) 12 (σ.2.2.1 12)) 16 x27) 19 (σ.1 19)) 29 (σ.1 29)) 31 (σ.2.1 31)) 30 (σ.2.1 30)) 32 (σ.2.1 32)) 21 (upd (σ.2.1 21) ((σ.1 19).toInt - 1).toNat (σ.1 29))) 22 (upd (σ.2.1 22) ((σ.1 19).toInt - 1).toNat (0 : Int32))) 20 (upd (σ.2.1 20) 0 (1 : Int32))) 23 (σ.2.1 23)) 24 (σ.2.1 24)) 25 (σ.2.1 25)) 26 (upd (σ.2.1 26) ((σ.1 19).toInt - 1).toNat (0 : Int32))) 27 (upd (σ.2.1 27) ((σ.1 19).toInt - 1).toNat (1 : Int32))) 28 (upd (σ.2.1 28) ((σ.1 19).toInt - 1).toNat (0 : Int32))) 17 (1 : Int32)) 33 x32) 34 (38 : Int32)) 8 (σ.1 8)) 9 (σ.1 9)) H := RP.cong hP (Eq.trans (b := (σ.1 0)) rfl rfl) (Eq.trans (b := (σ.1 1)) rfl rfl) (Eq.trans (b := (σ.2.1 2)) rfl rfl) (Eq.trans (b := (σ.1 3)) rfl rfl) (Eq.trans (b := (σ.2.1 4)) rfl rfl) (Eq.trans (b := (σ.2.1 5)) rfl rfl) (Eq.trans (b := (σ.2.2.1 6)) rfl rfl) (Eq.trans (b := (σ.2.1 7)) rfl rfl) (Eq.trans (b := (σ.1 8)) rfl rfl) (Eq.trans (b := (σ.1 9)) rfl rfl) (Eq.trans (b := (σ.1 10)) rfl rfl) (Eq.trans (b := (σ.2.1 11)) rfl rfl) (Eq.trans (b := (σ.2.2.1 12)) rfl rfl) (Eq.trans (b := (σ.2.1 13)) rfl rfl) (Eq.trans (b := x26) rfl rfl) (Eq.trans (b := (σ.1 15)) rfl rfl) (Eq.trans (b := x27) rfl rfl) (Eq.trans (b := (1 : Int32)) rfl rfl) (Eq.trans (b := (σ.1 18)) rfl rfl) (Eq.trans (b := (σ.1 19)) rfl rfl) (Eq.trans (b := (upd (σ.2.1 20) 0 (1 : Int32))) rfl rfl) (Eq.trans (b := (upd (σ.2.1 21) ((σ.1 19).toInt - 1).toNat (σ.1 29))) rfl rfl) (Eq.trans (b := (upd (σ.2.1 22) ((σ.1 19).toInt - 1).toNat (0 : Int32))) rfl rfl) (Eq.trans (b := (σ.2.1 23)) rfl rfl) (Eq.trans (b := (σ.2.1 24)) rfl rfl) (Eq.trans (b := (σ.2.1 25)) rfl rfl) (Eq.trans (b := (upd (σ.2.1 26) ((σ.1 19).toInt - 1).toNat (0 : Int32))) rfl rfl) (Eq.trans (b := (upd (σ.2.1 27) ((σ.1 19).toInt - 1).toNat (1 : Int32))) rfl rfl) (Eq.trans (b := (upd (σ.2.1 28) ((σ.1 19).toInt - 1).toNat (0 : Int32))) rfl rfl) (Eq.trans (b := (σ.1 29)) rfl rfl) (Eq.trans (b := (σ.2.1 30)) rfl rfl) (Eq.trans (b := (σ.2.1 31)) rfl rfl) (Eq.trans (b := (σ.2.1 32)) rfl rfl) (Eq.trans (b := x32) rfl rfl) (Eq.trans (b := (38 : Int32)) rfl rfl) (Eq.trans (b := (σ.1 35)) rfl rfl) (Eq.trans (b := (σ.2.1 36)) rfl rfl) (Eq.trans (b := (σ.2.1 37)) rfl rfl) (Eq.trans (b := (σ.2.1 38)) rfl rfl) (Eq.trans (b := (σ.2.1 39)) rfl rfl) (Eq.trans (b := (σ.2.1 40)) rfl rfl) (Eq.trans (b := (σ.2.1 41)) rfl rfl) (Eq.trans (b := (σ.2.1 42)) rfl rfl) (Eq.trans (b := (σ.2.1 43)) rfl rfl) (Eq.trans (b := (σ.2.1 44)) rfl rfl) (Eq.trans (b := (σ.2.1 45)) rfl rfl) (Eq.trans (b := (σ.2.1 46)) rfl rfl) (Eq.trans (b := (σ.1 47)) rfl rfl) (Eq.trans (b := (σ.2.1 48)) rfl rfl) (Eq.trans (b := (σ.1 49)) rfl rfl) (Eq.trans (b := (σ.2.1 50)) rfl rfl) (Eq.trans (b := (σ.2.1 51)) rfl rfl) (Eq.trans (b := (σ.2.2.1 52)) rfl rfl) (Eq.trans (b := (σ.2.2.1 53)) rfl rfl) (Eq.trans (b := (σ.2.2.2)) rfl rfl) (Eq.trans (b := (σ.1 55)) rfl rfl) (Eq.trans (b := (σ.1 56)) rfl rfl) (Eq.trans (b := (σ.1 57)) rfl rfl) (Eq.trans (b := (σ.2.1 58)) rfl rfl) (Eq.trans (b := (σ.1 59)) rfl rfl)
              exact r_retv C ⟨x26, (σ.2.1 11), (σ.2.2.1 12), x27, (σ.1 19), (σ.1 29), (σ.2.1 31), (σ.2.1 30), (σ.2.1 32), (upd (σ.2.1 21) ((σ.1 19).toInt - 1).toNat (σ.1 29)), (upd (σ.2.1 22) ((σ.1 19).toInt - 1).toNat (0 : Int32)), (upd (σ.2.1 20) 0 (1 : Int32)), (σ.2.1 23), (σ.2.1 24), (σ.2.1 25), (upd (σ.2.1 26) ((σ.1 19).toInt - 1).toNat (0 : Int32)), (upd (σ.2.1 27) ((σ.1 19).toInt - 1).toNat (1 : Int32)), (upd (σ.2.1 28) ((σ.1 19).toInt - 1).toNat (0 : Int32)), (1 : Int32), x32, (38 : Int32), (σ.1 8), (σ.1 9)⟩ (v_assign_21 σ x1 x13 x19 x26 x27 x28 x29 x30 x31 x32 hpre_0 hpre_1 hpre_2 hpre_3 hpre_4 hpre_5 hpre_6 ex1 tx1 c2 hr7_0 hr7_1 ex13 tx13 c14 ex19 tx19 c20 ex26 tx26 ex27 tx27 ex28 tx28 ex29 tx29 ex30 tx30 ex31 tx31 ex32 tx32 c33 c39) hP hS dX12_assign_151
            · have c39 : ¬ x29.toInt = 9 := by have h := z_ne c39; rw [show (9 : Int32).toInt = 9 from by decide +kernel] at h; exact h
              exact absurd (v_assign_22 σ x27 x28 x29 ex29 tx29 c33 c39) id

-- nw@5 @5
theorem v_argument_1 (σ : RS) (x1 : Int32) (hpre_0 : TKI (σ.2.1 4) (σ.2.2.1 6) (σ.2.1 7) (σ.1 3) (σ.1 14)) (hpre_1 : 0 ≤ (σ.1 15).toInt) (hpre_2 : (σ.1 15).toInt ≤ 3510) (hpre_4 : PQ1 1 0 (σ.1 14) (σ.1 15) (σ.1 16) (σ.1 19) (σ.1 29) (σ.2.1 11) (σ.2.2.1 12) (σ.2.1 31) (σ.2.1 30) (σ.2.1 32) (σ.2.1 21) (σ.2.1 22) (σ.2.1 20) (σ.2.1 23) (σ.2.1 24) (σ.2.1 25) (σ.2.1 27) (σ.1 33) (σ.1 34) (σ.2.1 28)) (hpre_5 : (σ.1 29).toInt = ((σ.2.1 21) ((σ.1 19).toInt - 1).toNat).toInt) (hpre_6 : ((σ.2.1 20) ((σ.1 19).toInt - 1).toNat).toInt = 3) (hpre_7 : 2 ≤ (σ.1 19).toInt) (ex1 : x1 = (σ.1 19) - (1 : Int32)) : x1.toInt = (σ.1 19).toInt - 1 := by
  have q1 : (1 : Int32).toInt = 1 := by decide +kernel
  have bb_hpre_0 := hpre_0.b
  have bb_hpre_4 := hpre_4.z.b
  have kk_hpre_0 := hpre_0.in
  have kp := PQ_pt (j1 := ((σ.1 19).toInt - 1).toNat) hpre_4 (by omega) (by omega) (by omega)
  have w1 : (1 : Int32).toInt = 1 := by decide +kernel
  rw [ex1, z_sub (by omega) (by omega)]; first | done | omega
-- pre:isSign@10 @10
theorem v_argument_2 (σ : RS) (x1 : Int32) (hpre_0 : TKI (σ.2.1 4) (σ.2.2.1 6) (σ.2.1 7) (σ.1 3) (σ.1 14)) (hpre_1 : 0 ≤ (σ.1 15).toInt) (hpre_2 : (σ.1 15).toInt ≤ 3510) (hpre_4 : PQ1 1 0 (σ.1 14) (σ.1 15) (σ.1 16) (σ.1 19) (σ.1 29) (σ.2.1 11) (σ.2.2.1 12) (σ.2.1 31) (σ.2.1 30) (σ.2.1 32) (σ.2.1 21) (σ.2.1 22) (σ.2.1 20) (σ.2.1 23) (σ.2.1 24) (σ.2.1 25) (σ.2.1 27) (σ.1 33) (σ.1 34) (σ.2.1 28)) (hpre_5 : (σ.1 29).toInt = ((σ.2.1 21) ((σ.1 19).toInt - 1).toNat).toInt) (hpre_6 : ((σ.2.1 20) ((σ.1 19).toInt - 1).toNat).toInt = 3) (hpre_7 : 2 ≤ (σ.1 19).toInt) (ex1 : x1 = (σ.1 19) - (1 : Int32)) (tx1 : x1.toInt = (σ.1 19).toInt - 1) : 0 ≤ (σ.1 14).toInt ∧ (σ.1 14).toInt ≤ 41 := by
  have q1 : (1 : Int32).toInt = 1 := by decide +kernel
  have bb_hpre_0 := hpre_0.b
  have bb_hpre_4 := hpre_4.z.b
  have kk_hpre_0 := hpre_0.in
  have kp := PQ_pt (j1 := ((σ.1 19).toInt - 1).toNat) hpre_4 (by omega) (by omega) (by omega)
  refine ⟨?_, ?_⟩ <;> first | assumption | omega | (subst_vars; omega) | trivial
-- pre:isSign@51 @51
theorem v_argument_3 (σ : RS) (x1 : Int32) (hpre_0 : TKI (σ.2.1 4) (σ.2.2.1 6) (σ.2.1 7) (σ.1 3) (σ.1 14)) (hpre_1 : 0 ≤ (σ.1 15).toInt) (hpre_2 : (σ.1 15).toInt ≤ 3510) (hpre_4 : PQ1 1 0 (σ.1 14) (σ.1 15) (σ.1 16) (σ.1 19) (σ.1 29) (σ.2.1 11) (σ.2.2.1 12) (σ.2.1 31) (σ.2.1 30) (σ.2.1 32) (σ.2.1 21) (σ.2.1 22) (σ.2.1 20) (σ.2.1 23) (σ.2.1 24) (σ.2.1 25) (σ.2.1 27) (σ.1 33) (σ.1 34) (σ.2.1 28)) (hpre_5 : (σ.1 29).toInt = ((σ.2.1 21) ((σ.1 19).toInt - 1).toNat).toInt) (hpre_6 : ((σ.2.1 20) ((σ.1 19).toInt - 1).toNat).toInt = 3) (hpre_7 : 2 ≤ (σ.1 19).toInt) (ex1 : x1 = (σ.1 19) - (1 : Int32)) (tx1 : x1.toInt = (σ.1 19).toInt - 1) (hr2 : ¬ (((σ.2.1 4) (σ.1 14).toNatClampNeg).toInt = 5 ∧ ((σ.2.2.1 6) (σ.1 14).toNatClampNeg).toInt = (44 : Int32).toInt)) : 0 ≤ (σ.1 14).toInt ∧ (σ.1 14).toInt ≤ 41 := by
  have q1 : (1 : Int32).toInt = 1 := by decide +kernel
  have q44 : (44 : Int32).toInt = 44 := by decide +kernel
  have bb_hpre_0 := hpre_0.b
  have bb_hpre_4 := hpre_4.z.b
  have kk_hpre_0 := hpre_0.in
  have kp := PQ_pt (j1 := ((σ.1 19).toInt - 1).toNat) hpre_4 (by omega) (by omega) (by omega)
  refine ⟨?_, ?_⟩ <;> first | assumption | omega | (subst_vars; omega) | trivial
-- nw@68 @68
theorem v_argument_4 (σ : RS) (x1 : Int32) (x6 : Int32) (hpre_0 : TKI (σ.2.1 4) (σ.2.2.1 6) (σ.2.1 7) (σ.1 3) (σ.1 14)) (hpre_1 : 0 ≤ (σ.1 15).toInt) (hpre_2 : (σ.1 15).toInt ≤ 3510) (hpre_4 : PQ1 1 0 (σ.1 14) (σ.1 15) (σ.1 16) (σ.1 19) (σ.1 29) (σ.2.1 11) (σ.2.2.1 12) (σ.2.1 31) (σ.2.1 30) (σ.2.1 32) (σ.2.1 21) (σ.2.1 22) (σ.2.1 20) (σ.2.1 23) (σ.2.1 24) (σ.2.1 25) (σ.2.1 27) (σ.1 33) (σ.1 34) (σ.2.1 28)) (hpre_5 : (σ.1 29).toInt = ((σ.2.1 21) ((σ.1 19).toInt - 1).toNat).toInt) (hpre_6 : ((σ.2.1 20) ((σ.1 19).toInt - 1).toNat).toInt = 3) (hpre_7 : 2 ≤ (σ.1 19).toInt) (ex1 : x1 = (σ.1 19) - (1 : Int32)) (tx1 : x1.toInt = (σ.1 19).toInt - 1) (hr2 : ¬ (((σ.2.1 4) (σ.1 14).toNatClampNeg).toInt = 5 ∧ ((σ.2.2.1 6) (σ.1 14).toNatClampNeg).toInt = (44 : Int32).toInt)) (hr4_0 : ((σ.2.1 4) (σ.1 14).toNatClampNeg).toInt = 5) (hr4_1 : ((σ.2.2.1 6) (σ.1 14).toNatClampNeg).toInt = (41 : Int32).toInt) (ex6 : x6 = (σ.1 14) + (1 : Int32)) : x6.toInt = (σ.1 14).toInt + 1 := by
  have q1 : (1 : Int32).toInt = 1 := by decide +kernel
  have q41 : (41 : Int32).toInt = 41 := by decide +kernel
  have q44 : (44 : Int32).toInt = 44 := by decide +kernel
  have bb_hpre_0 := hpre_0.b
  have bb_hpre_4 := hpre_4.z.b
  have kk_hpre_0 := hpre_0.in
  have kp := PQ_pt (j1 := ((σ.1 19).toInt - 1).toNat) hpre_4 (by omega) (by omega) (by omega)
  have w1 : (1 : Int32).toInt = 1 := by decide +kernel
  rw [ex6, z_add (by omega) (by omega)]; first | done | omega
-- in@83 @83
theorem v_argument_5 (σ : RS) (x1 : Int32) (x6 : Int32) (hpre_0 : TKI (σ.2.1 4) (σ.2.2.1 6) (σ.2.1 7) (σ.1 3) (σ.1 14)) (hpre_1 : 0 ≤ (σ.1 15).toInt) (hpre_2 : (σ.1 15).toInt ≤ 3510) (hpre_4 : PQ1 1 0 (σ.1 14) (σ.1 15) (σ.1 16) (σ.1 19) (σ.1 29) (σ.2.1 11) (σ.2.2.1 12) (σ.2.1 31) (σ.2.1 30) (σ.2.1 32) (σ.2.1 21) (σ.2.1 22) (σ.2.1 20) (σ.2.1 23) (σ.2.1 24) (σ.2.1 25) (σ.2.1 27) (σ.1 33) (σ.1 34) (σ.2.1 28)) (hpre_5 : (σ.1 29).toInt = ((σ.2.1 21) ((σ.1 19).toInt - 1).toNat).toInt) (hpre_6 : ((σ.2.1 20) ((σ.1 19).toInt - 1).toNat).toInt = 3) (hpre_7 : 2 ≤ (σ.1 19).toInt) (ex1 : x1 = (σ.1 19) - (1 : Int32)) (tx1 : x1.toInt = (σ.1 19).toInt - 1) (hr4_0 : ((σ.2.1 4) (σ.1 14).toNatClampNeg).toInt = 5) (hr4_1 : ((σ.2.2.1 6) (σ.1 14).toNatClampNeg).toInt = (41 : Int32).toInt) (ex6 : x6 = (σ.1 14) + (1 : Int32)) (tx6 : x6.toInt = (σ.1 14).toInt + 1) : vp_in x1 8 := by
  have q1 : (1 : Int32).toInt = 1 := by decide +kernel
  have q41 : (41 : Int32).toInt = 41 := by decide +kernel
  have bb_hpre_0 := hpre_0.b
  have bb_hpre_4 := hpre_4.z.b
  have kk_hpre_0 := hpre_0.in
  have kp := PQ_pt (j1 := ((σ.1 19).toInt - 1).toNat) hpre_4 (by omega) (by omega) (by omega)
  exact vp_in_iff.mpr ⟨by omega, by omega⟩
-- nw@85 @85
theorem v_argument_6 (σ : RS) (x1 : Int32) (x6 : Int32) (x7 : Int32) (x8 : Int64) (x9 : Int64) (hpre_0 : TKI (σ.2.1 4) (σ.2.2.1 6) (σ.2.1 7) (σ.1 3) (σ.1 14)) (hpre_1 : 0 ≤ (σ.1 15).toInt) (hpre_2 : (σ.1 15).toInt ≤ 3510) (hpre_4 : PQ1 1 0 (σ.1 14) (σ.1 15) (σ.1 16) (σ.1 19) (σ.1 29) (σ.2.1 11) (σ.2.2.1 12) (σ.2.1 31) (σ.2.1 30) (σ.2.1 32) (σ.2.1 21) (σ.2.1 22) (σ.2.1 20) (σ.2.1 23) (σ.2.1 24) (σ.2.1 25) (σ.2.1 27) (σ.1 33) (σ.1 34) (σ.2.1 28)) (hpre_5 : (σ.1 29).toInt = ((σ.2.1 21) ((σ.1 19).toInt - 1).toNat).toInt) (hpre_6 : ((σ.2.1 20) ((σ.1 19).toInt - 1).toNat).toInt = 3) (hpre_7 : 2 ≤ (σ.1 19).toInt) (ex1 : x1 = (σ.1 19) - (1 : Int32)) (tx1 : x1.toInt = (σ.1 19).toInt - 1) (hr4_0 : ((σ.2.1 4) (σ.1 14).toNatClampNeg).toInt = 5) (hr4_1 : ((σ.2.2.1 6) (σ.1 14).toNatClampNeg).toInt = (41 : Int32).toInt) (ex6 : x6 = (σ.1 14) + (1 : Int32)) (tx6 : x6.toInt = (σ.1 14).toInt + 1) (ex7 : x7 = (σ.2.1 24) x1.toNatClampNeg) (tx7 : x7.toInt = ((σ.2.1 24) ((σ.1 19).toInt - 1).toNat).toInt) (ex8 : x8 = Int32.toInt64 x7) (tx8 : x8.toInt = x7.toInt) (ex9 : x9 = (4 : Int64) * x8) : x9.toInt = 4 * x8.toInt := by
  have q1 : (1 : Int32).toInt = 1 := by decide +kernel
  have q41 : (41 : Int32).toInt = 41 := by decide +kernel
  have ql4 : (4 : Int64).toInt = 4 := by decide +kernel
  have bb_hpre_0 := hpre_0.b
  have bb_hpre_4 := hpre_4.z.b
  have kk_hpre_0 := hpre_0.in
  have kp := PQ_pt (j1 := ((σ.1 19).toInt - 1).toNat) hpre_4 (by omega) (by omega) (by omega)
  have w0 : (4 : Int64).toInt = 4 := by decide +kernel
  rw [ex9, zl_mulc 4 w0 (by omega) (by omega)]
-- in@91 @91
theorem v_argument_7 (σ : RS) (x1 : Int32) (x6 : Int32) (x7 : Int32) (x8 : Int64) (x9 : Int64) (hpre_0 : TKI (σ.2.1 4) (σ.2.2.1 6) (σ.2.1 7) (σ.1 3) (σ.1 14)) (hpre_1 : 0 ≤ (σ.1 15).toInt) (hpre_2 : (σ.1 15).toInt ≤ 3510) (hpre_4 : PQ1 1 0 (σ.1 14) (σ.1 15) (σ.1 16) (σ.1 19) (σ.1 29) (σ.2.1 11) (σ.2.2.1 12) (σ.2.1 31) (σ.2.1 30) (σ.2.1 32) (σ.2.1 21) (σ.2.1 22) (σ.2.1 20) (σ.2.1 23) (σ.2.1 24) (σ.2.1 25) (σ.2.1 27) (σ.1 33) (σ.1 34) (σ.2.1 28)) (hpre_5 : (σ.1 29).toInt = ((σ.2.1 21) ((σ.1 19).toInt - 1).toNat).toInt) (hpre_6 : ((σ.2.1 20) ((σ.1 19).toInt - 1).toNat).toInt = 3) (hpre_7 : 2 ≤ (σ.1 19).toInt) (ex1 : x1 = (σ.1 19) - (1 : Int32)) (tx1 : x1.toInt = (σ.1 19).toInt - 1) (hr4_0 : ((σ.2.1 4) (σ.1 14).toNatClampNeg).toInt = 5) (hr4_1 : ((σ.2.2.1 6) (σ.1 14).toNatClampNeg).toInt = (41 : Int32).toInt) (ex6 : x6 = (σ.1 14) + (1 : Int32)) (tx6 : x6.toInt = (σ.1 14).toInt + 1) (ex7 : x7 = (σ.2.1 24) x1.toNatClampNeg) (tx7 : x7.toInt = ((σ.2.1 24) ((σ.1 19).toInt - 1).toNat).toInt) (ex8 : x8 = Int32.toInt64 x7) (tx8 : x8.toInt = x7.toInt) (ex9 : x9 = (4 : Int64) * x8) (tx9 : x9.toInt = 4 * x8.toInt) : vp_in x1 8 := by
  have q1 : (1 : Int32).toInt = 1 := by decide +kernel
  have q41 : (41 : Int32).toInt = 41 := by decide +kernel
  have ql4 : (4 : Int64).toInt = 4 := by decide +kernel
  have bb_hpre_0 := hpre_0.b
  have bb_hpre_4 := hpre_4.z.b
  have kk_hpre_0 := hpre_0.in
  have kp := PQ_pt (j1 := ((σ.1 19).toInt - 1).toNat) hpre_4 (by omega) (by omega) (by omega)
  exact vp_in_iff.mpr ⟨by omega, by omega⟩
-- nw@93 @93
theorem v_argument_8 (σ : RS) (x1 : Int32) (x6 : Int32) (x7 : Int32) (x8 : Int64) (x9 : Int64) (x10 : Int32) (x11 : Int64) (x12 : Int64) (hpre_0 : TKI (σ.2.1 4) (σ.2.2.1 6) (σ.2.1 7) (σ.1 3) (σ.1 14)) (hpre_1 : 0 ≤ (σ.1 15).toInt) (hpre_2 : (σ.1 15).toInt ≤ 3510) (hpre_4 : PQ1 1 0 (σ.1 14) (σ.1 15) (σ.1 16) (σ.1 19) (σ.1 29) (σ.2.1 11) (σ.2.2.1 12) (σ.2.1 31) (σ.2.1 30) (σ.2.1 32) (σ.2.1 21) (σ.2.1 22) (σ.2.1 20) (σ.2.1 23) (σ.2.1 24) (σ.2.1 25) (σ.2.1 27) (σ.1 33) (σ.1 34) (σ.2.1 28)) (hpre_5 : (σ.1 29).toInt = ((σ.2.1 21) ((σ.1 19).toInt - 1).toNat).toInt) (hpre_6 : ((σ.2.1 20) ((σ.1 19).toInt - 1).toNat).toInt = 3) (hpre_7 : 2 ≤ (σ.1 19).toInt) (ex1 : x1 = (σ.1 19) - (1 : Int32)) (tx1 : x1.toInt = (σ.1 19).toInt - 1) (hr4_0 : ((σ.2.1 4) (σ.1 14).toNatClampNeg).toInt = 5) (hr4_1 : ((σ.2.2.1 6) (σ.1 14).toNatClampNeg).toInt = (41 : Int32).toInt) (ex6 : x6 = (σ.1 14) + (1 : Int32)) (tx6 : x6.toInt = (σ.1 14).toInt + 1) (ex7 : x7 = (σ.2.1 24) x1.toNatClampNeg) (tx7 : x7.toInt = ((σ.2.1 24) ((σ.1 19).toInt - 1).toNat).toInt) (ex8 : x8 = Int32.toInt64 x7) (tx8 : x8.toInt = x7.toInt) (ex9 : x9 = (4 : Int64) * x8) (tx9 : x9.toInt = 4 * x8.toInt) (ex10 : x10 = (σ.2.1 25) x1.toNatClampNeg) (tx10 : x10.toInt = ((σ.2.1 25) ((σ.1 19).toInt - 1).toNat).toInt) (ex11 : x11 = Int32.toInt64 x10) (tx11 : x11.toInt = x10.toInt) (ex12 : x12 = x9 + x11) : x12.toInt = x9.toInt + x11.toInt := by
  have q1 : (1 : Int32).toInt = 1 := by decide +kernel
  have q41 : (41 : Int32).toInt = 41 := by decide +kernel
  have ql4 : (4 : Int64).toInt = 4 := by decide +kernel
  have bb_hpre_0 := hpre_0.b
  have bb_hpre_4 := hpre_4.z.b
  have kk_hpre_0 := hpre_0.in
  have kp := PQ_pt (j1 := ((σ.1 19).toInt - 1).toNat) hpre_4 (by omega) (by omega) (by omega)
  rw [ex12, zl_add (by omega) (by omega)]; first | done | omega
-- pre:emit@94 @94
theorem v_argument_9 (σ : RS) (x1 : Int32) (x6 : Int32) (x7 : Int32) (x8 : Int64) (x9 : Int64) (x10 : Int32) (x11 : Int64) (x12 : Int64) (hpre_0 : TKI (σ.2.1 4) (σ.2.2.1 6) (σ.2.1 7) (σ.1 3) (σ.1 14)) (hpre_1 : 0 ≤ (σ.1 15).toInt) (hpre_2 : (σ.1 15).toInt ≤ 3510) (hpre_4 : PQ1 1 0 (σ.1 14) (σ.1 15) (σ.1 16) (σ.1 19) (σ.1 29) (σ.2.1 11) (σ.2.2.1 12) (σ.2.1 31) (σ.2.1 30) (σ.2.1 32) (σ.2.1 21) (σ.2.1 22) (σ.2.1 20) (σ.2.1 23) (σ.2.1 24) (σ.2.1 25) (σ.2.1 27) (σ.1 33) (σ.1 34) (σ.2.1 28)) (hpre_5 : (σ.1 29).toInt = ((σ.2.1 21) ((σ.1 19).toInt - 1).toNat).toInt) (hpre_6 : ((σ.2.1 20) ((σ.1 19).toInt - 1).toNat).toInt = 3) (hpre_7 : 2 ≤ (σ.1 19).toInt) (ex1 : x1 = (σ.1 19) - (1 : Int32)) (tx1 : x1.toInt = (σ.1 19).toInt - 1) (hr2 : ¬ (((σ.2.1 4) (σ.1 14).toNatClampNeg).toInt = 5 ∧ ((σ.2.2.1 6) (σ.1 14).toNatClampNeg).toInt = (44 : Int32).toInt)) (hr4_0 : ((σ.2.1 4) (σ.1 14).toNatClampNeg).toInt = 5) (hr4_1 : ((σ.2.2.1 6) (σ.1 14).toNatClampNeg).toInt = (41 : Int32).toInt) (ex6 : x6 = (σ.1 14) + (1 : Int32)) (tx6 : x6.toInt = (σ.1 14).toInt + 1) (ex7 : x7 = (σ.2.1 24) x1.toNatClampNeg) (tx7 : x7.toInt = ((σ.2.1 24) ((σ.1 19).toInt - 1).toNat).toInt) (ex8 : x8 = Int32.toInt64 x7) (tx8 : x8.toInt = x7.toInt) (ex9 : x9 = (4 : Int64) * x8) (tx9 : x9.toInt = 4 * x8.toInt) (ex10 : x10 = (σ.2.1 25) x1.toNatClampNeg) (tx10 : x10.toInt = ((σ.2.1 25) ((σ.1 19).toInt - 1).toNat).toInt) (ex11 : x11 = Int32.toInt64 x10) (tx11 : x11.toInt = x10.toInt) (ex12 : x12 = x9 + x11) (tx12 : x12.toInt = x9.toInt + x11.toInt) : 0 ≤ (σ.1 15).toInt ∧ 0 ≤ (σ.1 16).toInt ∧ (σ.1 15).toInt + (σ.1 16).toInt < 3600 := by
  have q1 : (1 : Int32).toInt = 1 := by decide +kernel
  have q41 : (41 : Int32).toInt = 41 := by decide +kernel
  have q44 : (44 : Int32).toInt = 44 := by decide +kernel
  have ql4 : (4 : Int64).toInt = 4 := by decide +kernel
  have bb_hpre_0 := hpre_0.b
  have bb_hpre_4 := hpre_4.z.b
  have kk_hpre_0 := hpre_0.in
  have kp := PQ_pt (j1 := ((σ.1 19).toInt - 1).toNat) hpre_4 (by omega) (by omega) (by omega)
  refine ⟨?_, ?_, ?_⟩ <;> first | assumption | omega | (subst_vars; omega) | trivial
-- in@107 @107
theorem v_argument_10 (σ : RS) (x1 : Int32) (x6 : Int32) (x7 : Int32) (x8 : Int64) (x9 : Int64) (x10 : Int32) (x11 : Int64) (x12 : Int64) (n14 : Int32) (r13 : Int32) (hpre_0 : TKI (σ.2.1 4) (σ.2.2.1 6) (σ.2.1 7) (σ.1 3) (σ.1 14)) (hpre_1 : 0 ≤ (σ.1 15).toInt) (hpre_2 : (σ.1 15).toInt ≤ 3510) (hpre_4 : PQ1 1 0 (σ.1 14) (σ.1 15) (σ.1 16) (σ.1 19) (σ.1 29) (σ.2.1 11) (σ.2.2.1 12) (σ.2.1 31) (σ.2.1 30) (σ.2.1 32) (σ.2.1 21) (σ.2.1 22) (σ.2.1 20) (σ.2.1 23) (σ.2.1 24) (σ.2.1 25) (σ.2.1 27) (σ.1 33) (σ.1 34) (σ.2.1 28)) (hpre_5 : (σ.1 29).toInt = ((σ.2.1 21) ((σ.1 19).toInt - 1).toNat).toInt) (hpre_6 : ((σ.2.1 20) ((σ.1 19).toInt - 1).toNat).toInt = 3) (hpre_7 : 2 ≤ (σ.1 19).toInt) (ex1 : x1 = (σ.1 19) - (1 : Int32)) (tx1 : x1.toInt = (σ.1 19).toInt - 1) (hr4_0 : ((σ.2.1 4) (σ.1 14).toNatClampNeg).toInt = 5) (hr4_1 : ((σ.2.2.1 6) (σ.1 14).toNatClampNeg).toInt = (41 : Int32).toInt) (ex6 : x6 = (σ.1 14) + (1 : Int32)) (tx6 : x6.toInt = (σ.1 14).toInt + 1) (ex7 : x7 = (σ.2.1 24) x1.toNatClampNeg) (tx7 : x7.toInt = ((σ.2.1 24) ((σ.1 19).toInt - 1).toNat).toInt) (ex8 : x8 = Int32.toInt64 x7) (tx8 : x8.toInt = x7.toInt) (ex9 : x9 = (4 : Int64) * x8) (tx9 : x9.toInt = 4 * x8.toInt) (ex10 : x10 = (σ.2.1 25) x1.toNatClampNeg) (tx10 : x10.toInt = ((σ.2.1 25) ((σ.1 19).toInt - 1).toNat).toInt) (ex11 : x11 = Int32.toInt64 x10) (tx11 : x11.toInt = x10.toInt) (ex12 : x12 = x9 + x11) (tx12 : x12.toInt = x9.toInt + x11.toInt) (hr13_0 : n14.toInt = (σ.1 16).toInt + 1) (hr13_1 : r13.toInt = (σ.1 15).toInt + (σ.1 16).toInt) : vp_in x1 8 := by
  have q1 : (1 : Int32).toInt = 1 := by decide +kernel
  have q41 : (41 : Int32).toInt = 41 := by decide +kernel
  have ql4 : (4 : Int64).toInt = 4 := by decide +kernel
  have bb_hpre_0 := hpre_0.b
  have bb_hpre_4 := hpre_4.z.b
  have kk_hpre_0 := hpre_0.in
  have kp := PQ_pt (j1 := ((σ.1 19).toInt - 1).toNat) hpre_4 (by omega) (by omega) (by omega)
  exact vp_in_iff.mpr ⟨by omega, by omega⟩
-- nw@116 @116
theorem v_argument_11 (σ : RS) (x1 : Int32) (x6 : Int32) (x7 : Int32) (x8 : Int64) (x9 : Int64) (x10 : Int32) (x11 : Int64) (x12 : Int64) (n14 : Int32) (r13 : Int32) (x15 : Int32) (x16 : Int32) (hpre_0 : TKI (σ.2.1 4) (σ.2.2.1 6) (σ.2.1 7) (σ.1 3) (σ.1 14)) (hpre_1 : 0 ≤ (σ.1 15).toInt) (hpre_2 : (σ.1 15).toInt ≤ 3510) (hpre_4 : PQ1 1 0 (σ.1 14) (σ.1 15) (σ.1 16) (σ.1 19) (σ.1 29) (σ.2.1 11) (σ.2.2.1 12) (σ.2.1 31) (σ.2.1 30) (σ.2.1 32) (σ.2.1 21) (σ.2.1 22) (σ.2.1 20) (σ.2.1 23) (σ.2.1 24) (σ.2.1 25) (σ.2.1 27) (σ.1 33) (σ.1 34) (σ.2.1 28)) (hpre_5 : (σ.1 29).toInt = ((σ.2.1 21) ((σ.1 19).toInt - 1).toNat).toInt) (hpre_6 : ((σ.2.1 20) ((σ.1 19).toInt - 1).toNat).toInt = 3) (hpre_7 : 2 ≤ (σ.1 19).toInt) (ex1 : x1 = (σ.1 19) - (1 : Int32)) (tx1 : x1.toInt = (σ.1 19).toInt - 1) (hr2 : ¬ (((σ.2.1 4) (σ.1 14).toNatClampNeg).toInt = 5 ∧ ((σ.2.2.1 6) (σ.1 14).toNatClampNeg).toInt = (44 : Int32).toInt)) (hr4_0 : ((σ.2.1 4) (σ.1 14).toNatClampNeg).toInt = 5) (hr4_1 : ((σ.2.2.1 6) (σ.1 14).toNatClampNeg).toInt = (41 : Int32).toInt) (ex6 : x6 = (σ.1 14) + (1 : Int32)) (tx6 : x6.toInt = (σ.1 14).toInt + 1) (ex7 : x7 = (σ.2.1 24) x1.toNatClampNeg) (tx7 : x7.toInt = ((σ.2.1 24) ((σ.1 19).toInt - 1).toNat).toInt) (ex8 : x8 = Int32.toInt64 x7) (tx8 : x8.toInt = x7.toInt) (ex9 : x9 = (4 : Int64) * x8) (tx9 : x9.toInt = 4 * x8.toInt) (ex10 : x10 = (σ.2.1 25) x1.toNatClampNeg) (tx10 : x10.toInt = ((σ.2.1 25) ((σ.1 19).toInt - 1).toNat).toInt) (ex11 : x11 = Int32.toInt64 x10) (tx11 : x11.toInt = x10.toInt) (ex12 : x12 = x9 + x11) (tx12 : x12.toInt = x9.toInt + x11.toInt) (hr13_0 : n14.toInt = (σ.1 16).toInt + 1) (hr13_1 : r13.toInt = (σ.1 15).toInt + (σ.1 16).toInt) (ex15 : x15 = (σ.2.1 23) x1.toNatClampNeg) (tx15 : x15.toInt = ((σ.2.1 23) ((σ.1 19).toInt - 1).toNat).toInt) (ex16 : x16 = (σ.1 15) + n14) : x16.toInt = (σ.1 15).toInt + n14.toInt := by
  have q1 : (1 : Int32).toInt = 1 := by decide +kernel
  have q41 : (41 : Int32).toInt = 41 := by decide +kernel
  have q44 : (44 : Int32).toInt = 44 := by decide +kernel
  have ql4 : (4 : Int64).toInt = 4 := by decide +kernel
  have bb_hpre_0 := hpre_0.b
  have bb_hpre_4 := hpre_4.z.b
  have kk_hpre_0 := hpre_0.in
  have kp := PQ_pt (j1 := ((σ.1 19).toInt - 1).toNat) hpre_4 (by omega) (by omega) (by omega)
  rw [ex16, z_add (by omega) (by omega)]; first | done | omega
-- in@118 @118
theorem v_argument_12 (σ : RS) (x1 : Int32) (x6 : Int32) (x7 : Int32) (x8 : Int64) (x9 : Int64) (x10 : Int32) (x11 : Int64) (x12 : Int64) (n14 : Int32) (r13 : Int32) (x15 : Int32) (x16 : Int32) (x17 : Int64) (hpre_0 : TKI (σ.2.1 4) (σ.2.2.1 6) (σ.2.1 7) (σ.1 3) (σ.1 14)) (hpre_1 : 0 ≤ (σ.1 15).toInt) (hpre_2 : (σ.1 15).toInt ≤ 3510) (hpre_4 : PQ1 1 0 (σ.1 14) (σ.1 15) (σ.1 16) (σ.1 19) (σ.1 29) (σ.2.1 11) (σ.2.2.1 12) (σ.2.1 31) (σ.2.1 30) (σ.2.1 32) (σ.2.1 21) (σ.2.1 22) (σ.2.1 20) (σ.2.1 23) (σ.2.1 24) (σ.2.1 25) (σ.2.1 27) (σ.1 33) (σ.1 34) (σ.2.1 28)) (hpre_5 : (σ.1 29).toInt = ((σ.2.1 21) ((σ.1 19).toInt - 1).toNat).toInt) (hpre_6 : ((σ.2.1 20) ((σ.1 19).toInt - 1).toNat).toInt = 3) (hpre_7 : 2 ≤ (σ.1 19).toInt) (ex1 : x1 = (σ.1 19) - (1 : Int32)) (tx1 : x1.toInt = (σ.1 19).toInt - 1) (hr4_0 : ((σ.2.1 4) (σ.1 14).toNatClampNeg).toInt = 5) (hr4_1 : ((σ.2.2.1 6) (σ.1 14).toNatClampNeg).toInt = (41 : Int32).toInt) (ex6 : x6 = (σ.1 14) + (1 : Int32)) (tx6 : x6.toInt = (σ.1 14).toInt + 1) (ex7 : x7 = (σ.2.1 24) x1.toNatClampNeg) (tx7 : x7.toInt = ((σ.2.1 24) ((σ.1 19).toInt - 1).toNat).toInt) (ex8 : x8 = Int32.toInt64 x7) (tx8 : x8.toInt = x7.toInt) (ex9 : x9 = (4 : Int64) * x8) (tx9 : x9.toInt = 4 * x8.toInt) (ex10 : x10 = (σ.2.1 25) x1.toNatClampNeg) (tx10 : x10.toInt = ((σ.2.1 25) ((σ.1 19).toInt - 1).toNat).toInt) (ex11 : x11 = Int32.toInt64 x10) (tx11 : x11.toInt = x10.toInt) (ex12 : x12 = x9 + x11) (tx12 : x12.toInt = x9.toInt + x11.toInt) (hr13_0 : n14.toInt = (σ.1 16).toInt + 1) (hr13_1 : r13.toInt = (σ.1 15).toInt + (σ.1 16).toInt) (ex15 : x15 = (σ.2.1 23) x1.toNatClampNeg) (tx15 : x15.toInt = ((σ.2.1 23) ((σ.1 19).toInt - 1).toNat).toInt) (ex16 : x16 = (σ.1 15) + n14) (tx16 : x16.toInt = (σ.1 15).toInt + n14.toInt) (ex17 : x17 = Int32.toInt64 x16) (tx17 : x17.toInt = x16.toInt) : vp_in x15 3600 := by
  have q1 : (1 : Int32).toInt = 1 := by decide +kernel
  have q41 : (41 : Int32).toInt = 41 := by decide +kernel
  have ql4 : (4 : Int64).toInt = 4 := by decide +kernel
  have bb_hpre_0 := hpre_0.b
  have bb_hpre_4 := hpre_4.z.b
  have kk_hpre_0 := hpre_0.in
  have kp := PQ_pt (j1 := ((σ.1 19).toInt - 1).toNat) hpre_4 (by omega) (by omega) (by omega)
  exact vp_in_iff.mpr ⟨by omega, by omega⟩
-- nw@125 @125
theorem v_argument_13 (σ : RS) (x1 : Int32) (x6 : Int32) (x7 : Int32) (x8 : Int64) (x9 : Int64) (x10 : Int32) (x11 : Int64) (x12 : Int64) (n14 : Int32) (r13 : Int32) (x15 : Int32) (x16 : Int32) (x17 : Int64) (x18 : Int32) (hpre_0 : TKI (σ.2.1 4) (σ.2.2.1 6) (σ.2.1 7) (σ.1 3) (σ.1 14)) (hpre_1 : 0 ≤ (σ.1 15).toInt) (hpre_2 : (σ.1 15).toInt ≤ 3510) (hpre_4 : PQ1 1 0 (σ.1 14) (σ.1 15) (σ.1 16) (σ.1 19) (σ.1 29) (σ.2.1 11) (σ.2.2.1 12) (σ.2.1 31) (σ.2.1 30) (σ.2.1 32) (σ.2.1 21) (σ.2.1 22) (σ.2.1 20) (σ.2.1 23) (σ.2.1 24) (σ.2.1 25) (σ.2.1 27) (σ.1 33) (σ.1 34) (σ.2.1 28)) (hpre_5 : (σ.1 29).toInt = ((σ.2.1 21) ((σ.1 19).toInt - 1).toNat).toInt) (hpre_6 : ((σ.2.1 20) ((σ.1 19).toInt - 1).toNat).toInt = 3) (hpre_7 : 2 ≤ (σ.1 19).toInt) (ex1 : x1 = (σ.1 19) - (1 : Int32)) (tx1 : x1.toInt = (σ.1 19).toInt - 1) (hr2 : ¬ (((σ.2.1 4) (σ.1 14).toNatClampNeg).toInt = 5 ∧ ((σ.2.2.1 6) (σ.1 14).toNatClampNeg).toInt = (44 : Int32).toInt)) (hr4_0 : ((σ.2.1 4) (σ.1 14).toNatClampNeg).toInt = 5) (hr4_1 : ((σ.2.2.1 6) (σ.1 14).toNatClampNeg).toInt = (41 : Int32).toInt) (ex6 : x6 = (σ.1 14) + (1 : Int32)) (tx6 : x6.toInt = (σ.1 14).toInt + 1) (ex7 : x7 = (σ.2.1 24) x1.toNatClampNeg) (tx7 : x7.toInt = ((σ.2.1 24) ((σ.1 19).toInt - 1).toNat).toInt) (ex8 : x8 = Int32.toInt64 x7) (tx8 : x8.toInt = x7.toInt) (ex9 : x9 = (4 : Int64) * x8) (tx9 : x9.toInt = 4 * x8.toInt) (ex10 : x10 = (σ.2.1 25) x1.toNatClampNeg) (tx10 : x10.toInt = ((σ.2.1 25) ((σ.1 19).toInt - 1).toNat).toInt) (ex11 : x11 = Int32.toInt64 x10) (tx11 : x11.toInt = x10.toInt) (ex12 : x12 = x9 + x11) (tx12 : x12.toInt = x9.toInt + x11.toInt) (hr13_0 : n14.toInt = (σ.1 16).toInt + 1) (hr13_1 : r13.toInt = (σ.1 15).toInt + (σ.1 16).toInt) (ex15 : x15 = (σ.2.1 23) x1.toNatClampNeg) (tx15 : x15.toInt = ((σ.2.1 23) ((σ.1 19).toInt - 1).toNat).toInt) (ex16 : x16 = (σ.1 15) + n14) (tx16 : x16.toInt = (σ.1 15).toInt + n14.toInt) (ex17 : x17 = Int32.toInt64 x16) (tx17 : x17.toInt = x16.toInt) (ex18 : x18 = (σ.1 19) - (1 : Int32)) : x18.toInt = (σ.1 19).toInt - 1 := by
  have q1 : (1 : Int32).toInt = 1 := by decide +kernel
  have q41 : (41 : Int32).toInt = 41 := by decide +kernel
  have q44 : (44 : Int32).toInt = 44 := by decide +kernel
  have ql4 : (4 : Int64).toInt = 4 := by decide +kernel
  have bb_hpre_0 := hpre_0.b
  have bb_hpre_4 := hpre_4.z.b
  have kk_hpre_0 := hpre_0.in
  have kp := PQ_pt (j1 := ((σ.1 19).toInt - 1).toNat) hpre_4 (by omega) (by omega) (by omega)
  have w1 : (1 : Int32).toInt = 1 := by decide +kernel
  rw [ex18, z_sub (by omega) (by omega)]; first | done | omega
-- pre:ready@131 @131
theorem v_argument_14 (σ : RS) (x1 : Int32) (x6 : Int32) (x7 : Int32) (x8 : Int64) (x9 : Int64) (x10 : Int32) (x11 : Int64) (x12 : Int64) (n14 : Int32) (r13 : Int32) (x15 : Int32) (x16 : Int32) (x17 : Int64) (x18 : Int32) (hpre_0 : TKI (σ.2.1 4) (σ.2.2.1 6) (σ.2.1 7) (σ.1 3) (σ.1 14)) (hpre_1 : 0 ≤ (σ.1 15).toInt) (hpre_2 : (σ.1 15).toInt ≤ 3510) (hpre_4 : PQ1 1 0 (σ.1 14) (σ.1 15) (σ.1 16) (σ.1 19) (σ.1 29) (σ.2.1 11) (σ.2.2.1 12) (σ.2.1 31) (σ.2.1 30) (σ.2.1 32) (σ.2.1 21) (σ.2.1 22) (σ.2.1 20) (σ.2.1 23) (σ.2.1 24) (σ.2.1 25) (σ.2.1 27) (σ.1 33) (σ.1 34) (σ.2.1 28)) (hpre_5 : (σ.1 29).toInt = ((σ.2.1 21) ((σ.1 19).toInt - 1).toNat).toInt) (hpre_6 : ((σ.2.1 20) ((σ.1 19).toInt - 1).toNat).toInt = 3) (hpre_7 : 2 ≤ (σ.1 19).toInt) (ex1 : x1 = (σ.1 19) - (1 : Int32)) (tx1 : x1.toInt = (σ.1 19).toInt - 1) (hr4_0 : ((σ.2.1 4) (σ.1 14).toNatClampNeg).toInt = 5) (hr4_1 : ((σ.2.2.1 6) (σ.1 14).toNatClampNeg).toInt = (41 : Int32).toInt) (ex6 : x6 = (σ.1 14) + (1 : Int32)) (tx6 : x6.toInt = (σ.1 14).toInt + 1) (ex7 : x7 = (σ.2.1 24) x1.toNatClampNeg) (tx7 : x7.toInt = ((σ.2.1 24) ((σ.1 19).toInt - 1).toNat).toInt) (ex8 : x8 = Int32.toInt64 x7) (tx8 : x8.toInt = x7.toInt) (ex9 : x9 = (4 : Int64) * x8) (tx9 : x9.toInt = 4 * x8.toInt) (ex10 : x10 = (σ.2.1 25) x1.toNatClampNeg) (tx10 : x10.toInt = ((σ.2.1 25) ((σ.1 19).toInt - 1).toNat).toInt) (ex11 : x11 = Int32.toInt64 x10) (tx11 : x11.toInt = x10.toInt) (ex12 : x12 = x9 + x11) (tx12 : x12.toInt = x9.toInt + x11.toInt) (hr13_0 : n14.toInt = (σ.1 16).toInt + 1) (hr13_1 : r13.toInt = (σ.1 15).toInt + (σ.1 16).toInt) (ex15 : x15 = (σ.2.1 23) x1.toNatClampNeg) (tx15 : x15.toInt = ((σ.2.1 23) ((σ.1 19).toInt - 1).toNat).toInt) (ex16 : x16 = (σ.1 15) + n14) (tx16 : x16.toInt = (σ.1 15).toInt + n14.toInt) (ex17 : x17 = Int32.toInt64 x16) (tx17 : x17.toInt = x16.toInt) (ex18 : x18 = (σ.1 19) - (1 : Int32)) (tx18 : x18.toInt = (σ.1 19).toInt - 1) : 1 ≤ x18.toInt ∧ x18.toInt ≤ 8 ∧ ((0 : Int32) = 0 ∨ (0 : Int32) = 1) := by
  have q0 : (0 : Int32).toInt = 0 := by decide +kernel
  have q1 : (1 : Int32).toInt = 1 := by decide +kernel
  have q41 : (41 : Int32).toInt = 41 := by decide +kernel
  have ql4 : (4 : Int64).toInt = 4 := by decide +kernel
  have bb_hpre_0 := hpre_0.b
  have bb_hpre_4 := hpre_4.z.b
  have kk_hpre_0 := hpre_0.in
  have kp := PQ_pt (j1 := ((σ.1 19).toInt - 1).toNat) hpre_4 (by omega) (by omega) (by omega)
  refine ⟨?_, ?_, ?_⟩ <;> first | assumption | omega | (subst_vars; omega) | trivial
-- post @134
theorem v_argument_15 (σ : RS) (x1 : Int32) (x6 : Int32) (x7 : Int32) (x8 : Int64) (x9 : Int64) (x10 : Int32) (x11 : Int64) (x12 : Int64) (n14 : Int32) (r13 : Int32) (x15 : Int32) (x16 : Int32) (x17 : Int64) (x18 : Int32) (hpre_0 : TKI (σ.2.1 4) (σ.2.2.1 6) (σ.2.1 7) (σ.1 3) (σ.1 14)) (hpre_1 : 0 ≤ (σ.1 15).toInt) (hpre_2 : (σ.1 15).toInt ≤ 3510) (hpre_3 : (σ.1 8).toInt = 0) (hpre_4 : PQ1 1 0 (σ.1 14) (σ.1 15) (σ.1 16) (σ.1 19) (σ.1 29) (σ.2.1 11) (σ.2.2.1 12) (σ.2.1 31) (σ.2.1 30) (σ.2.1 32) (σ.2.1 21) (σ.2.1 22) (σ.2.1 20) (σ.2.1 23) (σ.2.1 24) (σ.2.1 25) (σ.2.1 27) (σ.1 33) (σ.1 34) (σ.2.1 28)) (hpre_5 : (σ.1 29).toInt = ((σ.2.1 21) ((σ.1 19).toInt - 1).toNat).toInt) (hpre_6 : ((σ.2.1 20) ((σ.1 19).toInt - 1).toNat).toInt = 3) (hpre_7 : 2 ≤ (σ.1 19).toInt) (ex1 : x1 = (σ.1 19) - (1 : Int32)) (tx1 : x1.toInt = (σ.1 19).toInt - 1) (hr2 : ¬ (((σ.2.1 4) (σ.1 14).toNatClampNeg).toInt = 5 ∧ ((σ.2.2.1 6) (σ.1 14).toNatClampNeg).toInt = (44 : Int32).toInt)) (hr4_0 : ((σ.2.1 4) (σ.1 14).toNatClampNeg).toInt = 5) (hr4_1 : ((σ.2.2.1 6) (σ.1 14).toNatClampNeg).toInt = (41 : Int32).toInt) (ex6 : x6 = (σ.1 14) + (1 : Int32)) (tx6 : x6.toInt = (σ.1 14).toInt + 1) (ex7 : x7 = (σ.2.1 24) x1.toNatClampNeg) (tx7 : x7.toInt = ((σ.2.1 24) ((σ.1 19).toInt - 1).toNat).toInt) (ex8 : x8 = Int32.toInt64 x7) (tx8 : x8.toInt = x7.toInt) (ex9 : x9 = (4 : Int64) * x8) (tx9 : x9.toInt = 4 * x8.toInt) (ex10 : x10 = (σ.2.1 25) x1.toNatClampNeg) (tx10 : x10.toInt = ((σ.2.1 25) ((σ.1 19).toInt - 1).toNat).toInt) (ex11 : x11 = Int32.toInt64 x10) (tx11 : x11.toInt = x10.toInt) (ex12 : x12 = x9 + x11) (tx12 : x12.toInt = x9.toInt + x11.toInt) (hr13_0 : n14.toInt = (σ.1 16).toInt + 1) (hr13_1 : r13.toInt = (σ.1 15).toInt + (σ.1 16).toInt) (ex15 : x15 = (σ.2.1 23) x1.toNatClampNeg) (tx15 : x15.toInt = ((σ.2.1 23) ((σ.1 19).toInt - 1).toNat).toInt) (ex16 : x16 = (σ.1 15) + n14) (tx16 : x16.toInt = (σ.1 15).toInt + n14.toInt) (ex17 : x17 = Int32.toInt64 x16) (tx17 : x17.toInt = x16.toInt) (ex18 : x18 = (σ.1 19) - (1 : Int32)) (tx18 : x18.toInt = (σ.1 19).toInt - 1) : Keep (σ.1 15).toInt (σ.2.1 11) (upd (σ.2.1 11) ((σ.1 15).toInt + (σ.1 16).toInt).toNat (15 : Int32)) (σ.2.2.1 12) (vp_updL (vp_updL (σ.2.2.1 12) ((σ.1 15).toInt + (σ.1 16).toInt).toNat x12) x15.toNatClampNeg x17) ∧ 0 ≤ (σ.1 8).toInt ∧ (σ.1 8).toInt ≤ 3 ∧ ((σ.1 8).toInt = 0 → TKI (σ.2.1 4) (σ.2.2.1 6) (σ.2.1 7) (σ.1 3) x6 ∧ LI (0 : Int32) x6 (σ.1 15) n14 x18 (σ.1 29) (upd (σ.2.1 11) ((σ.1 15).toInt + (σ.1 16).toInt).toNat (15 : Int32)) (vp_updL (vp_updL (σ.2.2.1 12) ((σ.1 15).toInt + (σ.1 16).toInt).toNat x12) x15.toNatClampNeg x17) (σ.2.1 31) (σ.2.1 30) (σ.2.1 32) (σ.2.1 21) (σ.2.1 22) (σ.2.1 20) (σ.2.1 23) (σ.2.1 24) (σ.2.1 25) (σ.2.1 27) (σ.1 33) (σ.1 34) (upd (σ.2.1 28) (x18.toInt - 1).toNat (0 : Int32)) ∧ 2 * (σ.1 14).toInt - (σ.1 19).toInt < 2 * x6.toInt - x18.toInt) := by
  have q0 : (0 : Int32).toInt = 0 := by decide +kernel
  have q1 : (1 : Int32).toInt = 1 := by decide +kernel
  have q15 : (15 : Int32).toInt = 15 := by decide +kernel
  have q41 : (41 : Int32).toInt = 41 := by decide +kernel
  have q44 : (44 : Int32).toInt = 44 := by decide +kernel
  have ql4 : (4 : Int64).toInt = 4 := by decide +kernel
  have bb_hpre_0 := hpre_0.b
  have bb_hpre_4 := hpre_4.z.b
  have kk_hpre_0 := hpre_0.in
  have kp := PQ_pt (j1 := ((σ.1 19).toInt - 1).toNat) hpre_4 (by omega) (by omega) (by omega)
  have kn := hpre_0.in (by omega)
  have k3 := kp.2.2 (by omega)
  have kx : (x15.toNatClampNeg : Int) = x15.toInt := clampZ (by omega)
  refine ⟨(Keep.rf.em (by omega)).pa (by omega), by omega, by omega, fun _ => ⟨hpre_0.up (by omega) (by omega), Or.inr ⟨q0, ?_⟩, by omega⟩⟩
  refine (PQ_close3 (j1 := ((σ.1 19).toInt - 1).toNat) hpre_4 hpre_2 (by omega) (by omega) (by omega) (by omega) (by omega) (by omega) (by omega) (by omega) (by omega) q15 (by omega) ?_ (by omega) (fun hc => by rw [upd_at (by omega)]; exact q0)).1
  simp only [clampN]; omega
-- pre:misfit@58 @58
theorem v_argument_16 (σ : RS) (x1 : Int32) (hpre_0 : TKI (σ.2.1 4) (σ.2.2.1 6) (σ.2.1 7) (σ.1 3) (σ.1 14)) (hpre_1 : 0 ≤ (σ.1 15).toInt) (hpre_2 : (σ.1 15).toInt ≤ 3510) (hpre_4 : PQ1 1 0 (σ.1 14) (σ.1 15) (σ.1 16) (σ.1 19) (σ.1 29) (σ.2.1 11) (σ.2.2.1 12) (σ.2.1 31) (σ.2.1 30) (σ.2.1 32) (σ.2.1 21) (σ.2.1 22) (σ.2.1 20) (σ.2.1 23) (σ.2.1 24) (σ.2.1 25) (σ.2.1 27) (σ.1 33) (σ.1 34) (σ.2.1 28)) (hpre_5 : (σ.1 29).toInt = ((σ.2.1 21) ((σ.1 19).toInt - 1).toNat).toInt) (hpre_6 : ((σ.2.1 20) ((σ.1 19).toInt - 1).toNat).toInt = 3) (hpre_7 : 2 ≤ (σ.1 19).toInt) (ex1 : x1 = (σ.1 19) - (1 : Int32)) (tx1 : x1.toInt = (σ.1 19).toInt - 1) (hr2 : ¬ (((σ.2.1 4) (σ.1 14).toNatClampNeg).toInt = 5 ∧ ((σ.2.2.1 6) (σ.1 14).toNatClampNeg).toInt = (44 : Int32).toInt)) (hr4 : ¬ (((σ.2.1 4) (σ.1 14).toNatClampNeg).toInt = 5 ∧ ((σ.2.2.1 6) (σ.1 14).toNatClampNeg).toInt = (41 : Int32).toInt)) : 0 ≤ (σ.1 14).toInt ∧ (σ.1 14).toInt ≤ 41 := by
  have q1 : (1 : Int32).toInt = 1 := by decide +kernel
  have q41 : (41 : Int32).toInt = 41 := by decide +kernel
  have q44 : (44 : Int32).toInt = 44 := by decide +kernel
  have bb_hpre_0 := hpre_0.b
  have bb_hpre_4 := hpre_4.z.b
  have kk_hpre_0 := hpre_0.in
  have kp := PQ_pt (j1 := ((σ.1 19).toInt - 1).toNat) hpre_4 (by omega) (by omega) (by omega)
  refine ⟨?_, ?_⟩ <;> first | assumption | omega | (subst_vars; omega) | trivial
-- post @61
theorem v_argument_17 (σ : RS) (x1 : Int32) (n21 : Int32) (hpre_0 : TKI (σ.2.1 4) (σ.2.2.1 6) (σ.2.1 7) (σ.1 3) (σ.1 14)) (hpre_1 : 0 ≤ (σ.1 15).toInt) (hpre_2 : (σ.1 15).toInt ≤ 3510) (hpre_3 : (σ.1 8).toInt = 0) (hpre_4 : PQ1 1 0 (σ.1 14) (σ.1 15) (σ.1 16) (σ.1 19) (σ.1 29) (σ.2.1 11) (σ.2.2.1 12) (σ.2.1 31) (σ.2.1 30) (σ.2.1 32) (σ.2.1 21) (σ.2.1 22) (σ.2.1 20) (σ.2.1 23) (σ.2.1 24) (σ.2.1 25) (σ.2.1 27) (σ.1 33) (σ.1 34) (σ.2.1 28)) (hpre_5 : (σ.1 29).toInt = ((σ.2.1 21) ((σ.1 19).toInt - 1).toNat).toInt) (hpre_6 : ((σ.2.1 20) ((σ.1 19).toInt - 1).toNat).toInt = 3) (hpre_7 : 2 ≤ (σ.1 19).toInt) (ex1 : x1 = (σ.1 19) - (1 : Int32)) (tx1 : x1.toInt = (σ.1 19).toInt - 1) (hr2 : ¬ (((σ.2.1 4) (σ.1 14).toNatClampNeg).toInt = 5 ∧ ((σ.2.2.1 6) (σ.1 14).toNatClampNeg).toInt = (44 : Int32).toInt)) (hr4 : ¬ (((σ.2.1 4) (σ.1 14).toNatClampNeg).toInt = 5 ∧ ((σ.2.2.1 6) (σ.1 14).toNatClampNeg).toInt = (41 : Int32).toInt)) (hr20 : (σ.1 8).toInt = 0 → n21.toInt = 2) : Keep (σ.1 15).toInt (σ.2.1 11) (σ.2.1 11) (σ.2.2.1 12) (σ.2.2.1 12) ∧ 0 ≤ n21.toInt ∧ n21.toInt ≤ 3 ∧ (n21.toInt = 0 → TKI (σ.2.1 4) (σ.2.2.1 6) (σ.2.1 7) (σ.1 3) (σ.1 14) ∧ LI (σ.1 17) (σ.1 14) (σ.1 15) (σ.1 16) (σ.1 19) (σ.1 29) (σ.2.1 11) (σ.2.2.1 12) (σ.2.1 31) (σ.2.1 30) (σ.2.1 32) (σ.2.1 21) (σ.2.1 22) (σ.2.1 20) (σ.2.1 23) (σ.2.1 24) (σ.2.1 25) (σ.2.1 27) (σ.1 33) (σ.1 34) (σ.2.1 28) ∧ 2 * (σ.1 14).toInt - (σ.1 19).toInt < 2 * (σ.1 14).toInt - (σ.1 19).toInt) := by
  have q1 : (1 : Int32).toInt = 1 := by decide +kernel
  have q41 : (41 : Int32).toInt = 41 := by decide +kernel
  have q44 : (44 : Int32).toInt = 44 := by decide +kernel
  have bb_hpre_0 := hpre_0.b
  have bb_hpre_4 := hpre_4.z.b
  have kk_hpre_0 := hpre_0.in
  have kp := PQ_pt (j1 := ((σ.1 19).toInt - 1).toNat) hpre_4 (by omega) (by omega) (by omega)
  exact ⟨Keep.rf, by omega, by omega, fun h => by omega⟩
-- in@21 @21
theorem v_argument_18 (σ : RS) (x1 : Int32) (hpre_0 : TKI (σ.2.1 4) (σ.2.2.1 6) (σ.2.1 7) (σ.1 3) (σ.1 14)) (hpre_1 : 0 ≤ (σ.1 15).toInt) (hpre_2 : (σ.1 15).toInt ≤ 3510) (hpre_4 : PQ1 1 0 (σ.1 14) (σ.1 15) (σ.1 16) (σ.1 19) (σ.1 29) (σ.2.1 11) (σ.2.2.1 12) (σ.2.1 31) (σ.2.1 30) (σ.2.1 32) (σ.2.1 21) (σ.2.1 22) (σ.2.1 20) (σ.2.1 23) (σ.2.1 24) (σ.2.1 25) (σ.2.1 27) (σ.1 33) (σ.1 34) (σ.2.1 28)) (hpre_5 : (σ.1 29).toInt = ((σ.2.1 21) ((σ.1 19).toInt - 1).toNat).toInt) (hpre_6 : ((σ.2.1 20) ((σ.1 19).toInt - 1).toNat).toInt = 3) (hpre_7 : 2 ≤ (σ.1 19).toInt) (ex1 : x1 = (σ.1 19) - (1 : Int32)) (tx1 : x1.toInt = (σ.1 19).toInt - 1) (hr2_0 : ((σ.2.1 4) (σ.1 14).toNatClampNeg).toInt = 5) (hr2_1 : ((σ.2.2.1 6) (σ.1 14).toNatClampNeg).toInt = (44 : Int32).toInt) : vp_in x1 8 := by
  have q1 : (1 : Int32).toInt = 1 := by decide +kernel
  have q44 : (44 : Int32).toInt = 44 := by decide +kernel
  have bb_hpre_0 := hpre_0.b
  have bb_hpre_4 := hpre_4.z.b
  have kk_hpre_0 := hpre_0.in
  have kp := PQ_pt (j1 := ((σ.1 19).toInt - 1).toNat) hpre_4 (by omega) (by omega) (by omega)
  exact vp_in_iff.mpr ⟨by omega, by omega⟩
-- pre:isSign@51 @51
theorem v_argument_19 (σ : RS) (x1 : Int32) (x23 : Int32) (hpre_0 : TKI (σ.2.1 4) (σ.2.2.1 6) (σ.2.1 7) (σ.1 3) (σ.1 14)) (hpre_1 : 0 ≤ (σ.1 15).toInt) (hpre_2 : (σ.1 15).toInt ≤ 3510) (hpre_4 : PQ1 1 0 (σ.1 14) (σ.1 15) (σ.1 16) (σ.1 19) (σ.1 29) (σ.2.1 11) (σ.2.2.1 12) (σ.2.1 31) (σ.2.1 30) (σ.2.1 32) (σ.2.1 21) (σ.2.1 22) (σ.2.1 20) (σ.2.1 23) (σ.2.1 24) (σ.2.1 25) (σ.2.1 27) (σ.1 33) (σ.1 34) (σ.2.1 28)) (hpre_5 : (σ.1 29).toInt = ((σ.2.1 21) ((σ.1 19).toInt - 1).toNat).toInt) (hpre_6 : ((σ.2.1 20) ((σ.1 19).toInt - 1).toNat).toInt = 3) (hpre_7 : 2 ≤ (σ.1 19).toInt) (ex1 : x1 = (σ.1 19) - (1 : Int32)) (tx1 : x1.toInt = (σ.1 19).toInt - 1) (hr2_0 : ((σ.2.1 4) (σ.1 14).toNatClampNeg).toInt = 5) (hr2_1 : ((σ.2.2.1 6) (σ.1 14).toNatClampNeg).toInt = (44 : Int32).toInt) (ex23 : x23 = (σ.2.1 25) x1.toNatClampNeg) (tx23 : x23.toInt = ((σ.2.1 25) ((σ.1 19).toInt - 1).toNat).toInt) (c24 : ¬ x23.toInt = 1) : 0 ≤ (σ.1 14).toInt ∧ (σ.1 14).toInt ≤ 41 := by
  have q1 : (1 : Int32).toInt = 1 := by decide +kernel
  have q44 : (44 : Int32).toInt = 44 := by decide +kernel
  have bb_hpre_0 := hpre_0.b
  have bb_hpre_4 := hpre_4.z.b
  have kk_hpre_0 := hpre_0.in
  have kp := PQ_pt (j1 := ((σ.1 19).toInt - 1).toNat) hpre_4 (by omega) (by omega) (by omega)
  refine ⟨?_, ?_⟩ <;> first | assumption | omega | (subst_vars; omega) | trivial
-- nw@68 @68
theorem v_argument_20 (σ : RS) (x1 : Int32) (x23 : Int32) (x27 : Int32) (hpre_0 : TKI (σ.2.1 4) (σ.2.2.1 6) (σ.2.1 7) (σ.1 3) (σ.1 14)) (hpre_1 : 0 ≤ (σ.1 15).toInt) (hpre_2 : (σ.1 15).toInt ≤ 3510) (hpre_4 : PQ1 1 0 (σ.1 14) (σ.1 15) (σ.1 16) (σ.1 19) (σ.1 29) (σ.2.1 11) (σ.2.2.1 12) (σ.2.1 31) (σ.2.1 30) (σ.2.1 32) (σ.2.1 21) (σ.2.1 22) (σ.2.1 20) (σ.2.1 23) (σ.2.1 24) (σ.2.1 25) (σ.2.1 27) (σ.1 33) (σ.1 34) (σ.2.1 28)) (hpre_5 : (σ.1 29).toInt = ((σ.2.1 21) ((σ.1 19).toInt - 1).toNat).toInt) (hpre_6 : ((σ.2.1 20) ((σ.1 19).toInt - 1).toNat).toInt = 3) (hpre_7 : 2 ≤ (σ.1 19).toInt) (ex1 : x1 = (σ.1 19) - (1 : Int32)) (tx1 : x1.toInt = (σ.1 19).toInt - 1) (hr2_0 : ((σ.2.1 4) (σ.1 14).toNatClampNeg).toInt = 5) (hr2_1 : ((σ.2.2.1 6) (σ.1 14).toNatClampNeg).toInt = (44 : Int32).toInt) (ex23 : x23 = (σ.2.1 25) x1.toNatClampNeg) (tx23 : x23.toInt = ((σ.2.1 25) ((σ.1 19).toInt - 1).toNat).toInt) (c24 : ¬ x23.toInt = 1) (hr25_0 : ((σ.2.1 4) (σ.1 14).toNatClampNeg).toInt = 5) (hr25_1 : ((σ.2.2.1 6) (σ.1 14).toNatClampNeg).toInt = (41 : Int32).toInt) (ex27 : x27 = (σ.1 14) + (1 : Int32)) : x27.toInt = (σ.1 14).toInt + 1 := by
  have q1 : (1 : Int32).toInt = 1 := by decide +kernel
  have q41 : (41 : Int32).toInt = 41 := by decide +kernel
  have q44 : (44 : Int32).toInt = 44 := by decide +kernel
  have bb_hpre_0 := hpre_0.b
  have bb_hpre_4 := hpre_4.z.b
  have kk_hpre_0 := hpre_0.in
  have kp := PQ_pt (j1 := ((σ.1 19).toInt - 1).toNat) hpre_4 (by omega) (by omega) (by omega)
  have w1 : (1 : Int32).toInt = 1 := by decide +kernel
  rw [ex27, z_add (by omega) (by omega)]; first | done | omega
-- in@83 @83
theorem v_argument_21 (σ : RS) (x1 : Int32) (x23 : Int32) (x27 : Int32) (hpre_0 : TKI (σ.2.1 4) (σ.2.2.1 6) (σ.2.1 7) (σ.1 3) (σ.1 14)) (hpre_1 : 0 ≤ (σ.1 15).toInt) (hpre_2 : (σ.1 15).toInt ≤ 3510) (hpre_4 : PQ1 1 0 (σ.1 14) (σ.1 15) (σ.1 16) (σ.1 19) (σ.1 29) (σ.2.1 11) (σ.2.2.1 12) (σ.2.1 31) (σ.2.1 30) (σ.2.1 32) (σ.2.1 21) (σ.2.1 22) (σ.2.1 20) (σ.2.1 23) (σ.2.1 24) (σ.2.1 25) (σ.2.1 27) (σ.1 33) (σ.1 34) (σ.2.1 28)) (hpre_5 : (σ.1 29).toInt = ((σ.2.1 21) ((σ.1 19).toInt - 1).toNat).toInt) (hpre_6 : ((σ.2.1 20) ((σ.1 19).toInt - 1).toNat).toInt = 3) (hpre_7 : 2 ≤ (σ.1 19).toInt) (ex1 : x1 = (σ.1 19) - (1 : Int32)) (tx1 : x1.toInt = (σ.1 19).toInt - 1) (hr2_0 : ((σ.2.1 4) (σ.1 14).toNatClampNeg).toInt = 5) (hr2_1 : ((σ.2.2.1 6) (σ.1 14).toNatClampNeg).toInt = (44 : Int32).toInt) (ex23 : x23 = (σ.2.1 25) x1.toNatClampNeg) (tx23 : x23.toInt = ((σ.2.1 25) ((σ.1 19).toInt - 1).toNat).toInt) (c24 : ¬ x23.toInt = 1) (hr25_0 : ((σ.2.1 4) (σ.1 14).toNatClampNeg).toInt = 5) (hr25_1 : ((σ.2.2.1 6) (σ.1 14).toNatClampNeg).toInt = (41 : Int32).toInt) (ex27 : x27 = (σ.1 14) + (1 : Int32)) (tx27 : x27.toInt = (σ.1 14).toInt + 1) : vp_in x1 8 := by
  have q1 : (1 : Int32).toInt = 1 := by decide +kernel
  have q41 : (41 : Int32).toInt = 41 := by decide +kernel
  have q44 : (44 : Int32).toInt = 44 := by decide +kernel
  have bb_hpre_0 := hpre_0.b
  have bb_hpre_4 := hpre_4.z.b
  have kk_hpre_0 := hpre_0.in
  have kp := PQ_pt (j1 := ((σ.1 19).toInt - 1).toNat) hpre_4 (by omega) (by omega) (by omega)
  exact vp_in_iff.mpr ⟨by omega, by omega⟩
-- nw@85 @85
theorem v_argument_22 (σ : RS) (x1 : Int32) (x23 : Int32) (x27 : Int32) (x28 : Int32) (x29 : Int64) (x30 : Int64) (hpre_0 : TKI (σ.2.1 4) (σ.2.2.1 6) (σ.2.1 7) (σ.1 3) (σ.1 14)) (hpre_1 : 0 ≤ (σ.1 15).toInt) (hpre_2 : (σ.1 15).toInt ≤ 3510) (hpre_4 : PQ1 1 0 (σ.1 14) (σ.1 15) (σ.1 16) (σ.1 19) (σ.1 29) (σ.2.1 11) (σ.2.2.1 12) (σ.2.1 31) (σ.2.1 30) (σ.2.1 32) (σ.2.1 21) (σ.2.1 22) (σ.2.1 20) (σ.2.1 23) (σ.2.1 24) (σ.2.1 25) (σ.2.1 27) (σ.1 33) (σ.1 34) (σ.2.1 28)) (hpre_5 : (σ.1 29).toInt = ((σ.2.1 21) ((σ.1 19).toInt - 1).toNat).toInt) (hpre_6 : ((σ.2.1 20) ((σ.1 19).toInt - 1).toNat).toInt = 3) (hpre_7 : 2 ≤ (σ.1 19).toInt) (ex1 : x1 = (σ.1 19) - (1 : Int32)) (tx1 : x1.toInt = (σ.1 19).toInt - 1) (hr2_0 : ((σ.2.1 4) (σ.1 14).toNatClampNeg).toInt = 5) (hr2_1 : ((σ.2.2.1 6) (σ.1 14).toNatClampNeg).toInt = (44 : Int32).toInt) (ex23 : x23 = (σ.2.1 25) x1.toNatClampNeg) (tx23 : x23.toInt = ((σ.2.1 25) ((σ.1 19).toInt - 1).toNat).toInt) (c24 : ¬ x23.toInt = 1) (hr25_0 : ((σ.2.1 4) (σ.1 14).toNatClampNeg).toInt = 5) (hr25_1 : ((σ.2.2.1 6) (σ.1 14).toNatClampNeg).toInt = (41 : Int32).toInt) (ex27 : x27 = (σ.1 14) + (1 : Int32)) (tx27 : x27.toInt = (σ.1 14).toInt + 1) (ex28 : x28 = (σ.2.1 24) x1.toNatClampNeg) (tx28 : x28.toInt = ((σ.2.1 24) ((σ.1 19).toInt - 1).toNat).toInt) (ex29 : x29 = Int32.toInt64 x28) (tx29 : x29.toInt = x28.toInt) (ex30 : x30 = (4 : Int64) * x29) : x30.toInt = 4 * x29.toInt := by
  have q1 : (1 : Int32).toInt = 1 := by decide +kernel
  have q41 : (41 : Int32).toInt = 41 := by decide +kernel
  have q44 : (44 : Int32).toInt = 44 := by decide +kernel
  have ql4 : (4 : Int64).toInt = 4 := by decide +kernel
  have bb_hpre_0 := hpre_0.b
  have bb_hpre_4 := hpre_4.z.b
  have kk_hpre_0 := hpre_0.in
  have kp := PQ_pt (j1 := ((σ.1 19).toInt - 1).toNat) hpre_4 (by omega) (by omega) (by omega)
  have w0 : (4 : Int64).toInt = 4 := by decide +kernel
  rw [ex30, zl_mulc 4 w0 (by omega) (by omega)]
-- in@91 @91
theorem v_argument_23 (σ : RS) (x1 : Int32) (x23 : Int32) (x27 : Int32) (x28 : Int32) (x29 : Int64) (x30 : Int64) (hpre_0 : TKI (σ.2.1 4) (σ.2.2.1 6) (σ.2.1 7) (σ.1 3) (σ.1 14)) (hpre_1 : 0 ≤ (σ.1 15).toInt) (hpre_2 : (σ.1 15).toInt ≤ 3510) (hpre_4 : PQ1 1 0 (σ.1 14) (σ.1 15) (σ.1 16) (σ.1 19) (σ.1 29) (σ.2.1 11) (σ.2.2.1 12) (σ.2.1 31) (σ.2.1 30) (σ.2.1 32) (σ.2.1 21) (σ.2.1 22) (σ.2.1 20) (σ.2.1 23) (σ.2.1 24) (σ.2.1 25) (σ.2.1 27) (σ.1 33) (σ.1 34) (σ.2.1 28)) (hpre_5 : (σ.1 29).toInt = ((σ.2.1 21) ((σ.1 19).toInt - 1).toNat).toInt) (hpre_6 : ((σ.2.1 20) ((σ.1 19).toInt - 1).toNat).toInt = 3) (hpre_7 : 2 ≤ (σ.1 19).toInt) (ex1 : x1 = (σ.1 19) - (1 : Int32)) (tx1 : x1.toInt = (σ.1 19).toInt - 1) (hr2_0 : ((σ.2.1 4) (σ.1 14).toNatClampNeg).toInt = 5) (hr2_1 : ((σ.2.2.1 6) (σ.1 14).toNatClampNeg).toInt = (44 : Int32).toInt) (ex23 : x23 = (σ.2.1 25) x1.toNatClampNeg) (tx23 : x23.toInt = ((σ.2.1 25) ((σ.1 19).toInt - 1).toNat).toInt) (c24 : ¬ x23.toInt = 1) (hr25_0 : ((σ.2.1 4) (σ.1 14).toNatClampNeg).toInt = 5) (hr25_1 : ((σ.2.2.1 6) (σ.1 14).toNatClampNeg).toInt = (41 : Int32).toInt) (ex27 : x27 = (σ.1 14) + (1 : Int32)) (tx27 : x27.toInt = (σ.1 14).toInt + 1) (ex28 : x28 = (σ.2.1 24) x1.toNatClampNeg) (tx28 : x28.toInt = ((σ.2.1 24) ((σ.1 19).toInt - 1).toNat).toInt) (ex29 : x29 = Int32.toInt64 x28) (tx29 : x29.toInt = x28.toInt) (ex30 : x30 = (4 : Int64) * x29) (tx30 : x30.toInt = 4 * x29.toInt) : vp_in x1 8 := by
  have q1 : (1 : Int32).toInt = 1 := by decide +kernel
  have q41 : (41 : Int32).toInt = 41 := by decide +kernel
  have q44 : (44 : Int32).toInt = 44 := by decide +kernel
  have ql4 : (4 : Int64).toInt = 4 := by decide +kernel
  have bb_hpre_0 := hpre_0.b
  have bb_hpre_4 := hpre_4.z.b
  have kk_hpre_0 := hpre_0.in
  have kp := PQ_pt (j1 := ((σ.1 19).toInt - 1).toNat) hpre_4 (by omega) (by omega) (by omega)
  exact vp_in_iff.mpr ⟨by omega, by omega⟩
-- nw@93 @93
theorem v_argument_24 (σ : RS) (x1 : Int32) (x23 : Int32) (x27 : Int32) (x28 : Int32) (x29 : Int64) (x30 : Int64) (x31 : Int32) (x32 : Int64) (x33 : Int64) (hpre_0 : TKI (σ.2.1 4) (σ.2.2.1 6) (σ.2.1 7) (σ.1 3) (σ.1 14)) (hpre_1 : 0 ≤ (σ.1 15).toInt) (hpre_2 : (σ.1 15).toInt ≤ 3510) (hpre_4 : PQ1 1 0 (σ.1 14) (σ.1 15) (σ.1 16) (σ.1 19) (σ.1 29) (σ.2.1 11) (σ.2.2.1 12) (σ.2.1 31) (σ.2.1 30) (σ.2.1 32) (σ.2.1 21) (σ.2.1 22) (σ.2.1 20) (σ.2.1 23) (σ.2.1 24) (σ.2.1 25) (σ.2.1 27) (σ.1 33) (σ.1 34) (σ.2.1 28)) (hpre_5 : (σ.1 29).toInt = ((σ.2.1 21) ((σ.1 19).toInt - 1).toNat).toInt) (hpre_6 : ((σ.2.1 20) ((σ.1 19).toInt - 1).toNat).toInt = 3) (hpre_7 : 2 ≤ (σ.1 19).toInt) (ex1 : x1 = (σ.1 19) - (1 : Int32)) (tx1 : x1.toInt = (σ.1 19).toInt - 1) (hr2_0 : ((σ.2.1 4) (σ.1 14).toNatClampNeg).toInt = 5) (hr2_1 : ((σ.2.2.1 6) (σ.1 14).toNatClampNeg).toInt = (44 : Int32).toInt) (ex23 : x23 = (σ.2.1 25) x1.toNatClampNeg) (tx23 : x23.toInt = ((σ.2.1 25) ((σ.1 19).toInt - 1).toNat).toInt) (c24 : ¬ x23.toInt = 1) (hr25_0 : ((σ.2.1 4) (σ.1 14).toNatClampNeg).toInt = 5) (hr25_1 : ((σ.2.2.1 6) (σ.1 14).toNatClampNeg).toInt = (41 : Int32).toInt) (ex27 : x27 = (σ.1 14) + (1 : Int32)) (tx27 : x27.toInt = (σ.1 14).toInt + 1) (ex28 : x28 = (σ.2.1 24) x1.toNatClampNeg) (tx28 : x28.toInt = ((σ.2.1 24) ((σ.1 19).toInt - 1).toNat).toInt) (ex29 : x29 = Int32.toInt64 x28) (tx29 : x29.toInt = x28.toInt) (ex30 : x30 = (4 : Int64) * x29) (tx30 : x30.toInt = 4 * x29.toInt) (ex31 : x31 = (σ.2.1 25) x1.toNatClampNeg) (tx31 : x31.toInt = ((σ.2.1 25) ((σ.1 19).toInt - 1).toNat).toInt) (ex32 : x32 = Int32.toInt64 x31) (tx32 : x32.toInt = x31.toInt) (ex33 : x33 = x30 + x32) : x33.toInt = x30.toInt + x32.toInt := by
  have q1 : (1 : Int32).toInt = 1 := by decide +kernel
  have q41 : (41 : Int32).toInt = 41 := by decide +kernel
  have q44 : (44 : Int32).toInt = 44 := by decide +kernel
  have ql4 : (4 : Int64).toInt = 4 := by decide +kernel
  have bb_hpre_0 := hpre_0.b
  have bb_hpre_4 := hpre_4.z.b
  have kk_hpre_0 := hpre_0.in
  have kp := PQ_pt (j1 := ((σ.1 19).toInt - 1).toNat) hpre_4 (by omega) (by omega) (by omega)
  rw [ex33, zl_add (by omega) (by omega)]; first | done | omega
-- pre:emit@94 @94
theorem v_argument_25 (σ : RS) (x1 : Int32) (x23 : Int32) (x27 : Int32) (x28 : Int32) (x29 : Int64) (x30 : Int64) (x31 : Int32) (x32 : Int64) (x33 : Int64) (hpre_0 : TKI (σ.2.1 4) (σ.2.2.1 6) (σ.2.1 7) (σ.1 3) (σ.1 14)) (hpre_1 : 0 ≤ (σ.1 15).toInt) (hpre_2 : (σ.1 15).toInt ≤ 3510) (hpre_4 : PQ1 1 0 (σ.1 14) (σ.1 15) (σ.1 16) (σ.1 19) (σ.1 29) (σ.2.1 11) (σ.2.2.1 12) (σ.2.1 31) (σ.2.1 30) (σ.2.1 32) (σ.2.1 21) (σ.2.1 22) (σ.2.1 20) (σ.2.1 23) (σ.2.1 24) (σ.2.1 25) (σ.2.1 27) (σ.1 33) (σ.1 34) (σ.2.1 28)) (hpre_5 : (σ.1 29).toInt = ((σ.2.1 21) ((σ.1 19).toInt - 1).toNat).toInt) (hpre_6 : ((σ.2.1 20) ((σ.1 19).toInt - 1).toNat).toInt = 3) (hpre_7 : 2 ≤ (σ.1 19).toInt) (ex1 : x1 = (σ.1 19) - (1 : Int32)) (tx1 : x1.toInt = (σ.1 19).toInt - 1) (hr2_0 : ((σ.2.1 4) (σ.1 14).toNatClampNeg).toInt = 5) (hr2_1 : ((σ.2.2.1 6) (σ.1 14).toNatClampNeg).toInt = (44 : Int32).toInt) (ex23 : x23 = (σ.2.1 25) x1.toNatClampNeg) (tx23 : x23.toInt = ((σ.2.1 25) ((σ.1 19).toInt - 1).toNat).toInt) (c24 : ¬ x23.toInt = 1) (hr25_0 : ((σ.2.1 4) (σ.1 14).toNatClampNeg).toInt = 5) (hr25_1 : ((σ.2.2.1 6) (σ.1 14).toNatClampNeg).toInt = (41 : Int32).toInt) (ex27 : x27 = (σ.1 14) + (1 : Int32)) (tx27 : x27.toInt = (σ.1 14).toInt + 1) (ex28 : x28 = (σ.2.1 24) x1.toNatClampNeg) (tx28 : x28.toInt = ((σ.2.1 24) ((σ.1 19).toInt - 1).toNat).toInt) (ex29 : x29 = Int32.toInt64 x28) (tx29 : x29.toInt = x28.toInt) (ex30 : x30 = (4 : Int64) * x29) (tx30 : x30.toInt = 4 * x29.toInt) (ex31 : x31 = (σ.2.1 25) x1.toNatClampNeg) (tx31 : x31.toInt = ((σ.2.1 25) ((σ.1 19).toInt - 1).toNat).toInt) (ex32 : x32 = Int32.toInt64 x31) (tx32 : x32.toInt = x31.toInt) (ex33 : x33 = x30 + x32) (tx33 : x33.toInt = x30.toInt + x32.toInt) : 0 ≤ (σ.1 15).toInt ∧ 0 ≤ (σ.1 16).toInt ∧ (σ.1 15).toInt + (σ.1 16).toInt < 3600 := by
  have q1 : (1 : Int32).toInt = 1 := by decide +kernel
  have q41 : (41 : Int32).toInt = 41 := by decide +kernel
  have q44 : (44 : Int32).toInt = 44 := by decide +kernel
  have ql4 : (4 : Int64).toInt = 4 := by decide +kernel
  have bb_hpre_0 := hpre_0.b
  have bb_hpre_4 := hpre_4.z.b
  have kk_hpre_0 := hpre_0.in
  have kp := PQ_pt (j1 := ((σ.1 19).toInt - 1).toNat) hpre_4 (by omega) (by omega) (by omega)
  refine ⟨?_, ?_, ?_⟩ <;> first | assumption | omega | (subst_vars; omega) | trivial
-- in@107 @107
theorem v_argument_26 (σ : RS) (x1 : Int32) (x23 : Int32) (x27 : Int32) (x28 : Int32) (x29 : Int64) (x30 : Int64) (x31 : Int32) (x32 : Int64) (x33 : Int64) (n35 : Int32) (r34 : Int32) (hpre_0 : TKI (σ.2.1 4) (σ.2.2.1 6) (σ.2.1 7) (σ.1 3) (σ.1 14)) (hpre_1 : 0 ≤ (σ.1 15).toInt) (hpre_2 : (σ.1 15).toInt ≤ 3510) (hpre_4 : PQ1 1 0 (σ.1 14) (σ.1 15) (σ.1 16) (σ.1 19) (σ.1 29) (σ.2.1 11) (σ.2.2.1 12) (σ.2.1 31) (σ.2.1 30) (σ.2.1 32) (σ.2.1 21) (σ.2.1 22) (σ.2.1 20) (σ.2.1 23) (σ.2.1 24) (σ.2.1 25) (σ.2.1 27) (σ.1 33) (σ.1 34) (σ.2.1 28)) (hpre_5 : (σ.1 29).toInt = ((σ.2.1 21) ((σ.1 19).toInt - 1).toNat).toInt) (hpre_6 : ((σ.2.1 20) ((σ.1 19).toInt - 1).toNat).toInt = 3) (hpre_7 : 2 ≤ (σ.1 19).toInt) (ex1 : x1 = (σ.1 19) - (1 : Int32)) (tx1 : x1.toInt = (σ.1 19).toInt - 1) (hr2_0 : ((σ.2.1 4) (σ.1 14).toNatClampNeg).toInt = 5) (hr2_1 : ((σ.2.2.1 6) (σ.1 14).toNatClampNeg).toInt = (44 : Int32).toInt) (ex23 : x23 = (σ.2.1 25) x1.toNatClampNeg) (tx23 : x23.toInt = ((σ.2.1 25) ((σ.1 19).toInt - 1).toNat).toInt) (c24 : ¬ x23.toInt = 1) (hr25_0 : ((σ.2.1 4) (σ.1 14).toNatClampNeg).toInt = 5) (hr25_1 : ((σ.2.2.1 6) (σ.1 14).toNatClampNeg).toInt = (41 : Int32).toInt) (ex27 : x27 = (σ.1 14) + (1 : Int32)) (tx27 : x27.toInt = (σ.1 14).toInt + 1) (ex28 : x28 = (σ.2.1 24) x1.toNatClampNeg) (tx28 : x28.toInt = ((σ.2.1 24) ((σ.1 19).toInt - 1).toNat).toInt) (ex29 : x29 = Int32.toInt64 x28) (tx29 : x29.toInt = x28.toInt) (ex30 : x30 = (4 : Int64) * x29) (tx30 : x30.toInt = 4 * x29.toInt) (ex31 : x31 = (σ.2.1 25) x1.toNatClampNeg) (tx31 : x31.toInt = ((σ.2.1 25) ((σ.1 19).toInt - 1).toNat).toInt) (ex32 : x32 = Int32.toInt64 x31) (tx32 : x32.toInt = x31.toInt) (ex33 : x33 = x30 + x32) (tx33 : x33.toInt = x30.toInt + x32.toInt) (hr34_0 : n35.toInt = (σ.1 16).toInt + 1) (hr34_1 : r34.toInt = (σ.1 15).toInt + (σ.1 16).toInt) : vp_in x1 8 := by
  have q1 : (1 : Int32).toInt = 1 := by decide +kernel
  have q41 : (41 : Int32).toInt = 41 := by decide +kernel
  have q44 : (44 : Int32).toInt = 44 := by decide +kernel
  have ql4 : (4 : Int64).toInt = 4 := by decide +kernel
  have bb_hpre_0 := hpre_0.b
  have bb_hpre_4 := hpre_4.z.b
  have kk_hpre_0 := hpre_0.in
  have kp := PQ_pt (j1 := ((σ.1 19).toInt - 1).toNat) hpre_4 (by omega) (by omega) (by omega)
  exact vp_in_iff.mpr ⟨by omega, by omega⟩
-- nw@116 @116
theorem v_argument_27 (σ : RS) (x1 : Int32) (x23 : Int32) (x27 : Int32) (x28 : Int32) (x29 : Int64) (x30 : Int64) (x31 : Int32) (x32 : Int64) (x33 : Int64) (n35 : Int32) (r34 : Int32) (x36 : Int32) (x37 : Int32) (hpre_0 : TKI (σ.2.1 4) (σ.2.2.1 6) (σ.2.1 7) (σ.1 3) (σ.1 14)) (hpre_1 : 0 ≤ (σ.1 15).toInt) (hpre_2 : (σ.1 15).toInt ≤ 3510) (hpre_4 : PQ1 1 0 (σ.1 14) (σ.1 15) (σ.1 16) (σ.1 19) (σ.1 29) (σ.2.1 11) (σ.2.2.1 12) (σ.2.1 31) (σ.2.1 30) (σ.2.1 32) (σ.2.1 21) (σ.2.1 22) (σ.2.1 20) (σ.2.1 23) (σ.2.1 24) (σ.2.1 25) (σ.2.1 27) (σ.1 33) (σ.1 34) (σ.2.1 28)) (hpre_5 : (σ.1 29).toInt = ((σ.2.1 21) ((σ.1 19).toInt - 1).toNat).toInt) (hpre_6 : ((σ.2.1 20) ((σ.1 19).toInt - 1).toNat).toInt = 3) (hpre_7 : 2 ≤ (σ.1 19).toInt) (ex1 : x1 = (σ.1 19) - (1 : Int32)) (tx1 : x1.toInt = (σ.1 19).toInt - 1) (hr2_0 : ((σ.2.1 4) (σ.1 14).toNatClampNeg).toInt = 5) (hr2_1 : ((σ.2.2.1 6) (σ.1 14).toNatClampNeg).toInt = (44 : Int32).toInt) (ex23 : x23 = (σ.2.1 25) x1.toNatClampNeg) (tx23 : x23.toInt = ((σ.2.1 25) ((σ.1 19).toInt - 1).toNat).toInt) (c24 : ¬ x23.toInt = 1) (hr25_0 : ((σ.2.1 4) (σ.1 14).toNatClampNeg).toInt = 5) (hr25_1 : ((σ.2.2.1 6) (σ.1 14).toNatClampNeg).toInt = (41 : Int32).toInt) (ex27 : x27 = (σ.1 14) + (1 : Int32)) (tx27 : x27.toInt = (σ.1 14).toInt + 1) (ex28 : x28 = (σ.2.1 24) x1.toNatClampNeg) (tx28 : x28.toInt = ((σ.2.1 24) ((σ.1 19).toInt - 1).toNat).toInt) (ex29 : x29 = Int32.toInt64 x28) (tx29 : x29.toInt = x28.toInt) (ex30 : x30 = (4 : Int64) * x29) (tx30 : x30.toInt = 4 * x29.toInt) (ex31 : x31 = (σ.2.1 25) x1.toNatClampNeg) (tx31 : x31.toInt = ((σ.2.1 25) ((σ.1 19).toInt - 1).toNat).toInt) (ex32 : x32 = Int32.toInt64 x31) (tx32 : x32.toInt = x31.toInt) (ex33 : x33 = x30 + x32) (tx33 : x33.toInt = x30.toInt + x32.toInt) (hr34_0 : n35.toInt = (σ.1 16).toInt + 1) (hr34_1 : r34.toInt = (σ.1 15).toInt + (σ.1 16).toInt) (ex36 : x36 = (σ.2.1 23) x1.toNatClampNeg) (tx36 : x36.toInt = ((σ.2.1 23) ((σ.1 19).toInt - 1).toNat).toInt) (ex37 : x37 = (σ.1 15) + n35) : x37.toInt = (σ.1 15).toInt + n35.toInt := by
  have q1 : (1 : Int32).toInt = 1 := by decide +kernel
  have q41 : (41 : Int32).toInt = 41 := by decide +kernel
  have q44 : (44 : Int32).toInt = 44 := by decide +kernel
  have ql4 : (4 : Int64).toInt = 4 := by decide +kernel
  have bb_hpre_0 := hpre_0.b
  have bb_hpre_4 := hpre_4.z.b
  have kk_hpre_0 := hpre_0.in
  have kp := PQ_pt (j1 := ((σ.1 19).toInt - 1).toNat) hpre_4 (by omega) (by omega) (by omega)
  rw [ex37, z_add (by omega) (by omega)]; first | done | omega
-- in@118 @118
theorem v_argument_28 (σ : RS) (x1 : Int32) (x23 : Int32) (x27 : Int32) (x28 : Int32) (x29 : Int64) (x30 : Int64) (x31 : Int32) (x32 : Int64) (x33 : Int64) (n35 : Int32) (r34 : Int32) (x36 : Int32) (x37 : Int32) (x38 : Int64) (hpre_0 : TKI (σ.2.1 4) (σ.2.2.1 6) (σ.2.1 7) (σ.1 3) (σ.1 14)) (hpre_1 : 0 ≤ (σ.1 15).toInt) (hpre_2 : (σ.1 15).toInt ≤ 3510) (hpre_4 : PQ1 1 0 (σ.1 14) (σ.1 15) (σ.1 16) (σ.1 19) (σ.1 29) (σ.2.1 11) (σ.2.2.1 12) (σ.2.1 31) (σ.2.1 30) (σ.2.1 32) (σ.2.1 21) (σ.2.1 22) (σ.2.1 20) (σ.2.1 23) (σ.2.1 24) (σ.2.1 25) (σ.2.1 27) (σ.1 33) (σ.1 34) (σ.2.1 28)) (hpre_5 : (σ.1 29).toInt = ((σ.2.1 21) ((σ.1 19).toInt - 1).toNat).toInt) (hpre_6 : ((σ.2.1 20) ((σ.1 19).toInt - 1).toNat).toInt = 3) (hpre_7 : 2 ≤ (σ.1 19).toInt) (ex1 : x1 = (σ.1 19) - (1 : Int32)) (tx1 : x1.toInt = (σ.1 19).toInt - 1) (hr2_0 : ((σ.2.1 4) (σ.1 14).toNatClampNeg).toInt = 5) (hr2_1 : ((σ.2.2.1 6) (σ.1 14).toNatClampNeg).toInt = (44 : Int32).toInt) (ex23 : x23 = (σ.2.1 25) x1.toNatClampNeg) (tx23 : x23.toInt = ((σ.2.1 25) ((σ.1 19).toInt - 1).toNat).toInt) (c24 : ¬ x23.toInt = 1) (hr25_0 : ((σ.2.1 4) (σ.1 14).toNatClampNeg).toInt = 5) (hr25_1 : ((σ.2.2.1 6) (σ.1 14).toNatClampNeg).toInt = (41 : Int32).toInt) (ex27 : x27 = (σ.1 14) + (1 : Int32)) (tx27 : x27.toInt = (σ.1 14).toInt + 1) (ex28 : x28 = (σ.2.1 24) x1.toNatClampNeg) (tx28 : x28.toInt = ((σ.2.1 24) ((σ.1 19).toInt - 1).toNat).toInt) (ex29 : x29 = Int32.toInt64 x28) (tx29 : x29.toInt = x28.toInt) (ex30 : x30 = (4 : Int64) * x29) (tx30 : x30.toInt = 4 * x29.toInt) (ex31 : x31 = (σ.2.1 25) x1.toNatClampNeg) (tx31 : x31.toInt = ((σ.2.1 25) ((σ.1 19).toInt - 1).toNat).toInt) (ex32 : x32 = Int32.toInt64 x31) (tx32 : x32.toInt = x31.toInt) (ex33 : x33 = x30 + x32) (tx33 : x33.toInt = x30.toInt + x32.toInt) (hr34_0 : n35.toInt = (σ.1 16).toInt + 1) (hr34_1 : r34.toInt = (σ.1 15).toInt + (σ.1 16).toInt) (ex36 : x36 = (σ.2.1 23) x1.toNatClampNeg) (tx36 : x36.toInt = ((σ.2.1 23) ((σ.1 19).toInt - 1).toNat).toInt) (ex37 : x37 = (σ.1 15) + n35) (tx37 : x37.toInt = (σ.1 15).toInt + n35.toInt) (ex38 : x38 = Int32.toInt64 x37) (tx38 : x38.toInt = x37.toInt) : vp_in x36 3600 := by
  have q1 : (1 : Int32).toInt = 1 := by decide +kernel
  have q41 : (41 : Int32).toInt = 41 := by decide +kernel
  have q44 : (44 : Int32).toInt = 44 := by decide +kernel
  have ql4 : (4 : Int64).toInt = 4 := by decide +kernel
  have bb_hpre_0 := hpre_0.b
  have bb_hpre_4 := hpre_4.z.b
  have kk_hpre_0 := hpre_0.in
  have kp := PQ_pt (j1 := ((σ.1 19).toInt - 1).toNat) hpre_4 (by omega) (by omega) (by omega)
  exact vp_in_iff.mpr ⟨by omega, by omega⟩
-- nw@125 @125
theorem v_argument_29 (σ : RS) (x1 : Int32) (x23 : Int32) (x27 : Int32) (x28 : Int32) (x29 : Int64) (x30 : Int64) (x31 : Int32) (x32 : Int64) (x33 : Int64) (n35 : Int32) (r34 : Int32) (x36 : Int32) (x37 : Int32) (x38 : Int64) (x39 : Int32) (hpre_0 : TKI (σ.2.1 4) (σ.2.2.1 6) (σ.2.1 7) (σ.1 3) (σ.1 14)) (hpre_1 : 0 ≤ (σ.1 15).toInt) (hpre_2 : (σ.1 15).toInt ≤ 3510) (hpre_4 : PQ1 1 0 (σ.1 14) (σ.1 15) (σ.1 16) (σ.1 19) (σ.1 29) (σ.2.1 11) (σ.2.2.1 12) (σ.2.1 31) (σ.2.1 30) (σ.2.1 32) (σ.2.1 21) (σ.2.1 22) (σ.2.1 20) (σ.2.1 23) (σ.2.1 24) (σ.2.1 25) (σ.2.1 27) (σ.1 33) (σ.1 34) (σ.2.1 28)) (hpre_5 : (σ.1 29).toInt = ((σ.2.1 21) ((σ.1 19).toInt - 1).toNat).toInt) (hpre_6 : ((σ.2.1 20) ((σ.1 19).toInt - 1).toNat).toInt = 3) (hpre_7 : 2 ≤ (σ.1 19).toInt) (ex1 : x1 = (σ.1 19) - (1 : Int32)) (tx1 : x1.toInt = (σ.1 19).toInt - 1) (hr2_0 : ((σ.2.1 4) (σ.1 14).toNatClampNeg).toInt = 5) (hr2_1 : ((σ.2.2.1 6) (σ.1 14).toNatClampNeg).toInt = (44 : Int32).toInt) (ex23 : x23 = (σ.2.1 25) x1.toNatClampNeg) (tx23 : x23.toInt = ((σ.2.1 25) ((σ.1 19).toInt - 1).toNat).toInt) (c24 : ¬ x23.toInt = 1) (hr25_0 : ((σ.2.1 4) (σ.1 14).toNatClampNeg).toInt = 5) (hr25_1 : ((σ.2.2.1 6) (σ.1 14).toNatClampNeg).toInt = (41 : Int32).toInt) (ex27 : x27 = (σ.1 14) + (1 : Int32)) (tx27 : x27.toInt = (σ.1 14).toInt + 1) (ex28 : x28 = (σ.2.1 24) x1.toNatClampNeg) (tx28 : x28.toInt = ((σ.2.1 24) ((σ.1 19).toInt - 1).toNat).toInt) (ex29 : x29 = Int32.toInt64 x28) (tx29 : x29.toInt = x28.toInt) (ex30 : x30 = (4 : Int64) * x29) (tx30 : x30.toInt = 4 * x29.toInt) (ex31 : x31 = (σ.2.1 25) x1.toNatClampNeg) (tx31 : x31.toInt = ((σ.2.1 25) ((σ.1 19).toInt - 1).toNat).toInt) (ex32 : x32 = Int32.toInt64 x31) (tx32 : x32.toInt = x31.toInt) (ex33 : x33 = x30 + x32) (tx33 : x33.toInt = x30.toInt + x32.toInt) (hr34_0 : n35.toInt = (σ.1 16).toInt + 1) (hr34_1 : r34.toInt = (σ.1 15).toInt + (σ.1 16).toInt) (ex36 : x36 = (σ.2.1 23) x1.toNatClampNeg) (tx36 : x36.toInt = ((σ.2.1 23) ((σ.1 19).toInt - 1).toNat).toInt) (ex37 : x37 = (σ.1 15) + n35) (tx37 : x37.toInt = (σ.1 15).toInt + n35.toInt) (ex38 : x38 = Int32.toInt64 x37) (tx38 : x38.toInt = x37.toInt) (ex39 : x39 = (σ.1 19) - (1 : Int32)) : x39.toInt = (σ.1 19).toInt - 1 := by
  have q1 : (1 : Int32).toInt = 1 := by decide +kernel
  have q41 : (41 : Int32).toInt = 41 := by decide +kernel
  have q44 : (44 : Int32).toInt = 44 := by decide +kernel
  have ql4 : (4 : Int64).toInt = 4 := by decide +kernel
  have bb_hpre_0 := hpre_0.b
  have bb_hpre_4 := hpre_4.z.b
  have kk_hpre_0 := hpre_0.in
  have kp := PQ_pt (j1 := ((σ.1 19).toInt - 1).toNat) hpre_4 (by omega) (by omega) (by omega)
  have w1 : (1 : Int32).toInt = 1 := by decide +kernel
  rw [ex39, z_sub (by omega) (by omega)]; first | done | omega
-- pre:ready@131 @131
theorem v_argument_30 (σ : RS) (x1 : Int32) (x23 : Int32) (x27 : Int32) (x28 : Int32) (x29 : Int64) (x30 : Int64) (x31 : Int32) (x32 : Int64) (x33 : Int64) (n35 : Int32) (r34 : Int32) (x36 : Int32) (x37 : Int32) (x38 : Int64) (x39 : Int32) (hpre_0 : TKI (σ.2.1 4) (σ.2.2.1 6) (σ.2.1 7) (σ.1 3) (σ.1 14)) (hpre_1 : 0 ≤ (σ.1 15).toInt) (hpre_2 : (σ.1 15).toInt ≤ 3510) (hpre_4 : PQ1 1 0 (σ.1 14) (σ.1 15) (σ.1 16) (σ.1 19) (σ.1 29) (σ.2.1 11) (σ.2.2.1 12) (σ.2.1 31) (σ.2.1 30) (σ.2.1 32) (σ.2.1 21) (σ.2.1 22) (σ.2.1 20) (σ.2.1 23) (σ.2.1 24) (σ.2.1 25) (σ.2.1 27) (σ.1 33) (σ.1 34) (σ.2.1 28)) (hpre_5 : (σ.1 29).toInt = ((σ.2.1 21) ((σ.1 19).toInt - 1).toNat).toInt) (hpre_6 : ((σ.2.1 20) ((σ.1 19).toInt - 1).toNat).toInt = 3) (hpre_7 : 2 ≤ (σ.1 19).toInt) (ex1 : x1 = (σ.1 19) - (1 : Int32)) (tx1 : x1.toInt = (σ.1 19).toInt - 1) (hr2_0 : ((σ.2.1 4) (σ.1 14).toNatClampNeg).toInt = 5) (hr2_1 : ((σ.2.2.1 6) (σ.1 14).toNatClampNeg).toInt = (44 : Int32).toInt) (ex23 : x23 = (σ.2.1 25) x1.toNatClampNeg) (tx23 : x23.toInt = ((σ.2.1 25) ((σ.1 19).toInt - 1).toNat).toInt) (c24 : ¬ x23.toInt = 1) (hr25_0 : ((σ.2.1 4) (σ.1 14).toNatClampNeg).toInt = 5) (hr25_1 : ((σ.2.2.1 6) (σ.1 14).toNatClampNeg).toInt = (41 : Int32).toInt) (ex27 : x27 = (σ.1 14) + (1 : Int32)) (tx27 : x27.toInt = (σ.1 14).toInt + 1) (ex28 : x28 = (σ.2.1 24) x1.toNatClampNeg) (tx28 : x28.toInt = ((σ.2.1 24) ((σ.1 19).toInt - 1).toNat).toInt) (ex29 : x29 = Int32.toInt64 x28) (tx29 : x29.toInt = x28.toInt) (ex30 : x30 = (4 : Int64) * x29) (tx30 : x30.toInt = 4 * x29.toInt) (ex31 : x31 = (σ.2.1 25) x1.toNatClampNeg) (tx31 : x31.toInt = ((σ.2.1 25) ((σ.1 19).toInt - 1).toNat).toInt) (ex32 : x32 = Int32.toInt64 x31) (tx32 : x32.toInt = x31.toInt) (ex33 : x33 = x30 + x32) (tx33 : x33.toInt = x30.toInt + x32.toInt) (hr34_0 : n35.toInt = (σ.1 16).toInt + 1) (hr34_1 : r34.toInt = (σ.1 15).toInt + (σ.1 16).toInt) (ex36 : x36 = (σ.2.1 23) x1.toNatClampNeg) (tx36 : x36.toInt = ((σ.2.1 23) ((σ.1 19).toInt - 1).toNat).toInt) (ex37 : x37 = (σ.1 15) + n35) (tx37 : x37.toInt = (σ.1 15).toInt + n35.toInt) (ex38 : x38 = Int32.toInt64 x37) (tx38 : x38.toInt = x37.toInt) (ex39 : x39 = (σ.1 19) - (1 : Int32)) (tx39 : x39.toInt = (σ.1 19).toInt - 1) : 1 ≤ x39.toInt ∧ x39.toInt ≤ 8 ∧ ((0 : Int32) = 0 ∨ (0 : Int32) = 1) := by
  have q0 : (0 : Int32).toInt = 0 := by decide +kernel
  have q1 : (1 : Int32).toInt = 1 := by decide +kernel
  have q41 : (41 : Int32).toInt = 41 := by decide +kernel
  have q44 : (44 : Int32).toInt = 44 := by decide +kernel
  have ql4 : (4 : Int64).toInt = 4 := by decide +kernel
  have bb_hpre_0 := hpre_0.b
  have bb_hpre_4 := hpre_4.z.b
  have kk_hpre_0 := hpre_0.in
  have kp := PQ_pt (j1 := ((σ.1 19).toInt - 1).toNat) hpre_4 (by omega) (by omega) (by omega)
  refine ⟨?_, ?_, ?_⟩ <;> first | assumption | omega | (subst_vars; omega) | trivial
-- post @134
theorem v_argument_31 (σ : RS) (x1 : Int32) (x23 : Int32) (x27 : Int32) (x28 : Int32) (x29 : Int64) (x30 : Int64) (x31 : Int32) (x32 : Int64) (x33 : Int64) (n35 : Int32) (r34 : Int32) (x36 : Int32) (x37 : Int32) (x38 : Int64) (x39 : Int32) (hpre_0 : TKI (σ.2.1 4) (σ.2.2.1 6) (σ.2.1 7) (σ.1 3) (σ.1 14)) (hpre_1 : 0 ≤ (σ.1 15).toInt) (hpre_2 : (σ.1 15).toInt ≤ 3510) (hpre_3 : (σ.1 8).toInt = 0) (hpre_4 : PQ1 1 0 (σ.1 14) (σ.1 15) (σ.1 16) (σ.1 19) (σ.1 29) (σ.2.1 11) (σ.2.2.1 12) (σ.2.1 31) (σ.2.1 30) (σ.2.1 32) (σ.2.1 21) (σ.2.1 22) (σ.2.1 20) (σ.2.1 23) (σ.2.1 24) (σ.2.1 25) (σ.2.1 27) (σ.1 33) (σ.1 34) (σ.2.1 28)) (hpre_5 : (σ.1 29).toInt = ((σ.2.1 21) ((σ.1 19).toInt - 1).toNat).toInt) (hpre_6 : ((σ.2.1 20) ((σ.1 19).toInt - 1).toNat).toInt = 3) (hpre_7 : 2 ≤ (σ.1 19).toInt) (ex1 : x1 = (σ.1 19) - (1 : Int32)) (tx1 : x1.toInt = (σ.1 19).toInt - 1) (hr2_0 : ((σ.2.1 4) (σ.1 14).toNatClampNeg).toInt = 5) (hr2_1 : ((σ.2.2.1 6) (σ.1 14).toNatClampNeg).toInt = (44 : Int32).toInt) (ex23 : x23 = (σ.2.1 25) x1.toNatClampNeg) (tx23 : x23.toInt = ((σ.2.1 25) ((σ.1 19).toInt - 1).toNat).toInt) (c24 : ¬ x23.toInt = 1) (hr25_0 : ((σ.2.1 4) (σ.1 14).toNatClampNeg).toInt = 5) (hr25_1 : ((σ.2.2.1 6) (σ.1 14).toNatClampNeg).toInt = (41 : Int32).toInt) (ex27 : x27 = (σ.1 14) + (1 : Int32)) (tx27 : x27.toInt = (σ.1 14).toInt + 1) (ex28 : x28 = (σ.2.1 24) x1.toNatClampNeg) (tx28 : x28.toInt = ((σ.2.1 24) ((σ.1 19).toInt - 1).toNat).toInt) (ex29 : x29 = Int32.toInt64 x28) (tx29 : x29.toInt = x28.toInt) (ex30 : x30 = (4 : Int64) * x29) (tx30 : x30.toInt = 4 * x29.toInt) (ex31 : x31 = (σ.2.1 25) x1.toNatClampNeg) (tx31 : x31.toInt = ((σ.2.1 25) ((σ.1 19).toInt - 1).toNat).toInt) (ex32 : x32 = Int32.toInt64 x31) (tx32 : x32.toInt = x31.toInt) (ex33 : x33 = x30 + x32) (tx33 : x33.toInt = x30.toInt + x32.toInt) (hr34_0 : n35.toInt = (σ.1 16).toInt + 1) (hr34_1 : r34.toInt = (σ.1 15).toInt + (σ.1 16).toInt) (ex36 : x36 = (σ.2.1 23) x1.toNatClampNeg) (tx36 : x36.toInt = ((σ.2.1 23) ((σ.1 19).toInt - 1).toNat).toInt) (ex37 : x37 = (σ.1 15) + n35) (tx37 : x37.toInt = (σ.1 15).toInt + n35.toInt) (ex38 : x38 = Int32.toInt64 x37) (tx38 : x38.toInt = x37.toInt) (ex39 : x39 = (σ.1 19) - (1 : Int32)) (tx39 : x39.toInt = (σ.1 19).toInt - 1) : Keep (σ.1 15).toInt (σ.2.1 11) (upd (σ.2.1 11) ((σ.1 15).toInt + (σ.1 16).toInt).toNat (15 : Int32)) (σ.2.2.1 12) (vp_updL (vp_updL (σ.2.2.1 12) ((σ.1 15).toInt + (σ.1 16).toInt).toNat x33) x36.toNatClampNeg x38) ∧ 0 ≤ (σ.1 8).toInt ∧ (σ.1 8).toInt ≤ 3 ∧ ((σ.1 8).toInt = 0 → TKI (σ.2.1 4) (σ.2.2.1 6) (σ.2.1 7) (σ.1 3) x27 ∧ LI (0 : Int32) x27 (σ.1 15) n35 x39 (σ.1 29) (upd (σ.2.1 11) ((σ.1 15).toInt + (σ.1 16).toInt).toNat (15 : Int32)) (vp_updL (vp_updL (σ.2.2.1 12) ((σ.1 15).toInt + (σ.1 16).toInt).toNat x33) x36.toNatClampNeg x38) (σ.2.1 31) (σ.2.1 30) (σ.2.1 32) (σ.2.1 21) (σ.2.1 22) (σ.2.1 20) (σ.2.1 23) (σ.2.1 24) (σ.2.1 25) (σ.2.1 27) (σ.1 33) (σ.1 34) (upd (σ.2.1 28) (x39.toInt - 1).toNat (0 : Int32)) ∧ 2 * (σ.1 14).toInt - (σ.1 19).toInt < 2 * x27.toInt - x39.toInt) := by
  have q0 : (0 : Int32).toInt = 0 := by decide +kernel
  have q1 : (1 : Int32).toInt = 1 := by decide +kernel
  have q15 : (15 : Int32).toInt = 15 := by decide +kernel
  have q41 : (41 : Int32).toInt = 41 := by decide +kernel
  have q44 : (44 : Int32).toInt = 44 := by decide +kernel
  have ql4 : (4 : Int64).toInt = 4 := by decide +kernel
  have bb_hpre_0 := hpre_0.b
  have bb_hpre_4 := hpre_4.z.b
  have kk_hpre_0 := hpre_0.in
  have kp := PQ_pt (j1 := ((σ.1 19).toInt - 1).toNat) hpre_4 (by omega) (by omega) (by omega)
  have kn := hpre_0.in (by omega)
  have k3 := kp.2.2 (by omega)
  have kx : (x36.toNatClampNeg : Int) = x36.toInt := clampZ (by omega)
  refine ⟨(Keep.rf.em (by omega)).pa (by omega), by omega, by omega, fun _ => ⟨hpre_0.up (by omega) (by omega), Or.inr ⟨q0, ?_⟩, by omega⟩⟩
  refine (PQ_close3 (j1 := ((σ.1 19).toInt - 1).toNat) hpre_4 hpre_2 (by omega) (by omega) (by omega) (by omega) (by omega) (by omega) (by omega) (by omega) (by omega) q15 (by omega) ?_ (by omega) (fun hc => by rw [upd_at (by omega)]; exact q0)).1
  simp only [clampN]; omega
-- pre:misfit@58 @58
theorem v_argument_32 (σ : RS) (x1 : Int32) (x23 : Int32) (hpre_0 : TKI (σ.2.1 4) (σ.2.2.1 6) (σ.2.1 7) (σ.1 3) (σ.1 14)) (hpre_1 : 0 ≤ (σ.1 15).toInt) (hpre_2 : (σ.1 15).toInt ≤ 3510) (hpre_4 : PQ1 1 0 (σ.1 14) (σ.1 15) (σ.1 16) (σ.1 19) (σ.1 29) (σ.2.1 11) (σ.2.2.1 12) (σ.2.1 31) (σ.2.1 30) (σ.2.1 32) (σ.2.1 21) (σ.2.1 22) (σ.2.1 20) (σ.2.1 23) (σ.2.1 24) (σ.2.1 25) (σ.2.1 27) (σ.1 33) (σ.1 34) (σ.2.1 28)) (hpre_5 : (σ.1 29).toInt = ((σ.2.1 21) ((σ.1 19).toInt - 1).toNat).toInt) (hpre_6 : ((σ.2.1 20) ((σ.1 19).toInt - 1).toNat).toInt = 3) (hpre_7 : 2 ≤ (σ.1 19).toInt) (ex1 : x1 = (σ.1 19) - (1 : Int32)) (tx1 : x1.toInt = (σ.1 19).toInt - 1) (hr2_0 : ((σ.2.1 4) (σ.1 14).toNatClampNeg).toInt = 5) (hr2_1 : ((σ.2.2.1 6) (σ.1 14).toNatClampNeg).toInt = (44 : Int32).toInt) (ex23 : x23 = (σ.2.1 25) x1.toNatClampNeg) (tx23 : x23.toInt = ((σ.2.1 25) ((σ.1 19).toInt - 1).toNat).toInt) (c24 : ¬ x23.toInt = 1) (hr25 : ¬ (((σ.2.1 4) (σ.1 14).toNatClampNeg).toInt = 5 ∧ ((σ.2.2.1 6) (σ.1 14).toNatClampNeg).toInt = (41 : Int32).toInt)) : 0 ≤ (σ.1 14).toInt ∧ (σ.1 14).toInt ≤ 41 := by
  have q1 : (1 : Int32).toInt = 1 := by decide +kernel
  have q41 : (41 : Int32).toInt = 41 := by decide +kernel
  have q44 : (44 : Int32).toInt = 44 := by decide +kernel
  have bb_hpre_0 := hpre_0.b
  have bb_hpre_4 := hpre_4.z.b
  have kk_hpre_0 := hpre_0.in
  have kp := PQ_pt (j1 := ((σ.1 19).toInt - 1).toNat) hpre_4 (by omega) (by omega) (by omega)
  refine ⟨?_, ?_⟩ <;> first | assumption | omega | (subst_vars; omega) | trivial
-- post @61
theorem v_argument_33 (σ : RS) (x1 : Int32) (x23 : Int32) (n42 : Int32) (hpre_0 : TKI (σ.2.1 4) (σ.2.2.1 6) (σ.2.1 7) (σ.1 3) (σ.1 14)) (hpre_1 : 0 ≤ (σ.1 15).toInt) (hpre_2 : (σ.1 15).toInt ≤ 3510) (hpre_3 : (σ.1 8).toInt = 0) (hpre_4 : PQ1 1 0 (σ.1 14) (σ.1 15) (σ.1 16) (σ.1 19) (σ.1 29) (σ.2.1 11) (σ.2.2.1 12) (σ.2.1 31) (σ.2.1 30) (σ.2.1 32) (σ.2.1 21) (σ.2.1 22) (σ.2.1 20) (σ.2.1 23) (σ.2.1 24) (σ.2.1 25) (σ.2.1 27) (σ.1 33) (σ.1 34) (σ.2.1 28)) (hpre_5 : (σ.1 29).toInt = ((σ.2.1 21) ((σ.1 19).toInt - 1).toNat).toInt) (hpre_6 : ((σ.2.1 20) ((σ.1 19).toInt - 1).toNat).toInt = 3) (hpre_7 : 2 ≤ (σ.1 19).toInt) (ex1 : x1 = (σ.1 19) - (1 : Int32)) (tx1 : x1.toInt = (σ.1 19).toInt - 1) (hr2_0 : ((σ.2.1 4) (σ.1 14).toNatClampNeg).toInt = 5) (hr2_1 : ((σ.2.2.1 6) (σ.1 14).toNatClampNeg).toInt = (44 : Int32).toInt) (ex23 : x23 = (σ.2.1 25) x1.toNatClampNeg) (tx23 : x23.toInt = ((σ.2.1 25) ((σ.1 19).toInt - 1).toNat).toInt) (c24 : ¬ x23.toInt = 1) (hr25 : ¬ (((σ.2.1 4) (σ.1 14).toNatClampNeg).toInt = 5 ∧ ((σ.2.2.1 6) (σ.1 14).toNatClampNeg).toInt = (41 : Int32).toInt)) (hr41 : (σ.1 8).toInt = 0 → n42.toInt = 2) : Keep (σ.1 15).toInt (σ.2.1 11) (σ.2.1 11) (σ.2.2.1 12) (σ.2.2.1 12) ∧ 0 ≤ n42.toInt ∧ n42.toInt ≤ 3 ∧ (n42.toInt = 0 → TKI (σ.2.1 4) (σ.2.2.1 6) (σ.2.1 7) (σ.1 3) (σ.1 14) ∧ LI (σ.1 17) (σ.1 14) (σ.1 15) (σ.1 16) (σ.1 19) (σ.1 29) (σ.2.1 11) (σ.2.2.1 12) (σ.2.1 31) (σ.2.1 30) (σ.2.1 32) (σ.2.1 21) (σ.2.1 22) (σ.2.1 20) (σ.2.1 23) (σ.2.1 24) (σ.2.1 25) (σ.2.1 27) (σ.1 33) (σ.1 34) (σ.2.1 28) ∧ 2 * (σ.1 14).toInt - (σ.1 19).toInt < 2 * (σ.1 14).toInt - (σ.1 19).toInt) := by
  have q1 : (1 : Int32).toInt = 1 := by decide +kernel
  have q41 : (41 : Int32).toInt = 41 := by decide +kernel
  have q44 : (44 : Int32).toInt = 44 := by decide +kernel
  have bb_hpre_0 := hpre_0.b
  have bb_hpre_4 := hpre_4.z.b
  have kk_hpre_0 := hpre_0.in
  have kp := PQ_pt (j1 := ((σ.1 19).toInt - 1).toNat) hpre_4 (by omega) (by omega) (by omega)
  exact ⟨Keep.rf, by omega, by omega, fun h => by omega⟩
-- nw@32 @32
theorem v_argument_34 (σ : RS) (x1 : Int32) (x23 : Int32) (x44 : Int32) (hpre_0 : TKI (σ.2.1 4) (σ.2.2.1 6) (σ.2.1 7) (σ.1 3) (σ.1 14)) (hpre_1 : 0 ≤ (σ.1 15).toInt) (hpre_2 : (σ.1 15).toInt ≤ 3510) (hpre_4 : PQ1 1 0 (σ.1 14) (σ.1 15) (σ.1 16) (σ.1 19) (σ.1 29) (σ.2.1 11) (σ.2.2.1 12) (σ.2.1 31) (σ.2.1 30) (σ.2.1 32) (σ.2.1 21) (σ.2.1 22) (σ.2.1 20) (σ.2.1 23) (σ.2.1 24) (σ.2.1 25) (σ.2.1 27) (σ.1 33) (σ.1 34) (σ.2.1 28)) (hpre_5 : (σ.1 29).toInt = ((σ.2.1 21) ((σ.1 19).toInt - 1).toNat).toInt) (hpre_6 : ((σ.2.1 20) ((σ.1 19).toInt - 1).toNat).toInt = 3) (hpre_7 : 2 ≤ (σ.1 19).toInt) (ex1 : x1 = (σ.1 19) - (1 : Int32)) (tx1 : x1.toInt = (σ.1 19).toInt - 1) (hr2_0 : ((σ.2.1 4) (σ.1 14).toNatClampNeg).toInt = 5) (hr2_1 : ((σ.2.2.1 6) (σ.1 14).toNatClampNeg).toInt = (44 : Int32).toInt) (ex23 : x23 = (σ.2.1 25) x1.toNatClampNeg) (tx23 : x23.toInt = ((σ.2.1 25) ((σ.1 19).toInt - 1).toNat).toInt) (c24 : x23.toInt = 1) (ex44 : x44 = (σ.1 14) + (1 : Int32)) : x44.toInt = (σ.1 14).toInt + 1 := by
  have q1 : (1 : Int32).toInt = 1 := by decide +kernel
  have q44 : (44 : Int32).toInt = 44 := by decide +kernel
  have bb_hpre_0 := hpre_0.b
  have bb_hpre_4 := hpre_4.z.b
  have kk_hpre_0 := hpre_0.in
  have kp := PQ_pt (j1 := ((σ.1 19).toInt - 1).toNat) hpre_4 (by omega) (by omega) (by omega)
  have w1 : (1 : Int32).toInt = 1 := by decide +kernel
  rw [ex44, z_add (by omega) (by omega)]; first | done | omega
-- in@42 @42
theorem v_argument_35 (σ : RS) (x1 : Int32) (x23 : Int32) (x44 : Int32) (hpre_0 : TKI (σ.2.1 4) (σ.2.2.1 6) (σ.2.1 7) (σ.1 3) (σ.1 14)) (hpre_1 : 0 ≤ (σ.1 15).toInt) (hpre_2 : (σ.1 15).toInt ≤ 3510) (hpre_4 : PQ1 1 0 (σ.1 14) (σ.1 15) (σ.1 16) (σ.1 19) (σ.1 29) (σ.2.1 11) (σ.2.2.1 12) (σ.2.1 31) (σ.2.1 30) (σ.2.1 32) (σ.2.1 21) (σ.2.1 22) (σ.2.1 20) (σ.2.1 23) (σ.2.1 24) (σ.2.1 25) (σ.2.1 27) (σ.1 33) (σ.1 34) (σ.2.1 28)) (hpre_5 : (σ.1 29).toInt = ((σ.2.1 21) ((σ.1 19).toInt - 1).toNat).toInt) (hpre_6 : ((σ.2.1 20) ((σ.1 19).toInt - 1).toNat).toInt = 3) (hpre_7 : 2 ≤ (σ.1 19).toInt) (ex1 : x1 = (σ.1 19) - (1 : Int32)) (tx1 : x1.toInt = (σ.1 19).toInt - 1) (hr2_0 : ((σ.2.1 4) (σ.1 14).toNatClampNeg).toInt = 5) (hr2_1 : ((σ.2.2.1 6) (σ.1 14).toNatClampNeg).toInt = (44 : Int32).toInt) (ex23 : x23 = (σ.2.1 25) x1.toNatClampNeg) (tx23 : x23.toInt = ((σ.2.1 25) ((σ.1 19).toInt - 1).toNat).toInt) (c24 : x23.toInt = 1) (ex44 : x44 = (σ.1 14) + (1 : Int32)) (tx44 : x44.toInt = (σ.1 14).toInt + 1) : vp_in x1 8 := by
  have q1 : (1 : Int32).toInt = 1 := by decide +kernel
  have q44 : (44 : Int32).toInt = 44 := by decide +kernel
  have bb_hpre_0 := hpre_0.b
  have bb_hpre_4 := hpre_4.z.b
  have kk_hpre_0 := hpre_0.in
  have kp := PQ_pt (j1 := ((σ.1 19).toInt - 1).toNat) hpre_4 (by omega) (by omega) (by omega)
  exact vp_in_iff.mpr ⟨by omega, by omega⟩
-- pre:fresh@44 @44
theorem v_argument_36 (σ : RS) (x1 : Int32) (x23 : Int32) (x44 : Int32) (hpre_0 : TKI (σ.2.1 4) (σ.2.2.1 6) (σ.2.1 7) (σ.1 3) (σ.1 14)) (hpre_1 : 0 ≤ (σ.1 15).toInt) (hpre_2 : (σ.1 15).toInt ≤ 3510) (hpre_4 : PQ1 1 0 (σ.1 14) (σ.1 15) (σ.1 16) (σ.1 19) (σ.1 29) (σ.2.1 11) (σ.2.2.1 12) (σ.2.1 31) (σ.2.1 30) (σ.2.1 32) (σ.2.1 21) (σ.2.1 22) (σ.2.1 20) (σ.2.1 23) (σ.2.1 24) (σ.2.1 25) (σ.2.1 27) (σ.1 33) (σ.1 34) (σ.2.1 28)) (hpre_5 : (σ.1 29).toInt = ((σ.2.1 21) ((σ.1 19).toInt - 1).toNat).toInt) (hpre_6 : ((σ.2.1 20) ((σ.1 19).toInt - 1).toNat).toInt = 3) (hpre_7 : 2 ≤ (σ.1 19).toInt) (ex1 : x1 = (σ.1 19) - (1 : Int32)) (tx1 : x1.toInt = (σ.1 19).toInt - 1) (hr2_0 : ((σ.2.1 4) (σ.1 14).toNatClampNeg).toInt = 5) (hr2_1 : ((σ.2.2.1 6) (σ.1 14).toNatClampNeg).toInt = (44 : Int32).toInt) (ex23 : x23 = (σ.2.1 25) x1.toNatClampNeg) (tx23 : x23.toInt = ((σ.2.1 25) ((σ.1 19).toInt - 1).toNat).toInt) (c24 : x23.toInt = 1) (ex44 : x44 = (σ.1 14) + (1 : Int32)) (tx44 : x44.toInt = (σ.1 14).toInt + 1) : 1 ≤ (σ.1 19).toInt ∧ (σ.1 19).toInt ≤ 8 := by
  have q1 : (1 : Int32).toInt = 1 := by decide +kernel
  have q44 : (44 : Int32).toInt = 44 := by decide +kernel
  have bb_hpre_0 := hpre_0.b
  have bb_hpre_4 := hpre_4.z.b
  have kk_hpre_0 := hpre_0.in
  have kp := PQ_pt (j1 := ((σ.1 19).toInt - 1).toNat) hpre_4 (by omega) (by omega) (by omega)
  refine ⟨?_, ?_⟩ <;> first | assumption | omega | (subst_vars; omega) | trivial
-- post @47
theorem v_argument_37 (σ : RS) (x1 : Int32) (x23 : Int32) (x44 : Int32) (hpre_0 : TKI (σ.2.1 4) (σ.2.2.1 6) (σ.2.1 7) (σ.1 3) (σ.1 14)) (hpre_1 : 0 ≤ (σ.1 15).toInt) (hpre_2 : (σ.1 15).toInt ≤ 3510) (hpre_3 : (σ.1 8).toInt = 0) (hpre_4 : PQ1 1 0 (σ.1 14) (σ.1 15) (σ.1 16) (σ.1 19) (σ.1 29) (σ.2.1 11) (σ.2.2.1 12) (σ.2.1 31) (σ.2.1 30) (σ.2.1 32) (σ.2.1 21) (σ.2.1 22) (σ.2.1 20) (σ.2.1 23) (σ.2.1 24) (σ.2.1 25) (σ.2.1 27) (σ.1 33) (σ.1 34) (σ.2.1 28)) (hpre_5 : (σ.1 29).toInt = ((σ.2.1 21) ((σ.1 19).toInt - 1).toNat).toInt) (hpre_6 : ((σ.2.1 20) ((σ.1 19).toInt - 1).toNat).toInt = 3) (hpre_7 : 2 ≤ (σ.1 19).toInt) (ex1 : x1 = (σ.1 19) - (1 : Int32)) (tx1 : x1.toInt = (σ.1 19).toInt - 1) (hr2_0 : ((σ.2.1 4) (σ.1 14).toNatClampNeg).toInt = 5) (hr2_1 : ((σ.2.2.1 6) (σ.1 14).toNatClampNeg).toInt = (44 : Int32).toInt) (ex23 : x23 = (σ.2.1 25) x1.toNatClampNeg) (tx23 : x23.toInt = ((σ.2.1 25) ((σ.1 19).toInt - 1).toNat).toInt) (c24 : x23.toInt = 1) (ex44 : x44 = (σ.1 14) + (1 : Int32)) (tx44 : x44.toInt = (σ.1 14).toInt + 1) : Keep (σ.1 15).toInt (σ.2.1 11) (σ.2.1 11) (σ.2.2.1 12) (σ.2.2.1 12) ∧ 0 ≤ (σ.1 8).toInt ∧ (σ.1 8).toInt ≤ 3 ∧ ((σ.1 8).toInt = 0 → TKI (σ.2.1 4) (σ.2.2.1 6) (σ.2.1 7) (σ.1 3) x44 ∧ LI (1 : Int32) x44 (σ.1 15) (σ.1 16) (σ.1 19) (σ.1 29) (σ.2.1 11) (σ.2.2.1 12) (σ.2.1 31) (σ.2.1 30) (σ.2.1 32) (upd (σ.2.1 21) ((σ.1 19).toInt - 1).toNat (σ.1 29)) (upd (σ.2.1 22) ((σ.1 19).toInt - 1).toNat (0 : Int32)) (σ.2.1 20) (σ.2.1 23) (σ.2.1 24) (upd (σ.2.1 25) x1.toNatClampNeg (2 : Int32)) (upd (σ.2.1 27) ((σ.1 19).toInt - 1).toNat (1 : Int32)) (σ.1 33) (σ.1 34) (upd (σ.2.1 28) ((σ.1 19).toInt - 1).toNat (0 : Int32)) ∧ 2 * (σ.1 14).toInt - (σ.1 19).toInt < 2 * x44.toInt - (σ.1 19).toInt) := by
  have q0 : (0 : Int32).toInt = 0 := by decide +kernel
  have q1 : (1 : Int32).toInt = 1 := by decide +kernel
  have q2 : (2 : Int32).toInt = 2 := by decide +kernel
  have q44 : (44 : Int32).toInt = 44 := by decide +kernel
  have bb_hpre_0 := hpre_0.b
  have bb_hpre_4 := hpre_4.z.b
  have kk_hpre_0 := hpre_0.in
  have kp := PQ_pt (j1 := ((σ.1 19).toInt - 1).toNat) hpre_4 (by omega) (by omega) (by omega)
  have kn := hpre_0.in (by omega)
  exact ⟨Keep.rf, by omega, by omega, fun _ => ⟨hpre_0.up (by omega) (by omega), Or.inl ⟨q1, PQ_comma (j1 := ((σ.1 19).toInt - 1).toNat) hpre_4 (by omega) (by omega) (by omega) (by omega) (by omega) (by omega) q2 rfl q0 rfl rfl (by rw [clampN]; omega) rfl⟩, by omega⟩⟩
set_option maxHeartbeats 4000000 in
set_option maxRecDepth 100000 in
theorem M_argument (l : Launch) (D : va_G) (cy : Nat → ClassId) (sz0 : Nat) (sa : Nat → Nat) (ad : Nat → Nat) (σ : RS) (sz : Nat)  (hpre : TKI (σ.2.1 4) (σ.2.2.1 6) (σ.2.1 7) (σ.1 3) (σ.1 14) ∧ 0 ≤ (σ.1 15).toInt ∧ (σ.1 15).toInt ≤ 3510 ∧ (σ.1 8).toInt = 0 ∧ PQ1 1 0 (σ.1 14) (σ.1 15) (σ.1 16) (σ.1 19) (σ.1 29) (σ.2.1 11) (σ.2.2.1 12) (σ.2.1 31) (σ.2.1 30) (σ.2.1 32) (σ.2.1 21) (σ.2.1 22) (σ.2.1 20) (σ.2.1 23) (σ.2.1 24) (σ.2.1 25) (σ.2.1 27) (σ.1 33) (σ.1 34) (σ.2.1 28) ∧ (σ.1 29).toInt = ((σ.2.1 21) ((σ.1 19).toInt - 1).toNat).toInt ∧ ((σ.2.1 20) ((σ.1 19).toInt - 1).toNat).toInt = 3 ∧ 2 ≤ (σ.1 19).toInt) : Met l yX12_argument (Cond.code yX12_argument cX12_argument 2 none :: GWm) ({ frames := 2, cells := 0, slots := 0, locals := 42 }) (PcR D cy sz0 sa ad [.ref (ad 0)] σ sz) (va_Qv (fun (u : Int32 × (Nat → Int32) × (Nat → Int64) × Int32 × Int32 × Int32 × (Nat → Int32) × (Nat → Int32) × (Nat → Int32) × (Nat → Int32) × (Nat → Int32) × (Nat → Int32) × (Nat → Int32) × (Nat → Int32) × (Nat → Int32) × (Nat → Int32) × (Nat → Int32) × (Nat → Int32) × Int32 × Int32 × Int32 × Int32 × Int32) => Keep (σ.1 15).toInt (σ.2.1 11) u.2.1 (σ.2.2.1 12) u.2.2.1 ∧ 0 ≤ u.2.2.2.2.2.2.2.2.2.2.2.2.2.2.2.2.2.2.2.2.2.1.toInt ∧ u.2.2.2.2.2.2.2.2.2.2.2.2.2.2.2.2.2.2.2.2.2.1.toInt ≤ 3 ∧ (u.2.2.2.2.2.2.2.2.2.2.2.2.2.2.2.2.2.2.2.2.2.1.toInt = 0 → TKI (σ.2.1 4) (σ.2.2.1 6) (σ.2.1 7) (σ.1 3) u.1 ∧ LI u.2.2.2.2.2.2.2.2.2.2.2.2.2.2.2.2.2.2.1 u.1 (σ.1 15) u.2.2.2.1 u.2.2.2.2.1 u.2.2.2.2.2.1 u.2.1 u.2.2.1 u.2.2.2.2.2.2.1 u.2.2.2.2.2.2.2.1 u.2.2.2.2.2.2.2.2.1 u.2.2.2.2.2.2.2.2.2.1 u.2.2.2.2.2.2.2.2.2.2.1 u.2.2.2.2.2.2.2.2.2.2.2.1 u.2.2.2.2.2.2.2.2.2.2.2.2.1 u.2.2.2.2.2.2.2.2.2.2.2.2.2.1 u.2.2.2.2.2.2.2.2.2.2.2.2.2.2.1 u.2.2.2.2.2.2.2.2.2.2.2.2.2.2.2.2.1 u.2.2.2.2.2.2.2.2.2.2.2.2.2.2.2.2.2.2.2.1 u.2.2.2.2.2.2.2.2.2.2.2.2.2.2.2.2.2.2.2.2.1 u.2.2.2.2.2.2.2.2.2.2.2.2.2.2.2.2.2.1 ∧ 2 * (σ.1 14).toInt - (σ.1 19).toInt < 2 * u.1.toInt - u.2.2.2.2.1.toInt)) (fun (u : Int32 × (Nat → Int32) × (Nat → Int64) × Int32 × Int32 × Int32 × (Nat → Int32) × (Nat → Int32) × (Nat → Int32) × (Nat → Int32) × (Nat → Int32) × (Nat → Int32) × (Nat → Int32) × (Nat → Int32) × (Nat → Int32) × (Nat → Int32) × (Nat → Int32) × (Nat → Int32) × Int32 × Int32 × Int32 × Int32 × Int32) (t : State) => RP D cy ad (rS (rS (rS (rS (rS (rA (rA (rA (rA (rA (rA (rA (rA (rA (rA (rA (rA (rS (rS (rS (rJ (rA (rS σ 14 u.1) 11 u.2.1) 12 u.2.2.1) 16 u.2.2.2.1) 19 u.2.2.2.2.1) 29 u.2.2.2.2.2.1) 31 u.2.2.2.2.2.2.1) 30 u.2.2.2.2.2.2.2.1) 32 u.2.2.2.2.2.2.2.2.1) 21 u.2.2.2.2.2.2.2.2.2.1) 22 u.2.2.2.2.2.2.2.2.2.2.1) 20 u.2.2.2.2.2.2.2.2.2.2.2.1) 23 u.2.2.2.2.2.2.2.2.2.2.2.2.1) 24 u.2.2.2.2.2.2.2.2.2.2.2.2.2.1) 25 u.2.2.2.2.2.2.2.2.2.2.2.2.2.2.1) 26 u.2.2.2.2.2.2.2.2.2.2.2.2.2.2.2.1) 27 u.2.2.2.2.2.2.2.2.2.2.2.2.2.2.2.2.1) 28 u.2.2.2.2.2.2.2.2.2.2.2.2.2.2.2.2.2.1) 17 u.2.2.2.2.2.2.2.2.2.2.2.2.2.2.2.2.2.2.1) 33 u.2.2.2.2.2.2.2.2.2.2.2.2.2.2.2.2.2.2.2.1) 34 u.2.2.2.2.2.2.2.2.2.2.2.2.2.2.2.2.2.2.2.2.1) 8 u.2.2.2.2.2.2.2.2.2.2.2.2.2.2.2.2.2.2.2.2.2.1) 9 u.2.2.2.2.2.2.2.2.2.2.2.2.2.2.2.2.2.2.2.2.2.2) t.heap) (AR cy ad sz)) 0 0 (AR cy ad sz) := by
  refine RM_of (loc0 := [(0, .ref (ad 0))]) (by decide) rfl rfl (Nat.le_of_ble_eq_true rfl) ?_
  intro p e s m below meth c ls hsz C hP hS hl
  have hx := C.1
  have hb := C.2.1
  have hown := C.2.2.2.2.1
  have hw := C.2.2.2.2.2.1
  clear hsz
  obtain ⟨hpre_0, hpre_1, hpre_2, hpre_3, hpre_4, hpre_5, hpre_6, hpre_7⟩ := hpre
  refine lv_aload_n hx hb dX12_argument_0 rfl (lv_at hl 0 rfl) ?_
  refine rg_19 (v := (σ.1 19)) C hP rfl wm_70 dX12_argument_1 ?_
  refine lv_iconst (v := 1) hx hb dX12_argument_4 (by decide +kernel) ?_
  refine lv_isub hx hb dX12_argument_5 ?_
  refine lv_topi (fun x1 ex1 => ?_)
  have tx1 : x1.toInt = (σ.1 19).toInt - 1 := (v_argument_1 σ x1 hpre_0 hpre_1 hpre_2 hpre_4 hpre_5 hpre_6 hpre_7 ex1)
  refine lv_istore_n (lv' := [(1, .int x1), (0, .ref (ad 0))]) hx hb dX12_argument_6 rfl hl (by decide) rfl (fun ls hl => ?_)
  refine lv_aload_n hx hb dX12_argument_7 rfl (lv_at hl 1 rfl) ?_
  refine lv_bipush (v := 44) hx hb dX12_argument_8 (by decide +kernel) ?_
  refine r_callVi (As := [.int 44]) (rest := []) C hP hS hl.1 ⟨Nat.zero_le _, Nat.zero_le _⟩ (M_isSign l D cy sz0 sa ad σ s.heap.size (44 : Int32) (v_argument_2 σ x1 hpre_0 hpre_1 hpre_2 hpre_4 hpre_5 hpre_6 hpre_7 ex1 tx1)) (n := 1) ⟨wm_92, wm_61, by decide +kernel⟩ ⟨wm_93, wm_94, wm_10⟩ rfl rfl (lv_room (Nat.le_of_ble_eq_true rfl)) ⟨Nat.le_of_ble_eq_true rfl, Nat.le_of_ble_eq_true rfl⟩ dX12_argument_10 (fun r2 u H locs hr2 hP hS => ?_)
  have hr2 : (r2.toInt = 0 ∧ ¬ (((σ.2.1 4) (σ.1 14).toNatClampNeg).toInt = 5 ∧ ((σ.2.2.1 6) (σ.1 14).toNatClampNeg).toInt = (44 : Int32).toInt)) ∨ (r2.toInt = 1 ∧ (((σ.2.1 4) (σ.1 14).toNatClampNeg).toInt = 5 ∧ ((σ.2.2.1 6) (σ.1 14).toNatClampNeg).toInt = (44 : Int32).toInt)) := hr2
  refine lv_if_eq (tgt := 48) hx hb dX12_argument_13 (by decide) (fun c3 => ?_) (fun c3 => ?_)
  · have c3 : r2.toInt = 0 := by have h := z_eq c3; rw [show (0 : Int32).toInt = 0 from by decide +kernel] at h; exact h
    have hr2 : ¬ (((σ.2.1 4) (σ.1 14).toNatClampNeg).toInt = 5 ∧ ((σ.2.2.1 6) (σ.1 14).toNatClampNeg).toInt = (44 : Int32).toInt) := bq_f hr2 c3
    refine lv_aload_n hx hb dX12_argument_48 rfl (lv_at hl 1 rfl) ?_
    refine lv_bipush (v := 41) hx hb dX12_argument_49 (by decide +kernel) ?_
    refine r_callVi (As := [.int 41]) (rest := []) C hP hS hl.1 ⟨Nat.zero_le _, Nat.zero_le _⟩ (M_isSign l D cy sz0 sa ad σ H.size (41 : Int32) (v_argument_3 σ x1 hpre_0 hpre_1 hpre_2 hpre_4 hpre_5 hpre_6 hpre_7 ex1 tx1 hr2)) (n := 1) ⟨wm_92, wm_61, by decide +kernel⟩ ⟨wm_93, wm_94, wm_10⟩ rfl rfl (lv_room (Nat.le_of_ble_eq_true rfl)) ⟨Nat.le_of_ble_eq_true rfl, Nat.le_of_ble_eq_true rfl⟩ dX12_argument_51 (fun r4 u H locs hr4 hP hS => ?_)
    have hr4 : (r4.toInt = 0 ∧ ¬ (((σ.2.1 4) (σ.1 14).toNatClampNeg).toInt = 5 ∧ ((σ.2.2.1 6) (σ.1 14).toNatClampNeg).toInt = (41 : Int32).toInt)) ∨ (r4.toInt = 1 ∧ (((σ.2.1 4) (σ.1 14).toNatClampNeg).toInt = 5 ∧ ((σ.2.2.1 6) (σ.1 14).toNatClampNeg).toInt = (41 : Int32).toInt)) := hr4
    refine lv_if_ne (tgt := 62) hx hb dX12_argument_54 (by decide) (fun c5 => ?_) (fun c5 => ?_)
    · have c5 : ¬ r4.toInt = 0 := by have h := z_ne c5; rw [show (0 : Int32).toInt = 0 from by decide +kernel] at h; exact h
      have hr4v : r4.toInt = 1 := hr4.elim (fun h9 => absurd h9.1 c5) (fun h9 => h9.1)
      have hr4 : ((σ.2.1 4) (σ.1 14).toNatClampNeg).toInt = 5 ∧ ((σ.2.2.1 6) (σ.1 14).toNatClampNeg).toInt = (41 : Int32).toInt := bq_t hr4 c5
      obtain ⟨hr4_0, hr4_1⟩ := hr4
      refine lv_aload_n hx hb dX12_argument_62 rfl (lv_at hl 1 rfl) ?_
      refine lv_dup hx hb dX12_argument_63 rfl ?_
      refine rg_14 (v := (σ.1 14)) C hP rfl wm_62 dX12_argument_64 ?_
      refine lv_iconst (v := 1) hx hb dX12_argument_67 (by decide +kernel) ?_
      refine lv_iadd hx hb dX12_argument_68 ?_
      refine lv_topi (fun x6 ex6 => ?_)
      have tx6 : x6.toInt = (σ.1 14).toInt + 1 := (v_argument_4 σ x1 x6 hpre_0 hpre_1 hpre_2 hpre_4 hpre_5 hpre_6 hpre_7 ex1 tx1 hr2 hr4_0 hr4_1 ex6)
      refine rp_14 C hP hS wm_62 dX12_argument_69 (fun H locs hP hS => ?_)
      refine lv_aload_n hx hb dX12_argument_72 rfl (lv_at hl 1 rfl) ?_
      refine lv_bipush (v := 15) hx hb dX12_argument_73 (by decide +kernel) ?_
      refine lv_ldc2 (v := 4) hx hb hown (hw _ wm_85) dX12_argument_75 ?_
      refine lv_aload_n hx hb dX12_argument_78 rfl (lv_at hl 1 rfl) ?_
      refine rg_24 C hP wm_87 dX12_argument_79 ?_
      refine lv_iload_n hx hb dX12_argument_82 rfl (lv_at hl 0 rfl) ?_
      refine ra_24 (f := (σ.2.1 24)) C hP rfl (v_argument_5 σ x1 x6 hpre_0 hpre_1 hpre_2 hpre_4 hpre_5 hpre_6 hpre_7 ex1 tx1 hr4_0 hr4_1 ex6 tx6) dX12_argument_83 (fun x7 ex7 => ?_)
      have tx7 : x7.toInt = ((σ.2.1 24) ((σ.1 19).toInt - 1).toNat).toInt := by rw [ex7, clampN, tx1]
      refine lv_i2l hx hb dX12_argument_84 rfl ?_
      refine lv_topl (fun x8 ex8 => ?_)
      have tx8 : x8.toInt = x7.toInt := by rw [ex8]; exact Int32.toInt_toInt64 _
      refine lv_lmul hx hb dX12_argument_85 ?_
      refine lv_topl (fun x9 ex9 => ?_)
      have tx9 : x9.toInt = 4 * x8.toInt := (v_argument_6 σ x1 x6 x7 x8 x9 hpre_0 hpre_1 hpre_2 hpre_4 hpre_5 hpre_6 hpre_7 ex1 tx1 hr4_0 hr4_1 ex6 tx6 ex7 tx7 ex8 tx8 ex9)
      refine lv_aload_n hx hb dX12_argument_86 rfl (lv_at hl 1 rfl) ?_
      refine rg_25 C hP wm_88 dX12_argument_87 ?_
      refine lv_iload_n hx hb dX12_argument_90 rfl (lv_at hl 0 rfl) ?_
      refine ra_25 (f := (σ.2.1 25)) C hP rfl (v_argument_7 σ x1 x6 x7 x8 x9 hpre_0 hpre_1 hpre_2 hpre_4 hpre_5 hpre_6 hpre_7 ex1 tx1 hr4_0 hr4_1 ex6 tx6 ex7 tx7 ex8 tx8 ex9 tx9) dX12_argument_91 (fun x10 ex10 => ?_)
      have tx10 : x10.toInt = ((σ.2.1 25) ((σ.1 19).toInt - 1).toNat).toInt := by rw [ex10, clampN, tx1]
      refine lv_i2l hx hb dX12_argument_92 rfl ?_
      refine lv_topl (fun x11 ex11 => ?_)
      have tx11 : x11.toInt = x10.toInt := by rw [ex11]; exact Int32.toInt_toInt64 _
      refine lv_ladd hx hb dX12_argument_93 ?_
      refine lv_topl (fun x12 ex12 => ?_)
      have tx12 : x12.toInt = x9.toInt + x11.toInt := (v_argument_8 σ x1 x6 x7 x8 x9 x10 x11 x12 hpre_0 hpre_1 hpre_2 hpre_4 hpre_5 hpre_6 hpre_7 ex1 tx1 hr4_0 hr4_1 ex6 tx6 ex7 tx7 ex8 tx8 ex9 tx9 ex10 tx10 ex11 tx11 ex12)
      refine r_callVi (As := [.int 15, .long x12]) (rest := []) C hP hS hl.1 ⟨Nat.zero_le _, Nat.zero_le _⟩ (M_emit l D cy sz0 sa ad (rS σ 14 x6) H.size (15 : Int32) x12 (v_argument_9 σ x1 x6 x7 x8 x9 x10 x11 x12 hpre_0 hpre_1 hpre_2 hpre_4 hpre_5 hpre_6 hpre_7 ex1 tx1 hr2 hr4_0 hr4_1 ex6 tx6 ex7 tx7 ex8 tx8 ex9 tx9 ex10 tx10 ex11 tx11 ex12 tx12)) (n := 2) ⟨wm_89, wm_64, by decide +kernel⟩ ⟨wm_90, wm_91, wm_10⟩ rfl rfl (lv_room (Nat.le_of_ble_eq_true rfl)) ⟨Nat.le_of_ble_eq_true rfl, Nat.le_of_ble_eq_true rfl⟩ dX12_argument_94 (fun r13 u H locs hr13 hP hS => ?_)
      obtain ⟨n14, rfl⟩ : ∃ z, z = u := ⟨_, rfl⟩
      have hr13 : n14.toInt = (σ.1 16).toInt + 1 ∧ r13.toInt = (σ.1 15).toInt + (σ.1 16).toInt := hr13
      obtain ⟨hr13_0, hr13_1⟩ := hr13
      have hP : RP D cy ad (rS (rJ (rA (rS σ 14 x6) 11 (upd (σ.2.1 11) ((σ.1 15).toInt + (σ.1 16).toInt).toNat (15 : Int32))) 12 (vp_updL (σ.2.2.1 12) ((σ.1 15).toInt + (σ.1 16).toInt).toNat x12)) 16 n14) H := hP
      refine lv_pop hx hb dX12_argument_97 rfl ?_
      refine lv_aload_n hx hb dX12_argument_98 rfl (lv_at hl 1 rfl) ?_
      refine rg_12 C hP wm_68 dX12_argument_99 ?_
      refine lv_aload_n hx hb dX12_argument_102 rfl (lv_at hl 1 rfl) ?_
      refine rg_23 C hP wm_86 dX12_argument_103 ?_
      refine lv_iload_n hx hb dX12_argument_106 rfl (lv_at hl 0 rfl) ?_
      refine ra_23 (f := (σ.2.1 23)) C hP rfl (v_argument_10 σ x1 x6 x7 x8 x9 x10 x11 x12 n14 r13 hpre_0 hpre_1 hpre_2 hpre_4 hpre_5 hpre_6 hpre_7 ex1 tx1 hr4_0 hr4_1 ex6 tx6 ex7 tx7 ex8 tx8 ex9 tx9 ex10 tx10 ex11 tx11 ex12 tx12 hr13_0 hr13_1) dX12_argument_107 (fun x15 ex15 => ?_)
      have tx15 : x15.toInt = ((σ.2.1 23) ((σ.1 19).toInt - 1).toNat).toInt := by rw [ex15, clampN, tx1]
      refine lv_aload_n hx hb dX12_argument_108 rfl (lv_at hl 1 rfl) ?_
      refine rg_15 (v := (σ.1 15)) C hP rfl wm_66 dX12_argument_109 ?_
      refine lv_aload_n hx hb dX12_argument_112 rfl (lv_at hl 1 rfl) ?_
      refine rg_16 (v := n14) C hP rfl wm_67 dX12_argument_113 ?_
      refine lv_iadd hx hb dX12_argument_116 ?_
      refine lv_topi (fun x16 ex16 => ?_)
      have tx16 : x16.toInt = (σ.1 15).toInt + n14.toInt := (v_argument_11 σ x1 x6 x7 x8 x9 x10 x11 x12 n14 r13 x15 x16 hpre_0 hpre_1 hpre_2 hpre_4 hpre_5 hpre_6 hpre_7 ex1 tx1 hr2 hr4_0 hr4_1 ex6 tx6 ex7 tx7 ex8 tx8 ex9 tx9 ex10 tx10 ex11 tx11 ex12 tx12 hr13_0 hr13_1 ex15 tx15 ex16)
      refine lv_i2l hx hb dX12_argument_117 rfl ?_
      refine lv_topl (fun x17 ex17 => ?_)
      have tx17 : x17.toInt = x16.toInt := by rw [ex17]; exact Int32.toInt_toInt64 _
      refine rw_12 (f := (vp_updL (σ.2.2.1 12) ((σ.1 15).toInt + (σ.1 16).toInt).toNat x12)) C hP hS rfl (v_argument_12 σ x1 x6 x7 x8 x9 x10 x11 x12 n14 r13 x15 x16 x17 hpre_0 hpre_1 hpre_2 hpre_4 hpre_5 hpre_6 hpre_7 ex1 tx1 hr4_0 hr4_1 ex6 tx6 ex7 tx7 ex8 tx8 ex9 tx9 ex10 tx10 ex11 tx11 ex12 tx12 hr13_0 hr13_1 ex15 tx15 ex16 tx16 ex17 tx17) dX12_argument_118 (fun H locs hP hS => ?_)
      refine lv_aload_n hx hb dX12_argument_119 rfl (lv_at hl 1 rfl) ?_
      refine lv_dup hx hb dX12_argument_120 rfl ?_
      refine rg_19 (v := (σ.1 19)) C hP rfl wm_70 dX12_argument_121 ?_
      refine lv_iconst (v := 1) hx hb dX12_argument_124 (by decide +kernel) ?_
      refine lv_isub hx hb dX12_argument_125 ?_
      refine lv_topi (fun x18 ex18 => ?_)
      have tx18 : x18.toInt = (σ.1 19).toInt - 1 := (v_argument_13 σ x1 x6 x7 x8 x9 x10 x11 x12 n14 r13 x15 x16 x17 x18 hpre_0 hpre_1 hpre_2 hpre_4 hpre_5 hpre_6 hpre_7 ex1 tx1 hr2 hr4_0 hr4_1 ex6 tx6 ex7 tx7 ex8 tx8 ex9 tx9 ex10 tx10 ex11 tx11 ex12 tx12 hr13_0 hr13_1 ex15 tx15 ex16 tx16 ex17 tx17 ex18)
      refine rp_19 C hP hS wm_70 dX12_argument_126 (fun H locs hP hS => ?_)
      refine lv_aload_n hx hb dX12_argument_129 rfl (lv_at hl 1 rfl) ?_
      refine lv_iconst (v := 0) hx hb dX12_argument_130 (by decide +kernel) ?_
      refine r_callVv (As := [.int 0]) (rest := []) C hP hS hl.1 ⟨Nat.zero_le _, Nat.zero_le _⟩ (M_ready l D cy sz0 sa ad (rS (rJ (rS (rJ (rA (rS σ 14 x6) 11 (upd (σ.2.1 11) ((σ.1 15).toInt + (σ.1 16).toInt).toNat (15 : Int32))) 12 (vp_updL (σ.2.2.1 12) ((σ.1 15).toInt + (σ.1 16).toInt).toNat x12)) 16 n14) 12 (vp_updL (vp_updL (σ.2.2.1 12) ((σ.1 15).toInt + (σ.1 16).toInt).toNat x12) x15.toNatClampNeg x17)) 19 x18) H.size (0 : Int32) (v_argument_14 σ x1 x6 x7 x8 x9 x10 x11 x12 n14 r13 x15 x16 x17 x18 hpre_0 hpre_1 hpre_2 hpre_4 hpre_5 hpre_6 hpre_7 ex1 tx1 hr4_0 hr4_1 ex6 tx6 ex7 tx7 ex8 tx8 ex9 tx9 ex10 tx10 ex11 tx11 ex12 tx12 hr13_0 hr13_1 ex15 tx15 ex16 tx16 ex17 tx17 ex18 tx18)) (n := 1) ⟨wm_95, wm_83, by decide +kernel⟩ ⟨wm_96, wm_97, wm_10⟩ rfl rfl (lv_room (Nat.le_of_ble_eq_true rfl)) ⟨Nat.le_of_ble_eq_true rfl, Nat.le_of_ble_eq_true rfl⟩ dX12_argument_131 (fun u H locs hr19 hP hS => ?_)
      have hr19 : True := hr19
      have hP : RP D cy ad (rS (rA (rS (rJ (rS (rJ (rA (rS σ 14 x6) 11 (upd (σ.2.1 11) ((σ.1 15).toInt + (σ.1 16).toInt).toNat (15 : Int32))) 12 (vp_updL (σ.2.2.1 12) ((σ.1 15).toInt + (σ.1 16).toInt).toNat x12)) 16 n14) 12 (vp_updL (vp_updL (σ.2.2.1 12) ((σ.1 15).toInt + (σ.1 16).toInt).toNat x12) x15.toNatClampNeg x17)) 19 x18) 28 (upd (σ.2.1 28) (x18.toInt - 1).toNat (0 : Int32))) 17 (0 : Int32)) H := hP
      have hP : RP D cy ad (rS (rS (rS (rS (rS (rA (rA (rA (rA (rA (rA (rA (rA (rA (rA (rA (rA (rS (rS (rS (rJ (rA (rS σ 14 x6) 11 (upd (σ.2.1 11) ((σ.1 15).toInt + (σ.1 16).toInt).toNat (15 : Int32))) 12 (vp_updL (vp_updL (σ.2.2.1 12) ((σ.1 15).toInt + (σ.1 16).toInt).toNat x12) x15.toNatClampNeg x17)) 16 n14) 19 x18) 29 (σ.1 29)) 31 (σ.2.1 31)) 30 (σ.2.1 30)) 32 (σ.2.1 32)) 21 (σ.2.1 21)) 22 (σ.2.1 22)) 20 (σ.2.1 20)) 23 (σ.2.1 23)) 24 (σ.2.1 24)) 25 (σ.2.1 25)) 26 (σ.2.1 26)) 27 (σ.2.1 27)) 28 (upd (σ.2.1 28) (x18.toInt - 1).toNat (0 : Int32))) 17 (0 : Int32)) 33 (σ.1 33)) 34 (σ.1 34)) 8 (σ.1 8)) 9 (σ.1 9)) H := RP.cong hP (Eq.trans (b := (σ.1 0)) rfl rfl) (Eq.trans (b := (σ.1 1)) rfl rfl) (Eq.trans (b := (σ.2.1 2)) rfl rfl) (Eq.trans (b := (σ.1 3)) rfl rfl) (Eq.trans (b := (σ.2.1 4)) rfl rfl) (Eq.trans (b := (σ.2.1 5)) rfl rfl) (Eq.trans (b := (σ.2.2.1 6)) rfl rfl) (Eq.trans (b := (σ.2.1 7)) rfl rfl) (Eq.trans (b := (σ.1 8)) rfl rfl) (Eq.trans (b := (σ.1 9)) rfl rfl) (Eq.trans (b := (σ.1 10)) rfl rfl) (Eq.trans (b := (upd (σ.2.1 11) ((σ.1 15).toInt + (σ.1 16).toInt).toNat (15 : Int32))) rfl rfl) (Eq.trans (b := (vp_updL (vp_updL (σ.2.2.1 12) ((σ.1 15).toInt + (σ.1 16).toInt).toNat x12) x15.toNatClampNeg x17)) rfl rfl) (Eq.trans (b := (σ.2.1 13)) rfl rfl) (Eq.trans (b := x6) rfl rfl) (Eq.trans (b := (σ.1 15)) rfl rfl) (Eq.trans (b := n14) rfl rfl) (Eq.trans (b := (0 : Int32)) rfl rfl) (Eq.trans (b := (σ.1 18)) rfl rfl) (Eq.trans (b := x18) rfl rfl) (Eq.trans (b := (σ.2.1 20)) rfl rfl) (Eq.trans (b := (σ.2.1 21)) rfl rfl) (Eq.trans (b := (σ.2.1 22)) rfl rfl) (Eq.trans (b := (σ.2.1 23)) rfl rfl) (Eq.trans (b := (σ.2.1 24)) rfl rfl) (Eq.trans (b := (σ.2.1 25)) rfl rfl) (Eq.trans (b := (σ.2.1 26)) rfl rfl) (Eq.trans (b := (σ.2.1 27)) rfl rfl) (Eq.trans (b := (upd (σ.2.1 28) (x18.toInt - 1).toNat (0 : Int32))) rfl rfl) (Eq.trans (b := (σ.1 29)) rfl rfl) (Eq.trans (b := (σ.2.1 30)) rfl rfl) (Eq.trans (b := (σ.2.1 31)) rfl rfl) (Eq.trans (b := (σ.2.1 32)) rfl rfl) (Eq.trans (b := (σ.1 33)) rfl rfl) (Eq.trans (b := (σ.1 34)) rfl rfl) (Eq.trans (b := (σ.1 35)) rfl rfl) (Eq.trans (b := (σ.2.1 36)) rfl rfl) (Eq.trans (b := (σ.2.1 37)) rfl rfl) (Eq.trans (b := (σ.2.1 38)) rfl rfl) (Eq.trans (b := (σ.2.1 39)) rfl rfl) (Eq.trans (b := (σ.2.1 40)) rfl rfl) (Eq.trans (b := (σ.2.1 41)) rfl rfl) (Eq.trans (b := (σ.2.1 42)) rfl rfl) (Eq.trans (b := (σ.2.1 43)) rfl rfl) (Eq.trans (b := (σ.2.1 44)) rfl rfl) (Eq.trans (b := (σ.2.1 45)) rfl rfl) (Eq.trans (b := (σ.2.1 46)) rfl rfl) (Eq.trans (b := (σ.1 47)) rfl rfl) (Eq.trans (b := (σ.2.1 48)) rfl rfl) (Eq.trans (b := (σ.1 49)) rfl rfl) (Eq.trans (b := (σ.2.1 50)) rfl rfl) (Eq.trans (b := (σ.2.1 51)) rfl rfl) (Eq.trans (b := (σ.2.2.1 52)) rfl rfl) (Eq.trans (b := (σ.2.2.1 53)) rfl rfl) (Eq.trans (b := (σ.2.2.2)) rfl rfl) (Eq.trans (b := (σ.1 55)) rfl rfl) (Eq.trans (b := (σ.1 56)) rfl rfl) (Eq.trans (b := (σ.1 57)) rfl rfl) (Eq.trans (b := (σ.2.1 58)) rfl rfl) (Eq.trans (b := (σ.1 59)) rfl rfl)
      exact r_retv C ⟨x6, (upd (σ.2.1 11) ((σ.1 15).toInt + (σ.1 16).toInt).toNat (15 : Int32)), (vp_updL (vp_updL (σ.2.2.1 12) ((σ.1 15).toInt + (σ.1 16).toInt).toNat x12) x15.toNatClampNeg x17), n14, x18, (σ.1 29), (σ.2.1 31), (σ.2.1 30), (σ.2.1 32), (σ.2.1 21), (σ.2.1 22), (σ.2.1 20), (σ.2.1 23), (σ.2.1 24), (σ.2.1 25), (σ.2.1 26), (σ.2.1 27), (upd (σ.2.1 28) (x18.toInt - 1).toNat (0 : Int32)), (0 : Int32), (σ.1 33), (σ.1 34), (σ.1 8), (σ.1 9)⟩ (v_argument_15 σ x1 x6 x7 x8 x9 x10 x11 x12 n14 r13 x15 x16 x17 x18 hpre_0 hpre_1 hpre_2 hpre_3 hpre_4 hpre_5 hpre_6 hpre_7 ex1 tx1 hr2 hr4_0 hr4_1 ex6 tx6 ex7 tx7 ex8 tx8 ex9 tx9 ex10 tx10 ex11 tx11 ex12 tx12 hr13_0 hr13_1 ex15 tx15 ex16 tx16 ex17 tx17 ex18 tx18) hP hS dX12_argument_134
    · have c5 : r4.toInt = 0 := by have h := z_eq c5; rw [show (0 : Int32).toInt = 0 from by decide +kernel] at h; exact h
      have hr4 : ¬ (((σ.2.1 4) (σ.1 14).toNatClampNeg).toInt = 5 ∧ ((σ.2.2.1 6) (σ.1 14).toNatClampNeg).toInt = (41 : Int32).toInt) := bq_f hr4 c5
      refine lv_aload_n hx hb dX12_argument_57 rfl (lv_at hl 1 rfl) ?_
      refine r_callVv (As := []) (rest := []) C hP hS hl.1 ⟨Nat.zero_le _, Nat.zero_le _⟩ (M_misfit l D cy sz0 sa ad σ H.size  (v_argument_16 σ x1 hpre_0 hpre_1 hpre_2 hpre_4 hpre_5 hpre_6 hpre_7 ex1 tx1 hr2 hr4)) (n := 0) ⟨wm_116, wm_63, by decide +kernel⟩ ⟨wm_117, wm_118, wm_10⟩ rfl rfl (lv_room (Nat.le_of_ble_eq_true rfl)) ⟨Nat.le_of_ble_eq_true rfl, Nat.le_of_ble_eq_true rfl⟩ dX12_argument_58 (fun u H locs hr20 hP hS => ?_)
      obtain ⟨n21, n22⟩ := u
      have hr20 : (σ.1 8).toInt = 0 → n21.toInt = 2 := hr20
      have hP : RP D cy ad (rS (rS σ 8 n21) 9 n22) H := hP
      have hP : RP D cy ad (rS (rS (rS (rS (rS (rA (rA (rA (rA (rA (rA (rA (rA (rA (rA (rA (rA (rS (rS (rS (rJ (rA (rS σ 14 (σ.1 14)) 11 (σ.2.1 11)) 12 (σ.2.2.1 12)) 16 (σ.1 16)) 19 (σ.1 19)) 29 (σ.1 29)) 31 (σ.2.1 31)) 30 (σ.2.1 30)) 32 (σ.2.1 32)) 21 (σ.2.1 21)) 22 (σ.2.1 22)) 20 (σ.2.1 20)) 23 (σ.2.1 23)) 24 (σ.2.1 24)) 25 (σ.2.1 25)) 26 (σ.2.1 26)) 27 (σ.2.1 27)) 28 (σ.2.1 28)) 17 (σ.1 17)) 33 (σ.1 33)) 34 (σ.1 34)) 8 n21) 9 n22) H := RP.cong hP (Eq.trans (b := (σ.1 0)) rfl rfl) (Eq.trans (b := (σ.1 1)) rfl rfl) (Eq.trans (b := (σ.2.1 2)) rfl rfl) (Eq.trans (b := (σ.1 3)) rfl rfl) (Eq.trans (b := (σ.2.1 4)) rfl rfl) (Eq.trans (b := (σ.2.1 5)) rfl rfl) (Eq.trans (b := (σ.2.2.1 6)) rfl rfl) (Eq.trans (b := (σ.2.1 7)) rfl rfl) (Eq.trans (b := n21) rfl rfl) (Eq.trans (b := n22) rfl rfl) (Eq.trans (b := (σ.1 10)) rfl rfl) (Eq.trans (b := (σ.2.1 11)) rfl rfl) (Eq.trans (b := (σ.2.2.1 12)) rfl rfl) (Eq.trans (b := (σ.2.1 13)) rfl rfl) (Eq.trans (b := (σ.1 14)) rfl rfl) (Eq.trans (b := (σ.1 15)) rfl rfl) (Eq.trans (b := (σ.1 16)) rfl rfl) (Eq.trans (b := (σ.1 17)) rfl rfl) (Eq.trans (b := (σ.1 18)) rfl rfl) (Eq.trans (b := (σ.1 19)) rfl rfl) (Eq.trans (b := (σ.2.1 20)) rfl rfl) (Eq.trans (b := (σ.2.1 21)) rfl rfl) (Eq.trans (b := (σ.2.1 22)) rfl rfl) (Eq.trans (b := (σ.2.1 23)) rfl rfl) (Eq.trans (b := (σ.2.1 24)) rfl rfl) (Eq.trans (b := (σ.2.1 25)) rfl rfl) (Eq.trans (b := (σ.2.1 26)) rfl rfl) (Eq.trans (b := (σ.2.1 27)) rfl rfl) (Eq.trans (b := (σ.2.1 28)) rfl rfl) (Eq.trans (b := (σ.1 29)) rfl rfl) (Eq.trans (b := (σ.2.1 30)) rfl rfl) (Eq.trans (b := (σ.2.1 31)) rfl rfl) (Eq.trans (b := (σ.2.1 32)) rfl rfl) (Eq.trans (b := (σ.1 33)) rfl rfl) (Eq.trans (b := (σ.1 34)) rfl rfl) (Eq.trans (b := (σ.1 35)) rfl rfl) (Eq.trans (b := (σ.2.1 36)) rfl rfl) (Eq.trans (b := (σ.2.1 37)) rfl rfl) (Eq.trans (b := (σ.2.1 38)) rfl rfl) (Eq.trans (b := (σ.2.1 39)) rfl rfl) (Eq.trans (b := (σ.2.1 40)) rfl rfl) (Eq.trans (b := (σ.2.1 41)) rfl rfl) (Eq.trans (b := (σ.2.1 42)) rfl rfl) (Eq.trans (b := (σ.2.1 43)) rfl rfl) (Eq.trans (b := (σ.2.1 44)) rfl rfl) (Eq.trans (b := (σ.2.1 45)) rfl rfl) (Eq.trans (b := (σ.2.1 46)) rfl rfl) (Eq.trans (b := (σ.1 47)) rfl rfl) (Eq.trans (b := (σ.2.1 48)) rfl rfl) (Eq.trans (b := (σ.1 49)) rfl rfl) (Eq.trans (b := (σ.2.1 50)) rfl rfl) (Eq.trans (b := (σ.2.1 51)) rfl rfl) (Eq.trans (b := (σ.2.2.1 52)) rfl rfl) (Eq.trans (b := (σ.2.2.1 53)) rfl rfl) (Eq.trans (b := (σ.2.2.2)) rfl rfl) (Eq.trans (b := (σ.1 55)) rfl rfl) (Eq.trans (b := (σ.1 56)) rfl rfl) (Eq.trans (b := (σ.1 57)) rfl rfl) (Eq.trans (b := (σ.2.1 58)) rfl rfl) (Eq.trans (b := (σ.1 59)) rfl rfl)
      exact r_retv C ⟨(σ.1 14), (σ.2.1 11), (σ.2.2.1 12), (σ.1 16), (σ.1 19), (σ.1 29), (σ.2.1 31), (σ.2.1 30), (σ.2.1 32), (σ.2.1 21), (σ.2.1 22), (σ.2.1 20), (σ.2.1 23), (σ.2.1 24), (σ.2.1 25), (σ.2.1 26), (σ.2.1 27), (σ.2.1 28), (σ.1 17), (σ.1 33), (σ.1 34), n21, n22⟩ (v_argument_17 σ x1 n21 hpre_0 hpre_1 hpre_2 hpre_3 hpre_4 hpre_5 hpre_6 hpre_7 ex1 tx1 hr2 hr4 hr20) hP hS dX12_argument_61
  · have c3 : ¬ r2.toInt = 0 := by have h := z_ne c3; rw [show (0 : Int32).toInt = 0 from by decide +kernel] at h; exact h
    have hr2v : r2.toInt = 1 := hr2.elim (fun h9 => absurd h9.1 c3) (fun h9 => h9.1)
    have hr2 : ((σ.2.1 4) (σ.1 14).toNatClampNeg).toInt = 5 ∧ ((σ.2.2.1 6) (σ.1 14).toNatClampNeg).toInt = (44 : Int32).toInt := bq_t hr2 c3
    obtain ⟨hr2_0, hr2_1⟩ := hr2
    refine lv_aload_n hx hb dX12_argument_16 rfl (lv_at hl 1 rfl) ?_
    refine rg_25 C hP wm_88 dX12_argument_17 ?_
    refine lv_iload_n hx hb dX12_argument_20 rfl (lv_at hl 0 rfl) ?_
    refine ra_25 (f := (σ.2.1 25)) C hP rfl (v_argument_18 σ x1 hpre_0 hpre_1 hpre_2 hpre_4 hpre_5 hpre_6 hpre_7 ex1 tx1 hr2_0 hr2_1) dX12_argument_21 (fun x23 ex23 => ?_)
    have tx23 : x23.toInt = ((σ.2.1 25) ((σ.1 19).toInt - 1).toNat).toInt := by rw [ex23, clampN, tx1]
    refine lv_iconst (v := 1) hx hb dX12_argument_22 (by decide +kernel) ?_
    refine lv_icmp_ne (tgt := 48) hx hb dX12_argument_23 (by decide) (fun c24 => ?_) (fun c24 => ?_)
    · have c24 : ¬ x23.toInt = 1 := by have h := z_ne c24; rw [show (1 : Int32).toInt = 1 from by decide +kernel] at h; exact h
      refine lv_aload_n hx hb dX12_argument_48 rfl (lv_at hl 1 rfl) ?_
      refine lv_bipush (v := 41) hx hb dX12_argument_49 (by decide +kernel) ?_
      refine r_callVi (As := [.int 41]) (rest := []) C hP hS hl.1 ⟨Nat.zero_le _, Nat.zero_le _⟩ (M_isSign l D cy sz0 sa ad σ H.size (41 : Int32) (v_argument_19 σ x1 x23 hpre_0 hpre_1 hpre_2 hpre_4 hpre_5 hpre_6 hpre_7 ex1 tx1 hr2_0 hr2_1 ex23 tx23 c24)) (n := 1) ⟨wm_92, wm_61, by decide +kernel⟩ ⟨wm_93, wm_94, wm_10⟩ rfl rfl (lv_room (Nat.le_of_ble_eq_true rfl)) ⟨Nat.le_of_ble_eq_true rfl, Nat.le_of_ble_eq_true rfl⟩ dX12_argument_51 (fun r25 u H locs hr25 hP hS => ?_)
      have hr25 : (r25.toInt = 0 ∧ ¬ (((σ.2.1 4) (σ.1 14).toNatClampNeg).toInt = 5 ∧ ((σ.2.2.1 6) (σ.1 14).toNatClampNeg).toInt = (41 : Int32).toInt)) ∨ (r25.toInt = 1 ∧ (((σ.2.1 4) (σ.1 14).toNatClampNeg).toInt = 5 ∧ ((σ.2.2.1 6) (σ.1 14).toNatClampNeg).toInt = (41 : Int32).toInt)) := hr25
      refine lv_if_ne (tgt := 62) hx hb dX12_argument_54 (by decide) (fun c26 => ?_) (fun c26 => ?_)
      · have c26 : ¬ r25.toInt = 0 := by have h := z_ne c26; rw [show (0 : Int32).toInt = 0 from by decide +kernel] at h; exact h
        have hr25v : r25.toInt = 1 := hr25.elim (fun h9 => absurd h9.1 c26) (fun h9 => h9.1)
        have hr25 : ((σ.2.1 4) (σ.1 14).toNatClampNeg).toInt = 5 ∧ ((σ.2.2.1 6) (σ.1 14).toNatClampNeg).toInt = (41 : Int32).toInt := bq_t hr25 c26
        obtain ⟨hr25_0, hr25_1⟩ := hr25
        refine lv_aload_n hx hb dX12_argument_62 rfl (lv_at hl 1 rfl) ?_
        refine lv_dup hx hb dX12_argument_63 rfl ?_
        refine rg_14 (v := (σ.1 14)) C hP rfl wm_62 dX12_argument_64 ?_
        refine lv_iconst (v := 1) hx hb dX12_argument_67 (by decide +kernel) ?_
        refine lv_iadd hx hb dX12_argument_68 ?_
        refine lv_topi (fun x27 ex27 => ?_)
        have tx27 : x27.toInt = (σ.1 14).toInt + 1 := (v_argument_20 σ x1 x23 x27 hpre_0 hpre_1 hpre_2 hpre_4 hpre_5 hpre_6 hpre_7 ex1 tx1 hr2_0 hr2_1 ex23 tx23 c24 hr25_0 hr25_1 ex27)
        refine rp_14 C hP hS wm_62 dX12_argument_69 (fun H locs hP hS => ?_)
        refine lv_aload_n hx hb dX12_argument_72 rfl (lv_at hl 1 rfl) ?_
        refine lv_bipush (v := 15) hx hb dX12_argument_73 (by decide +kernel) ?_
        refine lv_ldc2 (v := 4) hx hb hown (hw _ wm_85) dX12_argument_75 ?_
        refine lv_aload_n hx hb dX12_argument_78 rfl (lv_at hl 1 rfl) ?_
        refine rg_24 C hP wm_87 dX12_argument_79 ?_
        refine lv_iload_n hx hb dX12_argument_82 rfl (lv_at hl 0 rfl) ?_
        refine ra_24 (f := (σ.2.1 24)) C hP rfl (v_argument_21 σ x1 x23 x27 hpre_0 hpre_1 hpre_2 hpre_4 hpre_5 hpre_6 hpre_7 ex1 tx1 hr2_0 hr2_1 ex23 tx23 c24 hr25_0 hr25_1 ex27 tx27) dX12_argument_83 (fun x28 ex28 => ?_)
        have tx28 : x28.toInt = ((σ.2.1 24) ((σ.1 19).toInt - 1).toNat).toInt := by rw [ex28, clampN, tx1]
        refine lv_i2l hx hb dX12_argument_84 rfl ?_
        refine lv_topl (fun x29 ex29 => ?_)
        have tx29 : x29.toInt = x28.toInt := by rw [ex29]; exact Int32.toInt_toInt64 _
        refine lv_lmul hx hb dX12_argument_85 ?_
        refine lv_topl (fun x30 ex30 => ?_)
        have tx30 : x30.toInt = 4 * x29.toInt := (v_argument_22 σ x1 x23 x27 x28 x29 x30 hpre_0 hpre_1 hpre_2 hpre_4 hpre_5 hpre_6 hpre_7 ex1 tx1 hr2_0 hr2_1 ex23 tx23 c24 hr25_0 hr25_1 ex27 tx27 ex28 tx28 ex29 tx29 ex30)
        refine lv_aload_n hx hb dX12_argument_86 rfl (lv_at hl 1 rfl) ?_
        refine rg_25 C hP wm_88 dX12_argument_87 ?_
        refine lv_iload_n hx hb dX12_argument_90 rfl (lv_at hl 0 rfl) ?_
        refine ra_25 (f := (σ.2.1 25)) C hP rfl (v_argument_23 σ x1 x23 x27 x28 x29 x30 hpre_0 hpre_1 hpre_2 hpre_4 hpre_5 hpre_6 hpre_7 ex1 tx1 hr2_0 hr2_1 ex23 tx23 c24 hr25_0 hr25_1 ex27 tx27 ex28 tx28 ex29 tx29 ex30 tx30) dX12_argument_91 (fun x31 ex31 => ?_)
        have tx31 : x31.toInt = ((σ.2.1 25) ((σ.1 19).toInt - 1).toNat).toInt := by rw [ex31, clampN, tx1]
        refine lv_i2l hx hb dX12_argument_92 rfl ?_
        refine lv_topl (fun x32 ex32 => ?_)
        have tx32 : x32.toInt = x31.toInt := by rw [ex32]; exact Int32.toInt_toInt64 _
        refine lv_ladd hx hb dX12_argument_93 ?_
        refine lv_topl (fun x33 ex33 => ?_)
        have tx33 : x33.toInt = x30.toInt + x32.toInt := (v_argument_24 σ x1 x23 x27 x28 x29 x30 x31 x32 x33 hpre_0 hpre_1 hpre_2 hpre_4 hpre_5 hpre_6 hpre_7 ex1 tx1 hr2_0 hr2_1 ex23 tx23 c24 hr25_0 hr25_1 ex27 tx27 ex28 tx28 ex29 tx29 ex30 tx30 ex31 tx31 ex32 tx32 ex33)
        refine r_callVi (As := [.int 15, .long x33]) (rest := []) C hP hS hl.1 ⟨Nat.zero_le _, Nat.zero_le _⟩ (M_emit l D cy sz0 sa ad (rS σ 14 x27) H.size (15 : Int32) x33 (v_argument_25 σ x1 x23 x27 x28 x29 x30 x31 x32 x33 hpre_0 hpre_1 hpre_2 hpre_4 hpre_5 hpre_6 hpre_7 ex1 tx1 hr2_0 hr2_1 ex23 tx23 c24 hr25_0 hr25_1 ex27 tx27 ex28 tx28 ex29 tx29 ex30 tx30 ex31 tx31 ex32 tx32 ex33 tx33)) (n := 2) ⟨wm_89, wm_64, by decide +kernel⟩ ⟨wm_90, wm_91, wm_10⟩ rfl rfl (lv_room (Nat.le_of_ble_eq_true rfl)) ⟨Nat.le_of_ble_eq_true rfl, Nat.le_of_ble_eq_true rfl⟩ dX12_argument_94 (fun r34 u H locs hr34 hP hS => ?_)
        obtain ⟨n35, rfl⟩ : ∃ z, z = u := ⟨_, rfl⟩
        have hr34 : n35.toInt = (σ.1 16).toInt + 1 ∧ r34.toInt = (σ.1 15).toInt + (σ.1 16).toInt := hr34
        obtain ⟨hr34_0, hr34_1⟩ := hr34
        have hP : RP D cy ad (rS (rJ (rA (rS σ 14 x27) 11 (upd (σ.2.1 11) ((σ.1 15).toInt + (σ.1 16).toInt).toNat (15 : Int32))) 12 (vp_updL (σ.2.2.1 12) ((σ.1 15).toInt + (σ.1 16).toInt).toNat x33)) 16 n35) H := hP
        refine lv_pop hx hb dX12_argument_97 rfl ?_
        refine lv_aload_n hx hb dX12_argument_98 rfl (lv_at hl 1 rfl) ?_
        refine rg_12 C hP wm_68 dX12_argument_99 ?_
        refine lv_aload_n hx hb dX12_argument_102 rfl (lv_at hl 1 rfl) ?_
        refine rg_23 C hP wm_86 dX12_argument_103 ?_
        refine lv_iload_n hx hb dX12_argument_106 rfl (lv_at hl 0 rfl) ?_
        refine ra_23 (f := (σ.2.1 23)) C hP rfl (v_argument_26 σ x1 x23 x27 x28 x29 x30 x31 x32 x33 n35 r34 hpre_0 hpre_1 hpre_2 hpre_4 hpre_5 hpre_6 hpre_7 ex1 tx1 hr2_0 hr2_1 ex23 tx23 c24 hr25_0 hr25_1 ex27 tx27 ex28 tx28 ex29 tx29 ex30 tx30 ex31 tx31 ex32 tx32 ex33 tx33 hr34_0 hr34_1) dX12_argument_107 (fun x36 ex36 => ?_)
        have tx36 : x36.toInt = ((σ.2.1 23) ((σ.1 19).toInt - 1).toNat).toInt := by rw [ex36, clampN, tx1]
        refine lv_aload_n hx hb dX12_argument_108 rfl (lv_at hl 1 rfl) ?_
        refine rg_15 (v := (σ.1 15)) C hP rfl wm_66 dX12_argument_109 ?_
        refine lv_aload_n hx hb dX12_argument_112 rfl (lv_at hl 1 rfl) ?_
        refine rg_16 (v := n35) C hP rfl wm_67 dX12_argument_113 ?_
        refine lv_iadd hx hb dX12_argument_116 ?_
        refine lv_topi (fun x37 ex37 => ?_)
        have tx37 : x37.toInt = (σ.1 15).toInt + n35.toInt := (v_argument_27 σ x1 x23 x27 x28 x29 x30 x31 x32 x33 n35 r34 x36 x37 hpre_0 hpre_1 hpre_2 hpre_4 hpre_5 hpre_6 hpre_7 ex1 tx1 hr2_0 hr2_1 ex23 tx23 c24 hr25_0 hr25_1 ex27 tx27 ex28 tx28 ex29 tx29 ex30 tx30 ex31 tx31 ex32 tx32 ex33 tx33 hr34_0 hr34_1 ex36 tx36 ex37)
        refine lv_i2l hx hb dX12_argument_117 rfl ?_
        refine lv_topl (fun x38 ex38 => ?_)
        have tx38 : x38.toInt = x37.toInt := by rw [ex38]; exact Int32.toInt_toInt64 _
        refine rw_12 (f := (vp_updL (σ.2.2.1 12) ((σ.1 15).toInt + (σ.1 16).toInt).toNat x33)) C hP hS rfl (v_argument_28 σ x1 x23 x27 x28 x29 x30 x31 x32 x33 n35 r34 x36 x37 x38 hpre_0 hpre_1 hpre_2 hpre_4 hpre_5 hpre_6 hpre_7 ex1 tx1 hr2_0 hr2_1 ex23 tx23 c24 hr25_0 hr25_1 ex27 tx27 ex28 tx28 ex29 tx29 ex30 tx30 ex31 tx31 ex32 tx32 ex33 tx33 hr34_0 hr34_1 ex36 tx36 ex37 tx37 ex38 tx38) dX12_argument_118 (fun H locs hP hS => ?_)
        refine lv_aload_n hx hb dX12_argument_119 rfl (lv_at hl 1 rfl) ?_
        refine lv_dup hx hb dX12_argument_120 rfl ?_
        refine rg_19 (v := (σ.1 19)) C hP rfl wm_70 dX12_argument_121 ?_
        refine lv_iconst (v := 1) hx hb dX12_argument_124 (by decide +kernel) ?_
        refine lv_isub hx hb dX12_argument_125 ?_
        refine lv_topi (fun x39 ex39 => ?_)
        have tx39 : x39.toInt = (σ.1 19).toInt - 1 := (v_argument_29 σ x1 x23 x27 x28 x29 x30 x31 x32 x33 n35 r34 x36 x37 x38 x39 hpre_0 hpre_1 hpre_2 hpre_4 hpre_5 hpre_6 hpre_7 ex1 tx1 hr2_0 hr2_1 ex23 tx23 c24 hr25_0 hr25_1 ex27 tx27 ex28 tx28 ex29 tx29 ex30 tx30 ex31 tx31 ex32 tx32 ex33 tx33 hr34_0 hr34_1 ex36 tx36 ex37 tx37 ex38 tx38 ex39)
        refine rp_19 C hP hS wm_70 dX12_argument_126 (fun H locs hP hS => ?_)
        refine lv_aload_n hx hb dX12_argument_129 rfl (lv_at hl 1 rfl) ?_
        refine lv_iconst (v := 0) hx hb dX12_argument_130 (by decide +kernel) ?_
        refine r_callVv (As := [.int 0]) (rest := []) C hP hS hl.1 ⟨Nat.zero_le _, Nat.zero_le _⟩ (M_ready l D cy sz0 sa ad (rS (rJ (rS (rJ (rA (rS σ 14 x27) 11 (upd (σ.2.1 11) ((σ.1 15).toInt + (σ.1 16).toInt).toNat (15 : Int32))) 12 (vp_updL (σ.2.2.1 12) ((σ.1 15).toInt + (σ.1 16).toInt).toNat x33)) 16 n35) 12 (vp_updL (vp_updL (σ.2.2.1 12) ((σ.1 15).toInt + (σ.1 16).toInt).toNat x33) x36.toNatClampNeg x38)) 19 x39) H.size (0 : Int32) (v_argument_30 σ x1 x23 x27 x28 x29 x30 x31 x32 x33 n35 r34 x36 x37 x38 x39 hpre_0 hpre_1 hpre_2 hpre_4 hpre_5 hpre_6 hpre_7 ex1 tx1 hr2_0 hr2_1 ex23 tx23 c24 hr25_0 hr25_1 ex27 tx27 ex28 tx28 ex29 tx29 ex30 tx30 ex31 tx31 ex32 tx32 ex33 tx33 hr34_0 hr34_1 ex36 tx36 ex37 tx37 ex38 tx38 ex39 tx39)) (n := 1) ⟨wm_95, wm_83, by decide +kernel⟩ ⟨wm_96, wm_97, wm_10⟩ rfl rfl (lv_room (Nat.le_of_ble_eq_true rfl)) ⟨Nat.le_of_ble_eq_true rfl, Nat.le_of_ble_eq_true rfl⟩ dX12_argument_131 (fun u H locs hr40 hP hS => ?_)
        have hr40 : True := hr40
        have hP : RP D cy ad (rS (rA (rS (rJ (rS (rJ (rA (rS σ 14 x27) 11 (upd (σ.2.1 11) ((σ.1 15).toInt + (σ.1 16).toInt).toNat (15 : Int32))) 12 (vp_updL (σ.2.2.1 12) ((σ.1 15).toInt + (σ.1 16).toInt).toNat x33)) 16 n35) 12 (vp_updL (vp_updL (σ.2.2.1 12) ((σ.1 15).toInt + (σ.1 16).toInt).toNat x33) x36.toNatClampNeg x38)) 19 x39) 28 (upd (σ.2.1 28) (x39.toInt - 1).toNat (0 : Int32))) 17 (0 : Int32)) H := hP
        have hP : RP D cy ad (rS (rS (rS (rS (rS (rA (rA (rA (rA (rA (rA (rA (rA (rA (rA (rA (rA (rS (rS (rS (rJ (rA (rS σ 14 x27) 11 (upd (σ.2.1 11) ((σ.1 15).toInt + (σ.1 16).toInt).toNat (15 : Int32))) 12 (vp_updL (vp_updL (σ.2.2.1 12) ((σ.1 15).toInt + (σ.1 16).toInt).toNat x33) x36.toNatClampNeg x38)) 16 n35) 19 x39) 29 (σ.1 29)) 31 (σ.2.1 31)) 30 (σ.2.1 30)) 32 (σ.2.1 32)) 21 (σ.2.1 21)) 22 (σ.2.1 22)) 20 (σ.2.1 20)) 23 (σ.2.1 23)) 24 (σ.2.1 24)) 25 (σ.2.1 25)) 26 (σ.2.1 26)) 27 (σ.2.1 27)) 28 (upd (σ.2.1 28) (x39.toInt - 1).toNat (0 : Int32))) 17 (0 : Int32)) 33 (σ.1 33)) 34 (σ.1 34)) 8 (σ.1 8)) 9 (σ.1 9)) H := RP.cong hP (Eq.trans (b := (σ.1 0)) rfl rfl) (Eq.trans (b := (σ.1 1)) rfl rfl) (Eq.trans (b := (σ.2.1 2)) rfl rfl) (Eq.trans (b := (σ.1 3)) rfl rfl) (Eq.trans (b := (σ.2.1 4)) rfl rfl) (Eq.trans (b := (σ.2.1 5)) rfl rfl) (Eq.trans (b := (σ.2.2.1 6)) rfl rfl) (Eq.trans (b := (σ.2.1 7)) rfl rfl) (Eq.trans (b := (σ.1 8)) rfl rfl) (Eq.trans (b := (σ.1 9)) rfl rfl) (Eq.trans (b := (σ.1 10)) rfl rfl) (Eq.trans (b := (upd (σ.2.1 11) ((σ.1 15).toInt + (σ.1 16).toInt).toNat (15 : Int32))) rfl rfl) (Eq.trans (b := (vp_updL (vp_updL (σ.2.2.1 12) ((σ.1 15).toInt + (σ.1 16).toInt).toNat x33) x36.toNatClampNeg x38)) rfl rfl) (Eq.trans (b := (σ.2.1 13)) rfl rfl) (Eq.trans (b := x27) rfl rfl) (Eq.trans (b := (σ.1 15)) rfl rfl) (Eq.trans (b := n35) rfl rfl) (Eq.trans (b := (0 : Int32)) rfl rfl) (Eq.trans (b := (σ.1 18)) rfl rfl) (Eq.trans (b := x39) rfl rfl) (Eq.trans (b := (σ.2.1 20)) rfl rfl) (Eq.trans (b := (σ.2.1 21)) rfl rfl) (Eq.trans (b := (σ.2.1 22)) rfl rfl) (Eq.trans (b := (σ.2.1 23)) rfl rfl) (Eq.trans (b := (σ.2.1 24)) rfl rfl) (Eq.trans (b := (σ.2.1 25)) rfl rfl) (Eq.trans (b := (σ.2.1 26)) rfl rfl) (Eq.trans (b := (σ.2.1 27)) rfl rfl) (Eq.trans (b := (upd (σ.2.1 28) (x39.toInt - 1).toNat (0 : Int32))) rfl rfl) (Eq.trans (b := (σ.1 29)) rfl rfl) (Eq.trans (b := (σ.2.1 30)) rfl rfl) (Eq.trans (b := (σ.2.1 31)) rfl rfl) (Eq.trans (b := (σ.2.1 32)) rfl rfl) (Eq.trans (b := (σ.1 33)) rfl rfl) (Eq.trans (b := (σ.1 34)) rfl rfl) (Eq.trans (b := (σ.1 35)) rfl rfl) (Eq.trans (b := (σ.2.1 36)) rfl rfl) (Eq.trans (b := (σ.2.1 37)) rfl rfl) (Eq.trans (b := (σ.2.1 38)) rfl rfl) (Eq.trans (b := (σ.2.1 39)) rfl rfl) (Eq.trans (b := (σ.2.1 40)) rfl rfl) (Eq.trans (b := (σ.2.1 41)) rfl rfl) (Eq.trans (b := (σ.2.1 42)) rfl rfl) (Eq.trans (b := (σ.2.1 43)) rfl rfl) (Eq.trans (b := (σ.2.1 44)) rfl rfl) (Eq.trans (b := (σ.2.1 45)) rfl rfl) (Eq.trans (b := (σ.2.1 46)) rfl rfl) (Eq.trans (b := (σ.1 47)) rfl rfl) (Eq.trans (b := (σ.2.1 48)) rfl rfl) (Eq.trans (b := (σ.1 49)) rfl rfl) (Eq.trans (b := (σ.2.1 50)) rfl rfl) (Eq.trans (b := (σ.2.1 51)) rfl rfl) (Eq.trans (b := (σ.2.2.1 52)) rfl rfl) (Eq.trans (b := (σ.2.2.1 53)) rfl rfl) (Eq.trans (b := (σ.2.2.2)) rfl rfl) (Eq.trans (b := (σ.1 55)) rfl rfl) (Eq.trans (b := (σ.1 56)) rfl rfl) (Eq.trans (b := (σ.1 57)) rfl rfl) (Eq.trans (b := (σ.2.1 58)) rfl rfl) (Eq.trans (b := (σ.1 59)) rfl rfl)
        exact r_retv C ⟨x27, (upd (σ.2.1 11) ((σ.1 15).toInt + (σ.1 16).toInt).toNat (15 : Int32)), (vp_updL (vp_updL (σ.2.2.1 12) ((σ.1 15).toInt + (σ.1 16).toInt).toNat x33) x36.toNatClampNeg x38), n35, x39, (σ.1 29), (σ.2.1 31), (σ.2.1 30), (σ.2.1 32), (σ.2.1 21), (σ.2.1 22), (σ.2.1 20), (σ.2.1 23), (σ.2.1 24), (σ.2.1 25), (σ.2.1 26), (σ.2.1 27), (upd (σ.2.1 28) (x39.toInt - 1).toNat (0 : Int32)), (0 : Int32), (σ.1 33), (σ.1 34), (σ.1 8), (σ.1 9)⟩ (v_argument_31 σ x1 x23 x27 x28 x29 x30 x31 x32 x33 n35 r34 x36 x37 x38 x39 hpre_0 hpre_1 hpre_2 hpre_3 hpre_4 hpre_5 hpre_6 hpre_7 ex1 tx1 hr2_0 hr2_1 ex23 tx23 c24 hr25_0 hr25_1 ex27 tx27 ex28 tx28 ex29 tx29 ex30 tx30 ex31 tx31 ex32 tx32 ex33 tx33 hr34_0 hr34_1 ex36 tx36 ex37 tx37 ex38 tx38 ex39 tx39) hP hS dX12_argument_134
      · have c26 : r25.toInt = 0 := by have h := z_eq c26; rw [show (0 : Int32).toInt = 0 from by decide +kernel] at h; exact h
        have hr25 : ¬ (((σ.2.1 4) (σ.1 14).toNatClampNeg).toInt = 5 ∧ ((σ.2.2.1 6) (σ.1 14).toNatClampNeg).toInt = (41 : Int32).toInt) := bq_f hr25 c26
        refine lv_aload_n hx hb dX12_argument_57 rfl (lv_at hl 1 rfl) ?_
        refine r_callVv (As := []) (rest := []) C hP hS hl.1 ⟨Nat.zero_le _, Nat.zero_le _⟩ (M_misfit l D cy sz0 sa ad σ H.size  (v_argument_32 σ x1 x23 hpre_0 hpre_1 hpre_2 hpre_4 hpre_5 hpre_6 hpre_7 ex1 tx1 hr2_0 hr2_1 ex23 tx23 c24 hr25)) (n := 0) ⟨wm_116, wm_63, by decide +kernel⟩ ⟨wm_117, wm_118, wm_10⟩ rfl rfl (lv_room (Nat.le_of_ble_eq_true rfl)) ⟨Nat.le_of_ble_eq_true rfl, Nat.le_of_ble_eq_true rfl⟩ dX12_argument_58 (fun u H locs hr41 hP hS => ?_)
        obtain ⟨n42, n43⟩ := u
        have hr41 : (σ.1 8).toInt = 0 → n42.toInt = 2 := hr41
        have hP : RP D cy ad (rS (rS σ 8 n42) 9 n43) H := hP
        have hP : RP D cy ad (rS (rS (rS (rS (rS (rA (rA (rA (rA (rA (rA (rA (rA (rA (rA (rA (rA (rS (rS (rS (rJ (rA (rS σ 14 (σ.1 14)) 11 (σ.2.1 11)) 12 (σ.2.2.1 12)) 16 (σ.1 16)) 19 (σ.1 19)) 29 (σ.1 29)) 31 (σ.2.1 31)) 30 (σ.2.1 30)) 32 (σ.2.1 32)) 21 (σ.2.1 21)) 22 (σ.2.1 22)) 20 (σ.2.1 20)) 23 (σ.2.1 23)) 24 (σ.2.1 24)) 25 (σ.2.1 25)) 26 (σ.2.1 26)) 27 (σ.2.1 27)) 28 (σ.2.1 28)) 17 (σ.1 17)) 33 (σ.1 33)) 34 (σ.1 34)) 8 n42) 9 n43) H := RP.cong hP (Eq.trans (b := (σ.1 0)) rfl rfl) (Eq.trans (b := (σ.1 1)) rfl rfl) (Eq.trans (b := (σ.2.1 2)) rfl rfl) (Eq.trans (b := (σ.1 3)) rfl rfl) (Eq.trans (b := (σ.2.1 4)) rfl rfl) (Eq.trans (b := (σ.2.1 5)) rfl rfl) (Eq.trans (b := (σ.2.2.1 6)) rfl rfl) (Eq.trans (b := (σ.2.1 7)) rfl rfl) (Eq.trans (b := n42) rfl rfl) (Eq.trans (b := n43) rfl rfl) (Eq.trans (b := (σ.1 10)) rfl rfl) (Eq.trans (b := (σ.2.1 11)) rfl rfl) (Eq.trans (b := (σ.2.2.1 12)) rfl rfl) (Eq.trans (b := (σ.2.1 13)) rfl rfl) (Eq.trans (b := (σ.1 14)) rfl rfl) (Eq.trans (b := (σ.1 15)) rfl rfl) (Eq.trans (b := (σ.1 16)) rfl rfl) (Eq.trans (b := (σ.1 17)) rfl rfl) (Eq.trans (b := (σ.1 18)) rfl rfl) (Eq.trans (b := (σ.1 19)) rfl rfl) (Eq.trans (b := (σ.2.1 20)) rfl rfl) (Eq.trans (b := (σ.2.1 21)) rfl rfl) (Eq.trans (b := (σ.2.1 22)) rfl rfl) (Eq.trans (b := (σ.2.1 23)) rfl rfl) (Eq.trans (b := (σ.2.1 24)) rfl rfl) (Eq.trans (b := (σ.2.1 25)) rfl rfl) (Eq.trans (b := (σ.2.1 26)) rfl rfl) (Eq.trans (b := (σ.2.1 27)) rfl rfl) (Eq.trans (b := (σ.2.1 28)) rfl rfl) (Eq.trans (b := (σ.1 29)) rfl rfl) (Eq.trans (b := (σ.2.1 30)) rfl rfl) (Eq.trans (b := (σ.2.1 31)) rfl rfl) (Eq.trans (b := (σ.2.1 32)) rfl rfl) (Eq.trans (b := (σ.1 33)) rfl rfl) (Eq.trans (b := (σ.1 34)) rfl rfl) (Eq.trans (b := (σ.1 35)) rfl rfl) (Eq.trans (b := (σ.2.1 36)) rfl rfl) (Eq.trans (b := (σ.2.1 37)) rfl rfl) (Eq.trans (b := (σ.2.1 38)) rfl rfl) (Eq.trans (b := (σ.2.1 39)) rfl rfl) (Eq.trans (b := (σ.2.1 40)) rfl rfl) (Eq.trans (b := (σ.2.1 41)) rfl rfl) (Eq.trans (b := (σ.2.1 42)) rfl rfl) (Eq.trans (b := (σ.2.1 43)) rfl rfl) (Eq.trans (b := (σ.2.1 44)) rfl rfl) (Eq.trans (b := (σ.2.1 45)) rfl rfl) (Eq.trans (b := (σ.2.1 46)) rfl rfl) (Eq.trans (b := (σ.1 47)) rfl rfl) (Eq.trans (b := (σ.2.1 48)) rfl rfl) (Eq.trans (b := (σ.1 49)) rfl rfl) (Eq.trans (b := (σ.2.1 50)) rfl rfl) (Eq.trans (b := (σ.2.1 51)) rfl rfl) (Eq.trans (b := (σ.2.2.1 52)) rfl rfl) (Eq.trans (b := (σ.2.2.1 53)) rfl rfl) (Eq.trans (b := (σ.2.2.2)) rfl rfl) (Eq.trans (b := (σ.1 55)) rfl rfl) (Eq.trans (b := (σ.1 56)) rfl rfl) (Eq.trans (b := (σ.1 57)) rfl rfl) (Eq.trans (b := (σ.2.1 58)) rfl rfl) (Eq.trans (b := (σ.1 59)) rfl rfl)
        exact r_retv C ⟨(σ.1 14), (σ.2.1 11), (σ.2.2.1 12), (σ.1 16), (σ.1 19), (σ.1 29), (σ.2.1 31), (σ.2.1 30), (σ.2.1 32), (σ.2.1 21), (σ.2.1 22), (σ.2.1 20), (σ.2.1 23), (σ.2.1 24), (σ.2.1 25), (σ.2.1 26), (σ.2.1 27), (σ.2.1 28), (σ.1 17), (σ.1 33), (σ.1 34), n42, n43⟩ (v_argument_33 σ x1 x23 n42 hpre_0 hpre_1 hpre_2 hpre_3 hpre_4 hpre_5 hpre_6 hpre_7 ex1 tx1 hr2_0 hr2_1 ex23 tx23 c24 hr25 hr41) hP hS dX12_argument_61
    · have c24 : x23.toInt = 1 := by have h := z_eq c24; rw [show (1 : Int32).toInt = 1 from by decide +kernel] at h; exact h
      refine lv_aload_n hx hb dX12_argument_26 rfl (lv_at hl 1 rfl) ?_
      refine lv_dup hx hb dX12_argument_27 rfl ?_
      refine rg_14 (v := (σ.1 14)) C hP rfl wm_62 dX12_argument_28 ?_
      refine lv_iconst (v := 1) hx hb dX12_argument_31 (by decide +kernel) ?_
      refine lv_iadd hx hb dX12_argument_32 ?_
      refine lv_topi (fun x44 ex44 => ?_)
      have tx44 : x44.toInt = (σ.1 14).toInt + 1 := (v_argument_34 σ x1 x23 x44 hpre_0 hpre_1 hpre_2 hpre_4 hpre_5 hpre_6 hpre_7 ex1 tx1 hr2_0 hr2_1 ex23 tx23 c24 ex44)
      refine rp_14 C hP hS wm_62 dX12_argument_33 (fun H locs hP hS => ?_)
      refine lv_aload_n hx hb dX12_argument_36 rfl (lv_at hl 1 rfl) ?_
      refine rg_25 C hP wm_88 dX12_argument_37 ?_
      refine lv_iload_n hx hb dX12_argument_40 rfl (lv_at hl 0 rfl) ?_
      refine lv_iconst (v := 2) hx hb dX12_argument_41 (by decide +kernel) ?_
      refine rw_25 (f := (σ.2.1 25)) C hP hS rfl (v_argument_35 σ x1 x23 x44 hpre_0 hpre_1 hpre_2 hpre_4 hpre_5 hpre_6 hpre_7 ex1 tx1 hr2_0 hr2_1 ex23 tx23 c24 ex44 tx44) dX12_argument_42 (fun H locs hP hS => ?_)
      refine lv_aload_n hx hb dX12_argument_43 rfl (lv_at hl 1 rfl) ?_
      refine r_callVv (As := []) (rest := []) C hP hS hl.1 ⟨Nat.zero_le _, Nat.zero_le _⟩ (M_fresh l D cy sz0 sa ad (rA (rS σ 14 x44) 25 (upd (σ.2.1 25) x1.toNatClampNeg (2 : Int32))) H.size  (v_argument_36 σ x1 x23 x44 hpre_0 hpre_1 hpre_2 hpre_4 hpre_5 hpre_6 hpre_7 ex1 tx1 hr2_0 hr2_1 ex23 tx23 c24 ex44 tx44)) (n := 0) ⟨wm_72, wm_75, by decide +kernel⟩ ⟨wm_73, wm_74, wm_10⟩ rfl rfl (lv_room (Nat.le_of_ble_eq_true rfl)) ⟨Nat.le_of_ble_eq_true rfl, Nat.le_of_ble_eq_true rfl⟩ dX12_argument_44 (fun u H locs hr45 hP hS => ?_)
      have hr45 : True := hr45
      have hP : RP D cy ad (rS (rA (rA (rA (rA (rA (rA (rS σ 14 x44) 25 (upd (σ.2.1 25) x1.toNatClampNeg (2 : Int32))) 21 (upd (σ.2.1 21) ((σ.1 19).toInt - 1).toNat (σ.1 29))) 22 (upd (σ.2.1 22) ((σ.1 19).toInt - 1).toNat (0 : Int32))) 26 (upd (σ.2.1 26) ((σ.1 19).toInt - 1).toNat (0 : Int32))) 27 (upd (σ.2.1 27) ((σ.1 19).toInt - 1).toNat (1 : Int32))) 28 (upd (σ.2.1 28) ((σ.1 19).toInt - 1).toNat (0 : Int32))) 17 (1 : Int32)) H := hP
      have hP : RP D cy ad (rS (rS (rS (rS (rS (rA (rA (rA (rA (rA (rA (rA (rA (rA (rA (rA (rA (rS (rS (rS (rJ (rA (rS σ 14 x44) 11 (σ.2.1 11)) 12 (σ.2.2.1 12)) 16 (σ.1 16)) 19 (σ.1 19)) 29 (σ.1 29)) 31 (σ.2.1 31)) 30 (σ.2.1 30)) 32 (σ.2.1 32)) 21 (upd (σ.2.1 21) ((σ.1 19).toInt - 1).toNat (σ.1 29))) 22 (upd (σ.2.1 22) ((σ.1 19).toInt - 1).toNat (0 : Int32))) 20 (σ.2.1 20)) 23 (σ.2.1 23)) 24 (σ.2.1 24)) 25 (upd (σ.2.1 25) x1.toNatClampNeg (2 : Int32))) 26 (upd (σ.2.1 26) ((σ.1 19).toInt - 1).toNat (0 : Int32))) 27 (upd (σ.2.1 27) ((σ.1 19).toInt - 1).toNat (1 : Int32))) 28 (upd (σ.2.1 28) ((σ.1 19).toInt - 1).toNat (0 : Int32))) 17 (1 : Int32)) 33 (σ.1 33)) 34 (σ.1 34)) 8 (σ.1 8)) 9 (σ.1 9)) H := RP.cong hP (Eq.trans (b := (σ.1 0)) rfl rfl) (Eq.trans (b := (σ.1 1)) rfl rfl) (Eq.trans (b := (σ.2.1 2)) rfl rfl) (Eq.trans (b := (σ.1 3)) rfl rfl) (Eq.trans (b := (σ.2.1 4)) rfl rfl) (Eq.trans (b := (σ.2.1 5)) rfl rfl) (Eq.trans (b := (σ.2.2.1 6)) rfl rfl) (Eq.trans (b := (σ.2.1 7)) rfl rfl) (Eq.trans (b := (σ.1 8)) rfl rfl) (Eq.trans (b := (σ.1 9)) rfl rfl) (Eq.trans (b := (σ.1 10)) rfl rfl) (Eq.trans (b := (σ.2.1 11)) rfl rfl) (Eq.trans (b := (σ.2.2.1 12)) rfl rfl) (Eq.trans (b := (σ.2.1 13)) rfl rfl) (Eq.trans (b := x44) rfl rfl) (Eq.trans (b := (σ.1 15)) rfl rfl) (Eq.trans (b := (σ.1 16)) rfl rfl) (Eq.trans (b := (1 : Int32)) rfl rfl) (Eq.trans (b := (σ.1 18)) rfl rfl) (Eq.trans (b := (σ.1 19)) rfl rfl) (Eq.trans (b := (σ.2.1 20)) rfl rfl) (Eq.trans (b := (upd (σ.2.1 21) ((σ.1 19).toInt - 1).toNat (σ.1 29))) rfl rfl) (Eq.trans (b := (upd (σ.2.1 22) ((σ.1 19).toInt - 1).toNat (0 : Int32))) rfl rfl) (Eq.trans (b := (σ.2.1 23)) rfl rfl) (Eq.trans (b := (σ.2.1 24)) rfl rfl) (Eq.trans (b := (upd (σ.2.1 25) x1.toNatClampNeg (2 : Int32))) rfl rfl) (Eq.trans (b := (upd (σ.2.1 26) ((σ.1 19).toInt - 1).toNat (0 : Int32))) rfl rfl) (Eq.trans (b := (upd (σ.2.1 27) ((σ.1 19).toInt - 1).toNat (1 : Int32))) rfl rfl) (Eq.trans (b := (upd (σ.2.1 28) ((σ.1 19).toInt - 1).toNat (0 : Int32))) rfl rfl) (Eq.trans (b := (σ.1 29)) rfl rfl) (Eq.trans (b := (σ.2.1 30)) rfl rfl) (Eq.trans (b := (σ.2.1 31)) rfl rfl) (Eq.trans (b := (σ.2.1 32)) rfl rfl) (Eq.trans (b := (σ.1 33)) rfl rfl) (Eq.trans (b := (σ.1 34)) rfl rfl) (Eq.trans (b := (σ.1 35)) rfl rfl) (Eq.trans (b := (σ.2.1 36)) rfl rfl) (Eq.trans (b := (σ.2.1 37)) rfl rfl) (Eq.trans (b := (σ.2.1 38)) rfl rfl) (Eq.trans (b := (σ.2.1 39)) rfl rfl) (Eq.trans (b := (σ.2.1 40)) rfl rfl) (Eq.trans (b := (σ.2.1 41)) rfl rfl) (Eq.trans (b := (σ.2.1 42)) rfl rfl) (Eq.trans (b := (σ.2.1 43)) rfl rfl) (Eq.trans (b := (σ.2.1 44)) rfl rfl) (Eq.trans (b := (σ.2.1 45)) rfl rfl) (Eq.trans (b := (σ.2.1 46)) rfl rfl) (Eq.trans (b := (σ.1 47)) rfl rfl) (Eq.trans (b := (σ.2.1 48)) rfl rfl) (Eq.trans (b := (σ.1 49)) rfl rfl) (Eq.trans (b := (σ.2.1 50)) rfl rfl) (Eq.trans (b := (σ.2.1 51)) rfl rfl) (Eq.trans (b := (σ.2.2.1 52)) rfl rfl) (Eq.trans (b := (σ.2.2.1 53)) rfl rfl) (Eq.trans (b := (σ.2.2.2)) rfl rfl) (Eq.trans (b := (σ.1 55)) rfl rfl) (Eq.trans (b := (σ.1 56)) rfl rfl) (Eq.trans (b := (σ.1 57)) rfl rfl) (Eq.trans (b := (σ.2.1 58)) rfl rfl) (Eq.trans (b := (σ.1 59)) rfl rfl)
      exact r_retv C ⟨x44, (σ.2.1 11), (σ.2.2.1 12), (σ.1 16), (σ.1 19), (σ.1 29), (σ.2.1 31), (σ.2.1 30), (σ.2.1 32), (upd (σ.2.1 21) ((σ.1 19).toInt - 1).toNat (σ.1 29)), (upd (σ.2.1 22) ((σ.1 19).toInt - 1).toNat (0 : Int32)), (σ.2.1 20), (σ.2.1 23), (σ.2.1 24), (upd (σ.2.1 25) x1.toNatClampNeg (2 : Int32)), (upd (σ.2.1 26) ((σ.1 19).toInt - 1).toNat (0 : Int32)), (upd (σ.2.1 27) ((σ.1 19).toInt - 1).toNat (1 : Int32)), (upd (σ.2.1 28) ((σ.1 19).toInt - 1).toNat (0 : Int32)), (1 : Int32), (σ.1 33), (σ.1 34), (σ.1 8), (σ.1 9)⟩ (v_argument_37 σ x1 x23 x44 hpre_0 hpre_1 hpre_2 hpre_3 hpre_4 hpre_5 hpre_6 hpre_7 ex1 tx1 hr2_0 hr2_1 ex23 tx23 c24 ex44 tx44) hP hS dX12_argument_47
