/-! ===== the first world ===== -/
def a0C (q1 q2 q3 q4 q5 q6 q7 q8 q9 q10 q11 q12 q13 q14 q15 q16 q17 q18 q19 q20 q21 q22 q23 q24 : Nat) : Nat → Nat := fun k => [q1, q2, q3, q11, q13, q17, q21, q22, q23, q4, q5, q6, q7, q8, q14, q18, q19, q20, q9, q15, q12].getD k 0
def a0M (q26 q27 q28 q29 q30 q31 q32 q33 q34 q35 q36 q37 q38 q39 q40 q41 q42 q43 q44 q45 q46 q47 q48 q49 q50 q51 q52 q53 q54 q55 q56 q57 q58 q59 q60 q61 q62 q63 q64 : Nat) : Nat → Nat := fun k => [q26, 0, q27, 0, q28, q29, q30, q31, 0, 0, 0, q32, q33, q34, 0, 0, 0, 0, 0, 0, q35, q36, q37, q38, q39, q40, q41, q42, q43, 0, q44, q45, q46, 0, 0, 0, q47, q48, q49, q50, q51, q52, q53, q54, q55, q56, q57, 0, q58, 0, q59, q60, q61, q62, q63, 0, 0, 0, q64].getD k 0
def P00 (sa : Nat → Nat) (q9 q10 q12 q15 q16 q24 : Nat) : PL := (fun a => if a = q9 then 12 else if a = q10 then 8 else if a = q12 then 1 else if a = q15 then 12 else if a = q16 then 8 else if a = q24 then 1 else 0, fun _ _ => 0, fun k a => if k = 0 then some (sa 0) else if k = 12 then (if a = q9 then some q10 else some q16) else none, fun _ => FP.dconst0, fun _ _ => none, fun _ _ => 0, fun _ => 16, fun _ => 0)
def K00 (sa : Nat → Nat) (q9 q10 q12 q15 q16 q24 : Nat) : KS := (fun _ => 0, fun k => if k = 0 then some q24 else some q12, fun _ _ => 0, fun _ _ => none, P00 sa q9 q10 q12 q15 q16 q24)
section W0
variable {sa : Nat → Nat} {q9 q10 q12 q15 q16 q24 : Nat}
theorem t00_9  : oT (P00 sa q9 q10 q12 q15 q16 q24) q9 = 12 := by
  show (if q9 = q9 then 12 else _) = _
  rw [if_pos rfl]
theorem t00_10 (n10_9 : ¬ q10 = q9) : oT (P00 sa q9 q10 q12 q15 q16 q24) q10 = 8 := by
  show (if q10 = q9 then 12 else _) = _
  rw [if_neg n10_9, if_pos rfl]
theorem t00_12 (n12_9 : ¬ q12 = q9) (n12_10 : ¬ q12 = q10) : oT (P00 sa q9 q10 q12 q15 q16 q24) q12 = 1 := by
  show (if q12 = q9 then 12 else _) = _
  rw [if_neg n12_9, if_neg n12_10, if_pos rfl]
theorem t00_15 (n15_9 : ¬ q15 = q9) (n15_10 : ¬ q15 = q10) (n15_12 : ¬ q15 = q12) : oT (P00 sa q9 q10 q12 q15 q16 q24) q15 = 12 := by
  show (if q15 = q9 then 12 else _) = _
  rw [if_neg n15_9, if_neg n15_10, if_neg n15_12, if_pos rfl]
theorem t00_16 (n16_9 : ¬ q16 = q9) (n16_10 : ¬ q16 = q10) (n16_12 : ¬ q16 = q12) (n16_15 : ¬ q16 = q15) : oT (P00 sa q9 q10 q12 q15 q16 q24) q16 = 8 := by
  show (if q16 = q9 then 12 else _) = _
  rw [if_neg n16_9, if_neg n16_10, if_neg n16_12, if_neg n16_15, if_pos rfl]
theorem t00_24 (n24_9 : ¬ q24 = q9) (n24_10 : ¬ q24 = q10) (n24_12 : ¬ q24 = q12) (n24_15 : ¬ q24 = q15) (n24_16 : ¬ q24 = q16) : oT (P00 sa q9 q10 q12 q15 q16 q24) q24 = 1 := by
  show (if q24 = q9 then 12 else _) = _
  rw [if_neg n24_9, if_neg n24_10, if_neg n24_12, if_neg n24_15, if_neg n24_16, if_pos rfl]
theorem t00_i {a : Nat} (h : ¬ oT (P00 sa q9 q10 q12 q15 q16 q24) a = 0) : (oT (P00 sa q9 q10 q12 q15 q16 q24) a = 12 ∧ (a = q9 ∨ a = q15)) ∨ (oT (P00 sa q9 q10 q12 q15 q16 q24) a = 8 ∧ (a = q10 ∨ a = q16)) ∨ (oT (P00 sa q9 q10 q12 q15 q16 q24) a = 1 ∧ (a = q12 ∨ a = q24)) := by
  have e : oT (P00 sa q9 q10 q12 q15 q16 q24) a = if a = q9 then 12 else if a = q10 then 8 else if a = q12 then 1 else if a = q15 then 12 else if a = q16 then 8 else if a = q24 then 1 else 0 := rfl
  rw [e] at h ⊢
  by_cases h9 : a = q9
  · rw [if_pos h9]; exact Or.inl ⟨rfl, Or.inl h9⟩
  rw [if_neg h9] at h ⊢
  by_cases h10 : a = q10
  · rw [if_pos h10]; exact Or.inr (Or.inl ⟨rfl, Or.inl h10⟩)
  rw [if_neg h10] at h ⊢
  by_cases h12 : a = q12
  · rw [if_pos h12]; exact Or.inr (Or.inr ⟨rfl, Or.inl h12⟩)
  rw [if_neg h12] at h ⊢
  by_cases h15 : a = q15
  · rw [if_pos h15]; exact Or.inl ⟨rfl, Or.inr h15⟩
  rw [if_neg h15] at h ⊢
  by_cases h16 : a = q16
  · rw [if_pos h16]; exact Or.inr (Or.inl ⟨rfl, Or.inr h16⟩)
  rw [if_neg h16] at h ⊢
  by_cases h24 : a = q24
  · rw [if_pos h24]; exact Or.inr (Or.inr ⟨rfl, Or.inr h24⟩)
  rw [if_neg h24] at h
  exact absurd rfl h
theorem pv00 (n10_9 : ¬ q10 = q9) (n12_9 : ¬ q12 = q9) (n12_10 : ¬ q12 = q10) (n15_9 : ¬ q15 = q9) (n15_10 : ¬ q15 = q10) (n15_12 : ¬ q15 = q12) (n16_9 : ¬ q16 = q9) (n16_10 : ¬ q16 = q10) (n16_12 : ¬ q16 = q12) (n16_15 : ¬ q16 = q15) (n24_9 : ¬ q24 = q9) (n24_10 : ¬ q24 = q10) (n24_12 : ¬ q24 = q12) (n24_15 : ¬ q24 = q15) (n24_16 : ¬ q24 = q16) : PV sa (P00 sa q9 q10 q12 q15 q16 q24) := fun a => by
  have z0 : (0 : Int32).toInt = 0 := by decide
  by_cases h : oT (P00 sa q9 q10 q12 q15 q16 q24) a = 0
  · unfold PVat
    rw [h]
    refine ⟨?_, ?_, ?_, ?_, ?_, ?_, ?_, ?_, ?_, ?_⟩ <;> (intro e; exact absurd e (by decide))
  rcases t00_i h with ⟨e, hq⟩ | ⟨e, hq⟩ | ⟨e, hq⟩
  · unfold PVat
    rw [e]
    refine ⟨?_, ?_, ?_, ?_, ?_, ?_, ?_, ?_, ?_, fun _ => ⟨?_, rfl, by show 0 ≤ (0 : Int32).toInt; decide⟩⟩
    rotate_right
    · have hR : oR (P00 sa q9 q10 q12 q15 q16 q24) 12 a = if a = q9 then some q10 else some q16 := rfl
      rw [hR]
      rcases hq with hq | hq
      · exact ⟨q10, if_pos hq, (t00_10 n10_9), Or.inl rfl, by show (0 : Int32).toInt ≤ ((16 : Nat) : Int); decide⟩
      · exact ⟨q16, if_neg (by rw [hq]; exact n15_9), (t00_16 n16_9 n16_10 n16_12 n16_15), Or.inl rfl, by show (0 : Int32).toInt ≤ ((16 : Nat) : Int); decide⟩
    all_goals (intro e; exact absurd e (by decide))
  · unfold PVat
    rw [e]
    refine ⟨?_, ?_, ?_, ?_, ?_, fun _ => ⟨by show 16 ≤ 100; decide, fun j => by show fits .byte (.int 0) = true; decide⟩, ?_, ?_, ?_, ?_⟩ <;> (intro e; exact absurd e (by decide))
  · unfold PVat
    rw [e]
    refine ⟨fun _ => ⟨⟨sa 0, rfl, SOK.any (Or.inl rfl)⟩, fun b hb => (by cases hb), fp_k0⟩, ?_, ?_, ?_, ?_, ?_, ?_, ?_, ?_, ?_⟩ <;> (intro e; exact absurd e (by decide))
end W0
set_option maxRecDepth 100000 in
set_option maxHeartbeats 4000000 in
theorem w00 {D : va_G} {cy : Nat → ClassId} {sa : Nat → Nat} {A : Nat → Prop} {H : Heap} {q1 q2 q3 q4 q5 q6 q7 q8 q9 q10 q11 q12 q13 q14 q15 q16 q17 q18 q19 q20 q21 q22 q23 q24 q26 q27 q28 q29 q30 q31 q32 q33 q34 q35 q36 q37 q38 q39 q40 q41 q42 q43 q44 q45 q46 q47 q48 q49 q50 q51 q52 q53 q54 q55 q56 q57 q58 q59 q60 q61 q62 q63 q64 q66 : Nat} (hP : va_P D vwCl [(q1, .inr (13, [.ref q2, .ref q11, .ref q21, .int 0, .ref q22, .int 0, .ref q23, .int 0, .ref q24])), (q2, .inr (8, [.ref q3, .int 0, .int 0, .int 0])), (q3, .inr (6, [.ref q4, .int 0, .ref q5, .ref q6, .ref q7, .ref q8, .int 0, .ref q9])), (q4, .inl (cy 4, 40, .inl (fun _ => 0))), (q5, .inl (cy 0, 41, .inl (fun _ => 0))), (q6, .inl (cy 0, 41, .inl (fun _ => 0))), (q7, .inl (cy 0, 41, .inl (fun _ => 0))), (q8, .inl (cy 6, 41, .inr (.inr (.inr (.inr (fun _ => none)))))), (q9, .inr (1, [.ref q10, .int 0, .int 0, .int 0])), (q10, .inl (cy 5, 16, .inl (fun _ => 0))), (q11, .inr (10, [.ref q12, .ref q13, .ref q17, .ref q19, .ref q20, .int 0, .ref q12, .int 0])), (q12, .inr (12, [.int 0, .int 0, .double FP.dconst0, .ref (sa 0), .null])), (q13, .inr (2, [.ref q14, .ref q15])), (q14, .inl (cy 2, 65, .inl (fun _ => 0))), (q15, .inr (1, [.ref q16, .int 0, .int 0, .int 0])), (q16, .inl (cy 5, 16, .inl (fun _ => 0))), (q17, .inr (5, [.ref q18, .int 0, .int 0])), (q18, .inl (cy 9, 30, .inr (.inr (.inr (.inr (fun _ => none)))))), (q19, .inl (cy 0, 12, .inl (fun _ => 0))), (q20, .inl (cy 6, 12, .inr (.inr (.inr (.inr (fun _ => none)))))), (q21, .inl (cy 7, 40, .inr (.inr (.inr (.inr (fun _ => none)))))), (q22, .inl (cy 8, 5, .inr (.inr (.inr (.inr (fun _ => none)))))), (q23, .inl (cy 6, 30, .inr (.inr (.inr (.inr (fun _ => none)))))), (q24, .inr (12, [.int 0, .int 0, .double FP.dconst0, .ref (sa 0), .null])), (q26, .inr (14, [.int 0, .int 0, .ref q27, .int 0, .ref q28, .ref q29, .ref q30, .ref q31, .int 0, .int 0, .int 0, .ref q32, .ref q33, .ref q34, .int 0, .int 0, .int 0, .int 0, .int 0, .int 0, .ref q35, .ref q36, .ref q37, .ref q38, .ref q39, .ref q40, .ref q41, .ref q42, .ref q43, .int 0, .ref q44, .ref q45, .ref q46, .int 0, .int 0, .int 0, .ref q47, .ref q48, .ref q49, .ref q50, .ref q51, .ref q52, .ref q53, .ref q54, .ref q55, .ref q56, .ref q57, .int 0, .ref q58, .int 0, .ref q59, .ref q60, .ref q61, .ref q62, .ref q63, .int 0, .int 0, .int 0, .ref q64, .int 0])), (q27, .inl (cy 0, 40, .inl (fun _ => 0))), (q28, .inl (cy 0, 42, .inl (fun _ => 0))), (q29, .inl (cy 0, 42, .inl (fun _ => 0))), (q30, .inl (cy 1, 42, .inr (.inl (fun _ => 0)))), (q31, .inl (cy 0, 42, .inl (fun _ => 0))), (q32, .inl (cy 0, 3600, .inl (fun _ => 0))), (q33, .inl (cy 1, 3600, .inr (.inl (fun _ => 0)))), (q34, .inl (cy 0, 40, .inl (fun _ => 0))), (q35, .inl (cy 0, 8, .inl (fun _ => 0))), (q36, .inl (cy 0, 8, .inl (fun _ => 0))), (q37, .inl (cy 0, 8, .inl (fun _ => 0))), (q38, .inl (cy 0, 8, .inl (fun _ => 0))), (q39, .inl (cy 0, 8, .inl (fun _ => 0))), (q40, .inl (cy 0, 8, .inl (fun _ => 0))), (q41, .inl (cy 2, 8, .inl (fun _ => 0))), (q42, .inl (cy 2, 8, .inl (fun _ => 0))), (q43, .inl (cy 2, 8, .inl (fun _ => 0))), (q44, .inl (cy 0, 48, .inl (fun _ => 0))), (q45, .inl (cy 0, 48, .inl (fun _ => 0))), (q46, .inl (cy 0, 48, .inl (fun _ => 0))), (q47, .inl (cy 0, 5, .inl (fun _ => 0))), (q48, .inl (cy 0, 5, .inl (fun _ => 0))), (q49, .inl (cy 0, 30, .inl (fun _ => 0))), (q50, .inl (cy 0, 30, .inl (fun _ => 0))), (q51, .inl (cy 0, 5, .inl (fun _ => 0))), (q52, .inl (cy 0, 30, .inl (fun _ => 0))), (q53, .inl (cy 0, 30, .inl (fun _ => 0))), (q54, .inl (cy 0, 30, .inl (fun _ => 0))), (q55, .inl (cy 0, 30, .inl (fun _ => 0))), (q56, .inl (cy 0, 30, .inl (fun _ => 0))), (q57, .inl (cy 2, 65, .inl (fun _ => 0))), (q58, .inl (cy 0, 30, .inl (fun _ => 0))), (q59, .inl (cy 0, 12, .inl (fun _ => 0))), (q60, .inl (cy 0, 980, .inl (fun _ => 0))), (q61, .inl (cy 1, 980, .inr (.inl (fun _ => 0)))), (q62, .inl (cy 1, 980, .inr (.inl (fun _ => 0)))), (q63, .inl (cy 3, 980, .inr (.inr (.inr (.inl (fun _ => 0)))))), (q64, .inl (cy 0, 48, .inl (fun _ => 0))), (q66, .inl (cy 1, 1, .inr (.inl (fun _ => 0))))] H) (hD : va_D A [(q1, .inr (13, [.ref q2, .ref q11, .ref q21, .int 0, .ref q22, .int 0, .ref q23, .int 0, .ref q24])), (q2, .inr (8, [.ref q3, .int 0, .int 0, .int 0])), (q3, .inr (6, [.ref q4, .int 0, .ref q5, .ref q6, .ref q7, .ref q8, .int 0, .ref q9])), (q4, .inl (cy 4, 40, .inl (fun _ => 0))), (q5, .inl (cy 0, 41, .inl (fun _ => 0))), (q6, .inl (cy 0, 41, .inl (fun _ => 0))), (q7, .inl (cy 0, 41, .inl (fun _ => 0))), (q8, .inl (cy 6, 41, .inr (.inr (.inr (.inr (fun _ => none)))))), (q9, .inr (1, [.ref q10, .int 0, .int 0, .int 0])), (q10, .inl (cy 5, 16, .inl (fun _ => 0))), (q11, .inr (10, [.ref q12, .ref q13, .ref q17, .ref q19, .ref q20, .int 0, .ref q12, .int 0])), (q12, .inr (12, [.int 0, .int 0, .double FP.dconst0, .ref (sa 0), .null])), (q13, .inr (2, [.ref q14, .ref q15])), (q14, .inl (cy 2, 65, .inl (fun _ => 0))), (q15, .inr (1, [.ref q16, .int 0, .int 0, .int 0])), (q16, .inl (cy 5, 16, .inl (fun _ => 0))), (q17, .inr (5, [.ref q18, .int 0, .int 0])), (q18, .inl (cy 9, 30, .inr (.inr (.inr (.inr (fun _ => none)))))), (q19, .inl (cy 0, 12, .inl (fun _ => 0))), (q20, .inl (cy 6, 12, .inr (.inr (.inr (.inr (fun _ => none)))))), (q21, .inl (cy 7, 40, .inr (.inr (.inr (.inr (fun _ => none)))))), (q22, .inl (cy 8, 5, .inr (.inr (.inr (.inr (fun _ => none)))))), (q23, .inl (cy 6, 30, .inr (.inr (.inr (.inr (fun _ => none)))))), (q24, .inr (12, [.int 0, .int 0, .double FP.dconst0, .ref (sa 0), .null])), (q26, .inr (14, [.int 0, .int 0, .ref q27, .int 0, .ref q28, .ref q29, .ref q30, .ref q31, .int 0, .int 0, .int 0, .ref q32, .ref q33, .ref q34, .int 0, .int 0, .int 0, .int 0, .int 0, .int 0, .ref q35, .ref q36, .ref q37, .ref q38, .ref q39, .ref q40, .ref q41, .ref q42, .ref q43, .int 0, .ref q44, .ref q45, .ref q46, .int 0, .int 0, .int 0, .ref q47, .ref q48, .ref q49, .ref q50, .ref q51, .ref q52, .ref q53, .ref q54, .ref q55, .ref q56, .ref q57, .int 0, .ref q58, .int 0, .ref q59, .ref q60, .ref q61, .ref q62, .ref q63, .int 0, .int 0, .int 0, .ref q64, .int 0])), (q27, .inl (cy 0, 40, .inl (fun _ => 0))), (q28, .inl (cy 0, 42, .inl (fun _ => 0))), (q29, .inl (cy 0, 42, .inl (fun _ => 0))), (q30, .inl (cy 1, 42, .inr (.inl (fun _ => 0)))), (q31, .inl (cy 0, 42, .inl (fun _ => 0))), (q32, .inl (cy 0, 3600, .inl (fun _ => 0))), (q33, .inl (cy 1, 3600, .inr (.inl (fun _ => 0)))), (q34, .inl (cy 0, 40, .inl (fun _ => 0))), (q35, .inl (cy 0, 8, .inl (fun _ => 0))), (q36, .inl (cy 0, 8, .inl (fun _ => 0))), (q37, .inl (cy 0, 8, .inl (fun _ => 0))), (q38, .inl (cy 0, 8, .inl (fun _ => 0))), (q39, .inl (cy 0, 8, .inl (fun _ => 0))), (q40, .inl (cy 0, 8, .inl (fun _ => 0))), (q41, .inl (cy 2, 8, .inl (fun _ => 0))), (q42, .inl (cy 2, 8, .inl (fun _ => 0))), (q43, .inl (cy 2, 8, .inl (fun _ => 0))), (q44, .inl (cy 0, 48, .inl (fun _ => 0))), (q45, .inl (cy 0, 48, .inl (fun _ => 0))), (q46, .inl (cy 0, 48, .inl (fun _ => 0))), (q47, .inl (cy 0, 5, .inl (fun _ => 0))), (q48, .inl (cy 0, 5, .inl (fun _ => 0))), (q49, .inl (cy 0, 30, .inl (fun _ => 0))), (q50, .inl (cy 0, 30, .inl (fun _ => 0))), (q51, .inl (cy 0, 5, .inl (fun _ => 0))), (q52, .inl (cy 0, 30, .inl (fun _ => 0))), (q53, .inl (cy 0, 30, .inl (fun _ => 0))), (q54, .inl (cy 0, 30, .inl (fun _ => 0))), (q55, .inl (cy 0, 30, .inl (fun _ => 0))), (q56, .inl (cy 0, 30, .inl (fun _ => 0))), (q57, .inl (cy 2, 65, .inl (fun _ => 0))), (q58, .inl (cy 0, 30, .inl (fun _ => 0))), (q59, .inl (cy 0, 12, .inl (fun _ => 0))), (q60, .inl (cy 0, 980, .inl (fun _ => 0))), (q61, .inl (cy 1, 980, .inr (.inl (fun _ => 0)))), (q62, .inl (cy 1, 980, .inr (.inl (fun _ => 0)))), (q63, .inl (cy 3, 980, .inr (.inr (.inr (.inl (fun _ => 0)))))), (q64, .inl (cy 0, 48, .inl (fun _ => 0))), (q66, .inl (cy 1, 1, .inr (.inl (fun _ => 0))))]) : LW D cy (a0C q1 q2 q3 q4 q5 q6 q7 q8 q9 q10 q11 q12 q13 q14 q15 q16 q17 q18 q19 q20 q21 q22 q23 q24) (a0M q26 q27 q28 q29 q30 q31 q32 q33 q34 q35 q36 q37 q38 q39 q40 q41 q42 q43 q44 q45 q46 q47 q48 q49 q50 q51 q52 q53 q54 q55 q56 q57 q58 q59 q60 q61 q62 q63 q64) q66 A (K00 sa q9 q10 q12 q15 q16 q24) r00 (fun _ => 0) H ∧ CI sa (a0C q1 q2 q3 q4 q5 q6 q7 q8 q9 q10 q11 q12 q13 q14 q15 q16 q17 q18 q19 q20 q21 q22 q23 q24) (K00 sa q9 q10 q12 q15 q16 q24) := by
  have n10_9 : ¬ q10 = q9 := fun e => absurd (hD.1 9 8 _ _ rfl rfl e) (by decide)
  have n12_9 : ¬ q12 = q9 := fun e => absurd (hD.1 11 8 _ _ rfl rfl e) (by decide)
  have n12_10 : ¬ q12 = q10 := fun e => absurd (hD.1 11 9 _ _ rfl rfl e) (by decide)
  have n15_9 : ¬ q15 = q9 := fun e => absurd (hD.1 14 8 _ _ rfl rfl e) (by decide)
  have n15_10 : ¬ q15 = q10 := fun e => absurd (hD.1 14 9 _ _ rfl rfl e) (by decide)
  have n15_12 : ¬ q15 = q12 := fun e => absurd (hD.1 14 11 _ _ rfl rfl e) (by decide)
  have n16_9 : ¬ q16 = q9 := fun e => absurd (hD.1 15 8 _ _ rfl rfl e) (by decide)
  have n16_10 : ¬ q16 = q10 := fun e => absurd (hD.1 15 9 _ _ rfl rfl e) (by decide)
  have n16_12 : ¬ q16 = q12 := fun e => absurd (hD.1 15 11 _ _ rfl rfl e) (by decide)
  have n16_15 : ¬ q16 = q15 := fun e => absurd (hD.1 15 14 _ _ rfl rfl e) (by decide)
  have n24_9 : ¬ q24 = q9 := fun e => absurd (hD.1 23 8 _ _ rfl rfl e) (by decide)
  have n24_10 : ¬ q24 = q10 := fun e => absurd (hD.1 23 9 _ _ rfl rfl e) (by decide)
  have n24_12 : ¬ q24 = q12 := fun e => absurd (hD.1 23 11 _ _ rfl rfl e) (by decide)
  have n24_15 : ¬ q24 = q15 := fun e => absurd (hD.1 23 14 _ _ rfl rfl e) (by decide)
  have n24_16 : ¬ q24 = q16 := fun e => absurd (hD.1 23 15 _ _ rfl rfl e) (by decide)
  have t9 : oT (P00 sa q9 q10 q12 q15 q16 q24) q9 = 12 := (t00_9)
  have t10 : oT (P00 sa q9 q10 q12 q15 q16 q24) q10 = 8 := (t00_10 n10_9)
  have t12 : oT (P00 sa q9 q10 q12 q15 q16 q24) q12 = 1 := (t00_12 n12_9 n12_10)
  have t15 : oT (P00 sa q9 q10 q12 q15 q16 q24) q15 = 12 := (t00_15 n15_9 n15_10 n15_12)
  have t16 : oT (P00 sa q9 q10 q12 q15 q16 q24) q16 = 8 := (t00_16 n16_9 n16_10 n16_12 n16_15)
  have t24 : oT (P00 sa q9 q10 q12 q15 q16 q24) q24 = 1 := (t00_24 n24_9 n24_10 n24_12 n24_15 n24_16)
  have c9 : cof cy (P00 sa q9 q10 q12 q15 q16 q24) q9 = .inr (1, [.ref q10, .int 0, .int 0, .int 0]) := by
    rw [cof_of (t := 12) (by rw [t9])]
    show (Sum.inr (1, [va_rf (if q9 = q9 then some q10 else some q16), .int 0, .int 0, .int 0]) : va_E) = _
    rw [if_pos rfl]; rfl
  have c10 : cof cy (P00 sa q9 q10 q12 q15 q16 q24) q10 = .inl (cy 5, 16, .inl (fun _ => 0)) := by
    rw [cof_of (t := 8) (by rw [t10])]; rfl
  have c12 : cof cy (P00 sa q9 q10 q12 q15 q16 q24) q12 = .inr (12, [.int 0, .int 0, .double FP.dconst0, .ref (sa 0), .null]) := by
    rw [cof_of (t := 1) (by rw [t12])]; rfl
  have c15 : cof cy (P00 sa q9 q10 q12 q15 q16 q24) q15 = .inr (1, [.ref q16, .int 0, .int 0, .int 0]) := by
    rw [cof_of (t := 12) (by rw [t15])]
    show (Sum.inr (1, [va_rf (if q15 = q9 then some q10 else some q16), .int 0, .int 0, .int 0]) : va_E) = _
    rw [if_neg n15_9]; rfl
  have c16 : cof cy (P00 sa q9 q10 q12 q15 q16 q24) q16 = .inl (cy 5, 16, .inl (fun _ => 0)) := by
    rw [cof_of (t := 8) (by rw [t16])]; rfl
  have c24 : cof cy (P00 sa q9 q10 q12 q15 q16 q24) q24 = .inr (12, [.int 0, .int 0, .double FP.dconst0, .ref (sa 0), .null]) := by
    rw [cof_of (t := 1) (by rw [t24])]; rfl
  have e : va_pl [q9, q10, q12, q15, q16, q24] (cof cy (P00 sa q9 q10 q12 q15 q16 q24)) = [(q9, .inr (1, [.ref q10, .int 0, .int 0, .int 0])), (q10, .inl (cy 5, 16, .inl (fun _ => 0))), (q12, .inr (12, [.int 0, .int 0, .double FP.dconst0, .ref (sa 0), .null])), (q15, .inr (1, [.ref q16, .int 0, .int 0, .int 0])), (q16, .inl (cy 5, 16, .inl (fun _ => 0))), (q24, .inr (12, [.int 0, .int 0, .double FP.dconst0, .ref (sa 0), .null]))] := by
    show [(q9, cof cy (P00 sa q9 q10 q12 q15 q16 q24) q9), (q10, cof cy (P00 sa q9 q10 q12 q15 q16 q24) q10), (q12, cof cy (P00 sa q9 q10 q12 q15 q16 q24) q12), (q15, cof cy (P00 sa q9 q10 q12 q15 q16 q24) q15), (q16, cof cy (P00 sa q9 q10 q12 q15 q16 q24) q16), (q24, cof cy (P00 sa q9 q10 q12 q15 q16 q24) q24)] = _
    rw [c9, c10, c12, c15, c16, c24]
  have e2 : LWl cy (a0C q1 q2 q3 q4 q5 q6 q7 q8 q9 q10 q11 q12 q13 q14 q15 q16 q17 q18 q19 q20 q21 q22 q23 q24) (a0M q26 q27 q28 q29 q30 q31 q32 q33 q34 q35 q36 q37 q38 q39 q40 q41 q42 q43 q44 q45 q46 q47 q48 q49 q50 q51 q52 q53 q54 q55 q56 q57 q58 q59 q60 q61 q62 q63 q64) q66 (K00 sa q9 q10 q12 q15 q16 q24) r00 (fun _ => 0) [q9, q10, q12, q15, q16, q24] = MWc cy (a0C q1 q2 q3 q4 q5 q6 q7 q8 q9 q10 q11 q12 q13 q14 q15 q16 q17 q18 q19 q20 q21 q22 q23 q24) (K00 sa q9 q10 q12 q15 q16 q24) ++ [(q9, .inr (1, [.ref q10, .int 0, .int 0, .int 0])), (q10, .inl (cy 5, 16, .inl (fun _ => 0))), (q12, .inr (12, [.int 0, .int 0, .double FP.dconst0, .ref (sa 0), .null])), (q15, .inr (1, [.ref q16, .int 0, .int 0, .int 0])), (q16, .inl (cy 5, 16, .inl (fun _ => 0))), (q24, .inr (12, [.int 0, .int 0, .double FP.dconst0, .ref (sa 0), .null]))] ++ (MWr cy (a0M q26 q27 q28 q29 q30 q31 q32 q33 q34 q35 q36 q37 q38 q39 q40 q41 q42 q43 q44 q45 q46 q47 q48 q49 q50 q51 q52 q53 q54 q55 q56 q57 q58 q59 q60 q61 q62 q63 q64) r00 ++ [(q66, outE cy (fun _ => 0))]) := by
    unfold LWl WLc
    rw [show (K00 sa q9 q10 q12 q15 q16 q24).2.2.2.2 = P00 sa q9 q10 q12 q15 q16 q24 from rfl, e]
  refine ⟨⟨[q9, q10, q12, q15, q16, q24], ?_, ?_, fun a => ⟨fun h => ?_, fun h => ?_⟩⟩, ?_⟩
  · rw [e2]; exact hP.sub [0, 1, 2, 10, 12, 16, 20, 21, 22, 3, 4, 5, 6, 7, 13, 17, 18, 19, 8, 9, 11, 14, 15, 23, 24, 25, 26, 27, 28, 29, 30, 31, 32, 33, 34, 35, 36, 37, 38, 39, 40, 41, 42, 43, 44, 45, 46, 47, 48, 49, 50, 51, 52, 53, 54, 55, 56, 57, 58, 59, 60, 61, 62, 63] rfl
  · rw [e2]; exact hD.sub [0, 1, 2, 10, 12, 16, 20, 21, 22, 3, 4, 5, 6, 7, 13, 17, 18, 19, 8, 9, 11, 14, 15, 23, 24, 25, 26, 27, 28, 29, 30, 31, 32, 33, 34, 35, 36, 37, 38, 39, 40, 41, 42, 43, 44, 45, 46, 47, 48, 49, 50, 51, 52, 53, 54, 55, 56, 57, 58, 59, 60, 61, 62, 63] (by decide) rfl
  · show ¬ oT (P00 sa q9 q10 q12 q15 q16 q24) a = 0
    simp only [List.mem_cons, List.not_mem_nil, or_false] at h
    rcases h with rfl | rfl | rfl | rfl | rfl | rfl
    · rw [t9]; decide
    · rw [t10]; decide
    · rw [t12]; decide
    · rw [t15]; decide
    · rw [t16]; decide
    · rw [t24]; decide
  · have h : ¬ oT (P00 sa q9 q10 q12 q15 q16 q24) a = 0 := h
    simp only [List.mem_cons, List.not_mem_nil, or_false]
    rcases t00_i h with ⟨-, h | h⟩ | ⟨-, h | h⟩ | ⟨-, h | h⟩ <;> simp [h]
  · have z0 : (0 : Int32).toInt = 0 := by decide
    refine ⟨pv00 n10_9 n12_9 n12_10 n15_9 n15_10 n15_12 n16_9 n16_10 n16_12 n16_15 n24_9 n24_10 n24_12 n24_15 n24_16, ⟨⟨q24, rfl, t24⟩, fun b hb => ?_, t9, t15, t12, fun i b hb => (by cases hb), fun i b hb => (by cases hb), fun i b hb => (by cases hb), fun i b hb => (by cases hb), fun i b hb => (by cases hb), fun i b hb => (by cases hb), fun i hi => ?_⟩, fun j => ?_, ?_, ?_, ?_, ?_, ?_, ?_, fun i => ?_⟩
    · cases hb; exact t12
    · have hi : (i : Int) < (0 : Int32).toInt := hi
      omega
    · show 0 ≤ (0 : Int32).toInt ∧ (0 : Int32).toInt ≤ 126; decide
    all_goals first | (show 0 ≤ (0 : Int32).toInt ∧ (0 : Int32).toInt ≤ _; decide) | (show 0 ≤ 82; decide)
theorem mi00 : MI r00 := by
  have z0 : (0 : Int32).toInt = 0 := by decide
  refine ⟨?_, ?_, fun i hi => ?_, ?_, fun c hc => ?_, fun c hc => ?_, ?_, fun k => Or.inl z0, fun k => ?_, fun k => ?_, fun k => ?_, fun p hp => Or.inl ?_, fun p hp hq hk => ?_, ?_, fun c hc => ⟨z0, z0⟩⟩
  all_goals first | (show 0 ≤ (0 : Int32).toInt ∧ (0 : Int32).toInt ≤ _; decide) | skip
  · have hi : (i : Int) < (0 : Int32).toInt := hi
    omega
  · have hc : (c : Int) < (0 : Int32).toInt := hc
    omega
  · have hc : (c : Int) < (0 : Int32).toInt := hc
    omega
  · have hk : (0 : Int32).toInt = 3 := hk
    omega
