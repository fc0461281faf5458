/-! ===== the reference: a text as a number ===== -/
def INL (s : List Int) (fr v i g : Int) : Prop := fr ≤ i ∧ (g = 0 ∨ g = 1) ∧ (g = 1 → i ≤ (s.length : Int) ∧ (1 ≤ (s.drop fr.toNat).length ∧ (s.drop fr.toNat).length ≤ 9) ∧ qDigs ((s.drop fr.toNat).take (i - fr).toNat) = true ∧ v = qVal ((s.drop fr.toNat).take (i - fr).toNat)) ∧ (g = 0 → ¬ (1 ≤ (s.drop fr.toNat).length ∧ (s.drop fr.toNat).length ≤ 9 ∧ qDigs (s.drop fr.toNat) = true))
/-- what intOf does -/
def QI (o : Option Int) (r fl' fl : Int) : Prop := match o with
  | some n => r = n ∧ fl' = fl
  | none => fl' = 10
theorem q_ng {x : Int32} (h : -2147483648 < x.toInt) : (-x).toInt = -x.toInt := by
  have h2 := Int32.toInt_lt x
  have e : -x = 0 - x := by simp
  have z : (0 : Int32).toInt = 0 := by decide +kernel
  rw [e, z_sub (by omega) (by omega)]; omega
section QIN
variable {s t : List Int} {c fr v v2 i i2 g g2 r fl fl' : Int}
theorem qVal_snoc : qVal (s ++ [c]) = 10 * qVal s + (c - 48) := by unfold qVal; rw [List.foldl_append]; rfl
theorem qDigs_snoc : qDigs (s ++ [c]) = (qDigs s && decide (48 ≤ c ∧ c ≤ 57)) := by unfold qDigs; rw [List.all_append]; simp
theorem qDigs_at {j : Nat} (h : qDigs s = true) (hj : j < s.length) : 48 ≤ s.getD j 0 ∧ s.getD j 0 ≤ 57 := by
  unfold qDigs at h
  have z := List.all_eq_true.mp h _ (List.getElem_mem hj)
  rw [List.getD_eq_getElem?_getD, List.getElem?_eq_getElem hj]
  exact of_decide_eq_true z
theorem qVal_b : ∀ (n : Nat) (s : List Int), s.length = n → qDigs s = true → 0 ≤ qVal s ∧ qVal s < 10 ^ n
  | 0, s, hl, _ => by
    obtain rfl := List.length_eq_zero_iff.mp hl
    show (0 : Int) ≤ 0 ∧ (0 : Int) < 1; decide
  | n + 1, s, hl, h => by
    have e : s = s.take n ++ [s.getD n 0] := by rw [← q_tsucc (by omega), q_tall (by omega)]
    rw [e, qDigs_snoc, Bool.and_eq_true] at h
    have z := qVal_b n (s.take n) (by rw [List.length_take]; omega) h.1
    have y := of_decide_eq_true h.2
    rw [e, qVal_snoc, Int.pow_succ]
    omega
theorem INL.start (hf : 0 ≤ fr) (hg : (g = 1 ∧ 1 ≤ (s.length : Int) - fr ∧ (s.length : Int) - fr ≤ 9) ∨ (g = 0 ∧ ¬ (1 ≤ (s.length : Int) - fr ∧ (s.length : Int) - fr ≤ 9))) (hv : v = 0) (hi : i = fr) : INL s fr v i g := by
  subst hi hv
  have l : (s.drop i.toNat).length = s.length - i.toNat := List.length_drop
  refine ⟨Int.le_refl _, by omega, fun h => ?_, fun h h2 => by omega⟩
  refine ⟨by omega, by omega, ?_, ?_⟩
  · rw [show (i - i).toNat = 0 by omega]; rfl
  · rw [show (i - i).toNat = 0 by omega]; rfl
theorem INL.step (h : INL s fr v i g) (hf : 0 ≤ fr) (hg : ¬ g = 0) (hi : i < (s.length : Int)) (hi2 : i2 = i + 1) (hg2 : (g2 = 1 ∧ 48 ≤ s.getD i.toNat 0 ∧ s.getD i.toNat 0 ≤ 57) ∨ (g2 = 0 ∧ ¬ (48 ≤ s.getD i.toNat 0 ∧ s.getD i.toNat 0 ≤ 57))) (hv : g2 = 1 → v2 = 10 * v + (s.getD i.toNat 0 - 48)) : INL s fr v2 i2 g2 := by
  obtain ⟨h1, h2, h3, h4⟩ := h
  obtain ⟨a1, a2, a3, a4⟩ := h3 (by omega)
  have l : (s.drop fr.toNat).length = s.length - fr.toNat := List.length_drop
  have gd : (s.drop fr.toNat).getD (i - fr).toNat 0 = s.getD i.toNat 0 := by rw [q_gdrop, show fr.toNat + (i - fr).toNat = i.toNat by omega]
  refine ⟨by omega, by omega, fun e => ?_, fun e => ?_⟩
  · refine ⟨by omega, a2, ?_, ?_⟩
    · rw [show (i2 - fr).toNat = (i - fr).toNat + 1 by omega, q_tsucc (by omega), qDigs_snoc, a3, gd]
      exact decide_eq_true (by omega)
    · rw [show (i2 - fr).toNat = (i - fr).toNat + 1 by omega, q_tsucc (by omega), qVal_snoc, ← a4, gd]
      exact hv e
  · rintro ⟨b1, b2, b3⟩
    have z := qDigs_at b3 (show (i - fr).toNat < (s.drop fr.toNat).length by omega)
    rw [gd] at z
    omega
theorem INL.vb (h : INL s fr v i g) (hf : 0 ≤ fr) (hg : ¬ g = 0) (hi : i < (s.length : Int)) : 0 ≤ v ∧ v < 100000000 := by
  obtain ⟨h1, h2, h3, h4⟩ := h
  obtain ⟨a1, a2, a3, a4⟩ := h3 (by omega)
  have ld : (s.drop fr.toNat).length = s.length - fr.toNat := List.length_drop
  have l : ((s.drop fr.toNat).take (i - fr).toNat).length ≤ 8 := by rw [List.length_take]; omega
  have z := qVal_b _ _ rfl a3
  have y : (10 : Int) ^ ((s.drop fr.toNat).take (i - fr).toNat).length ≤ 10 ^ 8 := by exact_mod_cast Nat.pow_le_pow_right (n := 10) (by decide) l
  have e9 : (10 : Int) ^ 8 = 100000000 := by decide
  omega
theorem INL.vb9 (h : INL s fr v i g) (hf : 0 ≤ fr) (hg : ¬ g = 0) : 0 ≤ v ∧ v < 1000000000 := by
  obtain ⟨h1, h2, h3, h4⟩ := h
  obtain ⟨a1, a2, a3, a4⟩ := h3 (by omega)
  have l : ((s.drop fr.toNat).take (i - fr).toNat).length ≤ 9 := by rw [List.length_take]; omega
  have z := qVal_b _ _ rfl a3
  have y : (10 : Int) ^ ((s.drop fr.toNat).take (i - fr).toNat).length ≤ 10 ^ 9 := by exact_mod_cast Nat.pow_le_pow_right (n := 10) (by decide) l
  have e9 : (10 : Int) ^ 9 = 1000000000 := by decide
  omega
theorem INL.fin0 (h : INL s 0 v i g) (hh : ¬ s.head? = some 45) (hx : (s.length : Int) ≤ i ∨ g = 0) (hr : g = 1 → r = v) (hfl : (g = 1 ∧ fl' = fl) ∨ (g = 0 ∧ fl' = 10)) : QI (qToI s) r fl' fl := by
  obtain ⟨h1, h2, h3, h4⟩ := h
  have d0 : s.drop (0 : Int).toNat = s := rfl
  rw [d0] at h3 h4
  unfold qToI
  rw [if_neg hh]
  rcases hfl with ⟨e, ef⟩ | ⟨e, ef⟩
  · obtain ⟨a1, a2, a3, a4⟩ := h3 e
    rw [q_tall (by omega)] at a3 a4
    rw [if_pos ⟨a2.1, a2.2, a3⟩]
    exact ⟨(hr e).trans a4, ef⟩
  · rw [if_neg (h4 e)]; exact ef
theorem INL.fin1 (h : INL s 1 v i g) (hh : s.head? = some 45) (hx : (s.length : Int) ≤ i ∨ g = 0) (hr : g = 1 → r = -v) (hfl : (g = 1 ∧ fl' = fl) ∨ (g = 0 ∧ fl' = 10)) : QI (qToI s) r fl' fl := by
  obtain ⟨h1, h2, h3, h4⟩ := h
  have d0 : s.drop (1 : Int).toNat = s.tail := List.drop_one
  rw [d0] at h3 h4
  unfold qToI
  rw [if_pos hh]
  rcases hfl with ⟨e, ef⟩ | ⟨e, ef⟩
  · obtain ⟨a1, a2, a3, a4⟩ := h3 e
    have lt : s.tail.length = s.length - 1 := List.length_tail
    rw [q_tall (by omega)] at a3 a4
    rw [if_pos ⟨a2.1, a2.2, a3⟩]
    exact ⟨by rw [hr e, a4], ef⟩
  · rw [if_neg (h4 e)]; exact ef
theorem q_head (h : 0 < s.length) : s.head? = some (s.getD 0 0) := by
  cases s with
  | nil => exact absurd h (Nat.lt_irrefl _)
  | cons c t => rfl
theorem q_head0 (h : s.length = 0) : ¬ s.head? = some 45 := by
  obtain rfl := List.length_eq_zero_iff.mp h
  intro e; cases e
/-- a number out of a cell that holds no REAL and no TEXT -/
theorem QAT.num {H : QT} {ob : Int} {m : QM} {p : Nat} {v : QV} {i : Int32} (h : QAT H ob m p v) (h3 : ¬ (m.1 p).toInt = 3) (h4 : ¬ (m.1 p).toInt = 4) (e : i = Int64.toInt32 (m.2.1 p)) : QI (qCvI v) i.toInt fl fl := by
  have k := h.kd
  have a := (h.2.2.2.2 (by omega) (by omega)).1
  have rg : -2147483648 ≤ v.2.1 ∧ v.2.1 < 2147483648 := by
    rcases h.1 with rfl | ⟨b, rfl⟩ | ⟨n, rfl⟩ | ⟨r, _, rfl⟩ | ⟨s, _, _, rfl⟩ | ⟨o, h0, h1, h2, rfl⟩
    · exact ⟨by decide, by decide⟩
    · cases b
      · exact ⟨by decide, by decide⟩
      · exact ⟨by decide, by decide⟩
    · exact ⟨n.le_toInt, n.toInt_lt⟩
    · exact ⟨by show (-2147483648 : Int) ≤ 0; decide, by show (0 : Int) < 2147483648; decide⟩
    · exact ⟨by show (-2147483648 : Int) ≤ 0; decide, by show (0 : Int) < 2147483648; decide⟩
    · exact ⟨by show (-2147483648 : Int) ≤ (o : Int); omega, by show (o : Int) < 2147483648; omega⟩
  have z := z_l2i e (by omega) (by omega)
  unfold qCvI qIn
  rw [if_neg (by omega), if_neg (by omega)]
  exact ⟨by rw [Int32.toInt_ofInt_of_le (by omega) (by omega)]; omega, rfl⟩
end QIN
