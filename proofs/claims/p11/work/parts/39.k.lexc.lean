/-! ===== the tokens of the class's lexer ===== -/
def cT (F : Nat → Int32) (n : Int32) (i : Int) : Int := if 0 ≤ i ∧ i < n.toInt then (F i.toNat).toInt else 0
abbrev PV9 (v : Int) : Prop := v = 15421 ∨ v = 15933 ∨ v = 15677 ∨ v = 8509 ∨ v = 9766 ∨ v = 31868 ∨ v = 16186 ∨ v = 16174
theorem PV9_tw {c d : Int} (h1 : 0 ≤ c) (h2 : c ≤ 126) (h3 : 0 ≤ d) (h4 : d ≤ 126) : PV9 (256 * c + d) ↔ TW c d := by
  constructor
  · rintro (h | h | h | h | h | h | h | h)
    · exact Or.inl ⟨by omega, by omega⟩
    · exact Or.inl ⟨by omega, by omega⟩
    · exact Or.inl ⟨by omega, by omega⟩
    · exact Or.inl ⟨by omega, by omega⟩
    · exact Or.inr (Or.inl ⟨by omega, by omega⟩)
    · exact Or.inr (Or.inr (Or.inl ⟨by omega, by omega⟩))
    · exact Or.inr (Or.inr (Or.inr ⟨by omega, by omega⟩))
    · exact Or.inr (Or.inr (Or.inr ⟨by omega, by omega⟩))
  · rintro (⟨h, h | h | h | h⟩ | ⟨h, h5⟩ | ⟨h, h5⟩ | ⟨h, h5 | h5⟩)
    · exact Or.inl (by omega)
    · exact Or.inr (Or.inl (by omega))
    · exact Or.inr (Or.inr (Or.inl (by omega)))
    · exact Or.inr (Or.inr (Or.inr (Or.inl (by omega))))
    · exact Or.inr (Or.inr (Or.inr (Or.inr (Or.inl (by omega)))))
    · exact Or.inr (Or.inr (Or.inr (Or.inr (Or.inr (Or.inl (by omega))))))
    · exact Or.inr (Or.inr (Or.inr (Or.inr (Or.inr (Or.inr (Or.inl (by omega)))))))
    · exact Or.inr (Or.inr (Or.inr (Or.inr (Or.inr (Or.inr (Or.inr (by omega)))))))
/-- one more token (or none: an answer that is no place behind) -/
def LXc (kd pl nm : Nat → Int32) (n : Int32) (kd2 pl2 nm2 : Nat → Int32) (n2 : Int32) (i ret : Int) (r : TR) : Prop := match r with
  | none => ret ≤ i
  | some (k, v, e) => ret = e ∧ i < e ∧ n2.toInt = n.toInt + 1 ∧ (∀ j : Nat, (j : Int) < n.toInt → kd2 j = kd j ∧ pl2 j = pl j ∧ nm2 j = nm j) ∧ (kd2 n.toInt.toNat).toInt = k ∧ (nm2 n.toInt.toNat).toInt = v ∧ (pl2 n.toInt.toNat).toInt = i
/-- what an add does -/
def ADc (kd pl nm : Nat → Int32) (n : Int32) (kd2 pl2 nm2 : Nat → Int32) (n2 : Int32) (a b c : Int32) : Prop := n2.toInt = n.toInt + 1 ∧ kd2 = upd kd n.toInt.toNat a ∧ pl2 = upd pl n.toInt.toNat b ∧ nm2 = upd nm n.toInt.toNat c
/-- the tokens so far -/
def LIc (t : Int → Int) (m : Int) (kd pl nm : Nat → Int32) (n : Int32) (k : Int) : Prop := Cut t m (cT kd n) (cT nm n) (cT pl n) n.toInt.toNat k ∧ n.toInt ≤ k
section LXC
variable {kd pl nm kd2 pl2 nm2 : Nat → Int32} {n n2 a b c : Int32} {i ret e k kk vv m : Int} {r : TR} {t : Int → Int}
theorem LXc.add (h : ADc kd pl nm n kd2 pl2 nm2 n2 a b c) (he : ret = e) (hi : i < e) (h1 : a.toInt = kk) (h2 : c.toInt = vv) (h3 : b.toInt = i) : LXc kd pl nm n kd2 pl2 nm2 n2 i ret (some (kk, vv, e)) := by
  obtain ⟨g1, rfl, rfl, rfl⟩ := h
  refine ⟨he, hi, g1, fun j hj => ⟨if_neg (by omega), if_neg (by omega), if_neg (by omega)⟩, ?_, ?_, ?_⟩
  · rw [show upd kd n.toInt.toNat a n.toInt.toNat = a from if_pos rfl]; exact h1
  · rw [show upd nm n.toInt.toNat c n.toInt.toNat = c from if_pos rfl]; exact h2
  · rw [show upd pl n.toInt.toNat b n.toInt.toNat = b from if_pos rfl]; exact h3
theorem cT_in {F : Nat → Int32} {j : Nat} (h : (j : Int) < n.toInt) : cT F n (j : Int) = (F j).toInt := by
  unfold cT
  rw [if_pos ⟨by omega, h⟩]; rfl
theorem cT_out {F : Nat → Int32} {x : Int} (h : n.toInt ≤ x) : cT F n x = 0 := by
  unfold cT
  rw [if_neg (by omega)]
theorem LIc.cong (h : Cut t m (cT kd n) (cT nm n) (cT pl n) n.toInt.toNat k) (hn : 0 ≤ n.toInt) (h2 : n2.toInt = n.toInt + 1) (hs : ∀ j : Nat, (j : Int) < n.toInt → kd2 j = kd j ∧ pl2 j = pl j ∧ nm2 j = nm j) : Cut t m (cT kd2 n2) (cT nm2 n2) (cT pl2 n2) n.toInt.toNat k :=
  h.cong (fun j hj => by
    obtain ⟨b1, b2, b3⟩ := hs j (by omega)
    rw [cT_in (n := n2) (by omega), cT_in (n := n2) (by omega), cT_in (n := n2) (by omega), cT_in (n := n) (by omega), cT_in (n := n) (by omega), cT_in (n := n) (by omega), b1, b2, b3]
    exact ⟨rfl, rfl, rfl⟩)
theorem LXc.step (hr : TokR t m i r) (h : LXc kd pl nm n kd2 pl2 nm2 n2 i ret r) (hn : 0 ≤ n.toInt) (hc : LIc t m kd pl nm n i) (hi : i < m) (h2 : ¬ t i = 32) : (ret ≤ i ∧ LexErr t m i) ∨ (i < ret ∧ LIc t m kd2 pl2 nm2 n2 ret) := by
  cases r with
  | none => exact Or.inl ⟨h, hi, _, _, _, _, hc.1, h2, hr⟩
  | some x =>
    obtain ⟨k, v, e⟩ := x
    obtain ⟨a2, a0, a3, as, a4, a5, a6⟩ := h
    have e9 : ((n.toInt.toNat : Nat) : Int) = n.toInt := by omega
    refine Or.inr ⟨by omega, ?_, by have := hc.2; omega⟩
    rw [a3, show (n.toInt + 1).toNat = n.toInt.toNat + 1 by omega, a2]
    refine Cut.tok (LIc.cong hc.1 hn a3 as) h2 ?_ ?_
    · rw [cT_in (n := n2) (by omega), cT_in (n := n2) (by omega), a4, a5]; exact hr
    · rw [cT_in (n := n2) (by omega), a6]
theorem LIc.fin (hc : LIc t m kd pl nm n k) (hn : 0 ≤ n.toInt) (hk : k = m) (h : ADc kd pl nm n kd2 pl2 nm2 n2 a b c) (h1 : a.toInt = 0) (h3 : b.toInt = m) : LexOK t m (cT kd2 n2) (cT nm2 n2) (cT pl2 n2) (n2.toInt - 1).toNat ∧ 1 ≤ n2.toInt := by
  subst hk
  obtain ⟨g1, rfl, rfl, rfl⟩ := h
  have e9 : ((n.toInt.toNat : Nat) : Int) = n.toInt := by omega
  rw [show (n2.toInt - 1).toNat = n.toInt.toNat by omega]
  refine ⟨⟨LIc.cong hc.1 hn g1 (fun j hj => ⟨if_neg (by omega), if_neg (by omega), if_neg (by omega)⟩), ?_, ?_⟩, by omega⟩
  · rw [cT_in (n := n2) (by omega), show upd kd n.toInt.toNat a n.toInt.toNat = a from if_pos rfl]; exact h1
  · rw [cT_in (n := n2) (by omega), show upd pl n.toInt.toNat b n.toInt.toNat = b from if_pos rfl]; exact h3
end LXC
theorem nval_b {t : Int → Int} {i k : Int} (h : RT lw t i k) (h5 : k - i ≤ 5) : 0 ≤ nval t i (k - i).toNat ∧ nval t i (k - i).toNat ≤ 14348906 ∧ (k - i ≤ 4 → nval t i (k - i).toNat ≤ 531440) := by
  have hk := h.1
  have l := fun (z : Int) (h1 : i ≤ z) (h2 : z < k) => h.2 z h1 h2
  have hj : (k - i).toNat = 0 ∨ (k - i).toNat = 1 ∨ (k - i).toNat = 2 ∨ (k - i).toNat = 3 ∨ (k - i).toNat = 4 ∨ (k - i).toNat = 5 := by omega
  have n0 : nval t i 0 = 0 := rfl
  have m1 : nval t i 1 = 27 * nval t i 0 + (t i - 96) := by
    show 27 * nval t i 0 + (t (i + ((0 : Nat) : Int)) - 96) = _
    rw [show i + ((0 : Nat) : Int) = i by omega]
  have m2 : nval t i 2 = 27 * nval t i 1 + (t (i + (1 : Nat)) - 96) := rfl
  have m3 : nval t i 3 = 27 * nval t i 2 + (t (i + (2 : Nat)) - 96) := rfl
  have m4 : nval t i 4 = 27 * nval t i 3 + (t (i + (3 : Nat)) - 96) := rfl
  have m5 : nval t i 5 = 27 * nval t i 4 + (t (i + (4 : Nat)) - 96) := rfl
  rcases hj with e | e | e | e | e | e <;> rw [e]
  · rw [n0]; omega
  · have a0 := l i (by omega) (by omega)
    omega
  · have a0 := l i (by omega) (by omega)
    have a1 := l (i + (1 : Nat)) (by omega) (by omega)
    omega
  · have a0 := l i (by omega) (by omega)
    have a1 := l (i + (1 : Nat)) (by omega) (by omega)
    have a2 := l (i + (2 : Nat)) (by omega) (by omega)
    omega
  · have a0 := l i (by omega) (by omega)
    have a1 := l (i + (1 : Nat)) (by omega) (by omega)
    have a2 := l (i + (2 : Nat)) (by omega) (by omega)
    have a3 := l (i + (3 : Nat)) (by omega) (by omega)
    omega
  · have a0 := l i (by omega) (by omega)
    have a1 := l (i + (1 : Nat)) (by omega) (by omega)
    have a2 := l (i + (2 : Nat)) (by omega) (by omega)
    have a3 := l (i + (3 : Nat)) (by omega) (by omega)
    have a4 := l (i + (4 : Nat)) (by omega) (by omega)
    omega
theorem RT_lt {p : Int → Prop} {t : Int → Int} {i k : Int} (h : RT p t i k) (h2 : ¬ p (t k)) (h3 : p (t i)) : i < k := by
  have := h.1
  by_cases e : i = k
  · subst e; exact absurd h3 h2
  · omega
