/-! ===== the reference's digits ===== -/
/-- a cell's text -/
def QTT (a b : Int64) (s : List Int) : Prop := a.toInt = qPkA s ∧ b.toInt = qPkB s ∧ s.length ≤ 16 ∧ ∀ c ∈ s, 0 ≤ c ∧ c < 128
def QNL (f0 : Nat → Int32) (n0 : Int32) (f : Nat → Int32) (n : Int32) (v u k : Int) : Prop :=
  (∃ e : Nat, u = ((10 ^ e : Nat) : Int) ∧ (e : Int) + k ≤ 10 ∧ (e = 0 ∨ 10 ^ e ≤ v.natAbs) ∧ ∀ s9 : List Int, QB f0 n0 s9 → s9.length ≤ 36 → QB f n (s9 ++ ((if v < 0 then [45] else []) ++ qPre (v.natAbs / 10 ^ (e + 1))))) ∨
  (u = 0 ∧ ∀ s9 : List Int, QB f0 n0 s9 → s9.length ≤ 36 → QB f n (s9 ++ qDec v))
section QNM
variable {f0 f f2 : Nat → Int32} {n0 n n2 : Int32} {v u u2 k k2 d : Int} {e : Nat} {x y : Int64} {s : List Int}
theorem q_gb {i : Nat} (h : ∀ c ∈ s, 0 ≤ c ∧ c < 128) : 0 ≤ s.getD i 0 ∧ s.getD i 0 < 128 := by
  rw [List.getD_eq_getElem?_getD]
  by_cases q : i < s.length
  · rw [List.getElem?_eq_getElem q]; exact h _ (List.getElem_mem q)
  · rw [List.getElem?_eq_none (by omega)]; show (0 : Int) ≤ 0 ∧ (0 : Int) < 128; decide
theorem q_p10 (h : e ≤ 10) : 1 ≤ 10 ^ e ∧ 10 ^ e ≤ 10000000000 := by
  have e10 : (10 : Nat) ^ 10 = 10000000000 := by decide
  have a : 10 ^ e ≤ 10 ^ 10 := Nat.pow_le_pow_right (by decide) h
  have b : 0 < 10 ^ e := Nat.pow_pos (by decide)
  omega
theorem q_mul10 (h0 : 0 ≤ x.toInt) (h : x.toInt ≤ 100000000000) : (x * (10 : Int64)).toInt = 10 * x.toInt := by
  have w : (10 : Int64).toInt = 10 := by decide +kernel
  rw [Int64.mul_comm]
  exact zl_mulc 10 w (by omega) (by omega)
theorem q_neg64 (h : -9223372036854775808 < x.toInt) : (-x).toInt = -x.toInt := by
  have u := x.toInt_lt
  rw [Int64.toInt_neg]
  exact Int.bmod_eq_of_le (by show -(((2 ^ 64 : Nat) : Int) / 2) ≤ _; omega) (by show _ < ((((2 ^ 64 : Nat) : Int)) + 1) / 2; omega)
theorem q_div (h0 : 0 ≤ x.toInt) (h : 0 < y.toInt) : (x / y).toInt = x.toInt / y.toInt := by
  have u := x.toInt_lt
  have z : 0 ≤ x.toInt / y.toInt := Int.ediv_nonneg h0 (by omega)
  have z2 : x.toInt / y.toInt ≤ x.toInt := Int.ediv_le_self _ h0
  rw [Int64.toInt_div, Int.tdiv_eq_ediv_of_nonneg h0]
  exact Int.bmod_eq_of_le (by show -(((2 ^ 64 : Nat) : Int) / 2) ≤ _; omega) (by show _ < ((((2 ^ 64 : Nat) : Int)) + 1) / 2; omega)
theorem q_mod10 (h0 : 0 ≤ x.toInt) : (x - x / (10 : Int64) * (10 : Int64)).toInt = x.toInt % 10 := by
  have w : (10 : Int64).toInt = 10 := by decide +kernel
  have u := x.toInt_lt
  have d := q_div h0 (show 0 < (10 : Int64).toInt by rw [w]; decide)
  rw [w] at d
  have m : (x / (10 : Int64) * (10 : Int64)).toInt = 10 * (x.toInt / 10) := by
    rw [Int64.mul_comm, zl_mulc 10 w (by omega) (by omega), d]
  rw [zl_sub (by omega) (by omega), m]
  omega
theorem qPre_len {q : Nat} (h : q < 10000000000) : (qPre q).length ≤ 10 := by
  unfold qPre
  split
  · exact Nat.zero_le _
  · have e10 : (10 : Nat) ^ 10 = 10000000000 := by decide
    have e20 : (10 : Nat) ^ 20 = 100000000000000000000 := by decide
    rw [show qDg q = qDgF 10 q from qDgF_eq 20 10 q (by omega) (by omega) (by decide) (by decide)]
    exact qDg_len 10 q (by omega)
theorem QNL.start (g : u = ((10 ^ e : Nat) : Int)) (hk : (e : Int) + k ≤ 10) (h : e = 0 ∨ 10 ^ e ≤ v.natAbs) (hl : v.natAbs < 10 ^ (e + 1)) (hs : ∀ s9 : List Int, QB f0 n0 s9 → s9.length ≤ 36 → QB f n (s9 ++ (if v < 0 then [45] else []))) : QNL f0 n0 f n v u k := by
  refine Or.inl ⟨e, g, hk, h, fun s9 h9 hl9 => ?_⟩
  rw [Nat.div_eq_of_lt hl, show qPre 0 = [] from rfl, List.append_nil]
  exact hs s9 h9 hl9
theorem QNL.ub (h : QNL f0 n0 f n v u k) (hu : 0 < u) (hk : 0 ≤ k) : u ≤ 10000000000 := by
  rcases h with ⟨e, rfl, h2, _, _⟩ | ⟨h, _⟩
  · have := q_p10 (e := e) (by omega)
    omega
  · omega
theorem QNL.step (h : QNL f0 n0 f n v u k) (hu : 0 < u) (hv : v.natAbs ≤ 2147483648) (hk0 : 0 ≤ k) (hk : k2 = k + 1) (hu2 : u2 = u / 10) (hd : d = 48 + (v.natAbs : Int) / u % 10) (hb : ∀ s9 : List Int, QB f n s9 → s9.length < 48 → QB f2 n2 (s9 ++ [d])) : QNL f0 n0 f2 n2 v u2 k2 := by
  rcases h with ⟨e, rfl, h2, h3, h4⟩ | ⟨h, _⟩
  · have key : ∀ s9 : List Int, QB f0 n0 s9 → s9.length ≤ 36 → QB f2 n2 (s9 ++ ((if v < 0 then [45] else []) ++ (qPre (v.natAbs / 10 ^ (e + 1)) ++ [d]))) := fun s9 h9 hl => by
      have b := hb _ (h4 s9 h9 hl) (by
        have z : v.natAbs / 10 ^ (e + 1) ≤ v.natAbs := Nat.div_le_self _ _
        have y := qPre_len (q := v.natAbs / 10 ^ (e + 1)) (by omega)
        have w : (if v < 0 then [(45 : Int)] else []).length ≤ 1 := by
          split
          · exact Nat.le_refl _
          · exact Nat.zero_le _
        rw [List.length_append, List.length_append]
        omega)
      rw [List.append_assoc, List.append_assoc] at b
      exact b
    have pos : 0 < 10 ^ e := Nat.pow_pos (by decide)
    have dd : d = 48 + ((v.natAbs / 10 ^ e % 10 : Nat) : Int) := by rw [hd]; norm_cast
    have qe : v.natAbs / 10 ^ (e + 1) = v.natAbs / 10 ^ e / 10 := by rw [Nat.pow_succ, Nat.div_div_eq_div_mul]
    have qs : v.natAbs / 10 ^ e = 10 * (v.natAbs / 10 ^ (e + 1)) + v.natAbs / 10 ^ e % 10 := by rw [qe]; omega
    have qb : v.natAbs / 10 ^ (e + 1) < 1000000000000 := by
      have z : v.natAbs / 10 ^ (e + 1) ≤ v.natAbs := Nat.div_le_self _ _
      omega
    cases e with
    | zero =>
      refine Or.inr ⟨by rw [hu2]; decide, fun s9 h9 hl => ?_⟩
      have b := key s9 h9 hl
      unfold qDec
      rw [dd] at b
      rw [Nat.pow_zero, Nat.div_one] at qs b
      by_cases q : v.natAbs = 0
      · rw [q] at b ⊢
        exact b
      · rw [← qPre_up (Nat.mod_lt _ (by decide)) (by omega) qb, ← qs] at b
        unfold qPre at b
        rw [if_neg q] at b
        exact b
    | succ e =>
      have h5 : 10 ^ (e + 1) ≤ v.natAbs := h3.resolve_left (Nat.succ_ne_zero e)
      have p2 : 0 < v.natAbs / 10 ^ (e + 1) := Nat.div_pos h5 pos
      refine Or.inl ⟨e, ?_, by omega, Or.inr (Nat.le_trans (Nat.pow_le_pow_right (by decide) (Nat.le_succ e)) h5), fun s9 h9 hl => ?_⟩
      · rw [hu2, Nat.pow_succ]; omega
      · have b := key s9 h9 hl
        rw [dd, ← qPre_up (Nat.mod_lt _ (by decide)) (by omega) qb, ← qs] at b
        exact b
  · omega
theorem QNL.fin (h : QNL f0 n0 f n v u k) (hs : QB f0 n0 s) (hl : s.length ≤ 36) (hx : u ≤ 0 ∨ 11 ≤ k) : QB f n (s ++ qDec v) := by
  rcases h with ⟨e, rfl, h2, _, _⟩ | ⟨_, h⟩
  · have : 0 < 10 ^ e := Nat.pow_pos (by decide)
    omega
  · exact h s hs hl
end QNM
