/-! ===== the reference's texts: characters out of a cell, the row that is built ===== -/
def QB (f : Nat → Int32) (n : Int32) (s : List Int) : Prop := n.toInt = s.length ∧ ∀ i : Nat, i < s.length → (f i).toInt = s.getD i 0
section QTX
variable {x : Int64} {s t : List Int} {f : Nat → Int32} {n n2 c : Int32}
theorem q_gapp {i : Nat} {c : Int} (h : i < s.length) : (s ++ [c]).getD i 0 = s.getD i 0 := by
  rw [List.getD_eq_getElem?_getD, List.getD_eq_getElem?_getD, List.getElem?_append_left h]
theorem q_glast {c : Int} : (s ++ [c]).getD s.length 0 = c := by
  rw [List.getD_eq_getElem?_getD, List.getElem?_append_right (Nat.le_refl _), Nat.sub_self]; rfl
theorem q_gtake {i k : Nat} (h : i < k) : (s.take k).getD i 0 = s.getD i 0 := by
  rw [List.getD_eq_getElem?_getD, List.getD_eq_getElem?_getD, List.getElem?_take_of_lt h]
theorem q_gdrop {i k : Nat} : (s.drop k).getD i 0 = s.getD (k + i) 0 := by
  rw [List.getD_eq_getElem?_getD, List.getD_eq_getElem?_getD, List.getElem?_drop]
theorem QB.nil (h : n.toInt = 0) : QB f n [] := ⟨h, fun i hi => absurd hi (Nat.not_lt_zero _)⟩
theorem QB.snoc {j : Nat} (h : QB f n s) (hj : (j : Int) = n.toInt) (hn : n2.toInt = n.toInt + 1) : QB (upd f j c) n2 (s ++ [c.toInt]) := by
  obtain ⟨h1, h2⟩ := h
  refine ⟨by rw [List.length_append]; show n2.toInt = ((s.length + 1 : Nat) : Int); omega, fun i hi => ?_⟩
  have hi : i < s.length + 1 := by rw [List.length_append] at hi; exact hi
  by_cases e : i = j
  · subst e
    rw [upd_eq, show i = s.length by omega, q_glast]
  · rw [upd_ne e, q_gapp (by omega)]; exact h2 i (by omega)
theorem q_p128 (i : Nat) : (2 : Int) ^ (7 * i) = 128 ^ i := by rw [Int.pow_mul]; rfl
theorem q_s8a {i : Nat} {j : Int32} (ha : x.toInt = qPkA s) (h : ∀ c ∈ s, 0 ≤ c ∧ c < 128) (hi : i < 8) (hj : j.toInt = 7 * (i : Int)) : ((x >>> (Int32.toInt64 j &&& 63)) &&& 127).toInt = s.getD i 0 := by
  rw [q_and, q_shr (n := 7 * i) (by omega) (by omega), q_p128, ha, ← q_gtake hi, ← qPk_get (s.take 8) i (q_take h 8)]
  have e : i = 0 ∨ i = 1 ∨ i = 2 ∨ i = 3 ∨ i = 4 ∨ i = 5 ∨ i = 6 ∨ i = 7 := by omega
  unfold qPkA
  have p0 : (128 : Int) ^ 0 = 1 := by decide
  have p1 : (128 : Int) ^ 1 = 128 := by decide
  have p2 : (128 : Int) ^ 2 = 16384 := by decide
  have p3 : (128 : Int) ^ 3 = 2097152 := by decide
  have p4 : (128 : Int) ^ 4 = 268435456 := by decide
  have p5 : (128 : Int) ^ 5 = 34359738368 := by decide
  have p6 : (128 : Int) ^ 6 = 4398046511104 := by decide
  have p7 : (128 : Int) ^ 7 = 562949953421312 := by decide
  rcases e with rfl | rfl | rfl | rfl | rfl | rfl | rfl | rfl
  · rw [p0]; omega
  · rw [p1]; omega
  · rw [p2]; omega
  · rw [p3]; omega
  · rw [p4]; omega
  · rw [p5]; omega
  · rw [p6]; omega
  · rw [p7]; omega
theorem q_s8b {i : Nat} {j : Int32} (hb : x.toInt = qPkB s) (h : ∀ c ∈ s, 0 ≤ c ∧ c < 128) (hi : 8 ≤ i) (h2 : i < 17) (hj : j.toInt = 7 * ((i : Int) - 8)) : ((x >>> (Int32.toInt64 j &&& 63)) &&& 127).toInt = s.getD i 0 := by
  obtain ⟨k, rfl⟩ : ∃ k, i = 8 + k := ⟨i - 8, by omega⟩
  rw [q_and, q_shr (n := 7 * k) (by omega) (by omega), q_p128, hb, ← q_gdrop (k := 8) (i := k)]
  exact qPk_get (s.drop 8) k (q_drop h 8)
-- digits
theorem qDgF_eq : ∀ (f g n : Nat), n < 10 ^ f → n < 10 ^ g → 0 < f → 0 < g → qDgF f n = qDgF g n
  | 0, _, _, _, _, h, _ => absurd h (Nat.lt_irrefl _)
  | _, 0, _, _, _, _, h => absurd h (Nat.lt_irrefl _)
  | f + 1, g + 1, n, hf, hg, _, _ => by
    show (if n < 10 then [48 + (n : Int)] else qDgF f (n / 10) ++ [48 + ((n % 10 : Nat) : Int)]) = if n < 10 then [48 + (n : Int)] else qDgF g (n / 10) ++ [48 + ((n % 10 : Nat) : Int)]
    by_cases q : n < 10
    · rw [if_pos q, if_pos q]
    · rw [Nat.pow_succ] at hf hg
      have f0 : 0 < f := by
        rcases Nat.eq_zero_or_pos f with e | e
        · subst e; omega
        · exact e
      have g0 : 0 < g := by
        rcases Nat.eq_zero_or_pos g with e | e
        · subst e; omega
        · exact e
      rw [if_neg q, if_neg q, qDgF_eq f g (n / 10) (by omega) (by omega) f0 g0]
theorem qDg_one {n : Nat} (h : n < 10) : qDg n = [48 + (n : Int)] := by
  show (if n < 10 then [48 + (n : Int)] else _) = _
  rw [if_pos h]
theorem qDg_more {q d : Nat} (hd : d < 10) (hq : 0 < q) (hb : q < 1000000000000) : qDg (10 * q + d) = qDg q ++ [48 + (d : Int)] := by
  show (if 10 * q + d < 10 then _ else qDgF 19 ((10 * q + d) / 10) ++ [48 + (((10 * q + d) % 10 : Nat) : Int)]) = _
  rw [if_neg (by omega), show (10 * q + d) / 10 = q by omega, show (10 * q + d) % 10 = d by omega]
  have e1 : (10 : Nat) ^ 19 = 10000000000000000000 := by decide
  have e2 : (10 : Nat) ^ 20 = 100000000000000000000 := by decide
  rw [show qDg q = qDgF 20 q from rfl, qDgF_eq 19 20 q (by omega) (by omega) (by decide) (by decide)]
/-- the digits so far -/
def qPre (n : Nat) : List Int := if n = 0 then [] else qDg n
theorem qPre_up {q d : Nat} (hd : d < 10) (h : 0 < 10 * q + d) (hb : q < 1000000000000) : qPre (10 * q + d) = qPre q ++ [48 + (d : Int)] := by
  unfold qPre
  rw [if_neg (by omega)]
  by_cases e : q = 0
  · subst e
    rw [if_pos rfl, show 10 * 0 + d = d by omega, qDg_one hd]; rfl
  · rw [if_neg e, qDg_more hd (by omega) hb]
theorem qDg_len : ∀ (f n : Nat), n < 10 ^ f → (qDgF f n).length ≤ f
  | 0, n, _ => Nat.le_refl _
  | f + 1, n, h => by
    show (if n < 10 then [48 + (n : Int)] else qDgF f (n / 10) ++ [48 + ((n % 10 : Nat) : Int)]).length ≤ f + 1
    by_cases q : n < 10
    · rw [if_pos q]; show 1 ≤ f + 1; omega
    · rw [if_neg q, List.length_append]
      rw [Nat.pow_succ] at h
      have := qDg_len f (n / 10) (by omega)
      show (qDgF f (n / 10)).length + 1 ≤ f + 1
      omega
theorem qDec_len {v : Int} (h1 : -2147483648 ≤ v) (h2 : v ≤ 2147483647) : (qDec v).length ≤ 11 := by
  have e : (10 : Nat) ^ 10 = 10000000000 := by decide
  have z := qDg_len 10 v.natAbs (by omega)
  have e2 : (10 : Nat) ^ 20 = 100000000000000000000 := by decide
  have y : qDg v.natAbs = qDgF 10 v.natAbs := qDgF_eq 20 10 _ (by omega) (by omega) (by decide) (by decide)
  unfold qDec
  rw [List.length_append, y]
  split
  · show 1 + _ ≤ 11; omega
  · show 0 + _ ≤ 11; omega
theorem qDg_c : ∀ (f n : Nat), ∀ c ∈ qDgF f n, 48 ≤ c ∧ c ≤ 57
  | 0, n, c, h => absurd h List.not_mem_nil
  | f + 1, n, c, h => by
    have h : c ∈ (if n < 10 then [48 + (n : Int)] else qDgF f (n / 10) ++ [48 + ((n % 10 : Nat) : Int)]) := h
    by_cases q : n < 10
    · rw [if_pos q] at h
      have := List.mem_singleton.mp h
      omega
    · rw [if_neg q] at h
      rcases List.mem_append.mp h with h | h
      · exact qDg_c f _ c h
      · have := List.mem_singleton.mp h
        omega
theorem qDec_c {v c : Int} (h : c ∈ qDec v) : 45 ≤ c ∧ c ≤ 57 := by
  unfold qDec at h
  rcases List.mem_append.mp h with h | h
  · split at h
    · have := List.mem_singleton.mp h
      omega
    · exact absurd h List.not_mem_nil
  · have := qDg_c 20 _ c h
    omega
end QTX
