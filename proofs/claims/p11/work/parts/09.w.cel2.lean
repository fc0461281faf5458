/-! ===== the reference's cells: what kind says what ===== -/
section CE2
variable {H : QT} {ob : Int} {m m' : QM} {p : Nat} {v : QV} {s : List Int} {f : Nat → Int32} {n : Int32} {x y a b : Int64} {L : Nat}
theorem QAT.kd (h : QAT H ob m p v) : (m.1 p).toInt = v.1 := h.2.1
theorem QAT.k0 (h : QAT H ob m p v) (e : (m.1 p).toInt = 0) : v = qNull ∧ (m.2.1 p).toInt = 0 := by
  have e := h.kd.symm.trans e
  obtain rfl := h.1.k0 e
  exact ⟨rfl, (h.2.2.2.2 (show ¬ (0 : Int) = 3 by decide) (show ¬ (0 : Int) = 4 by decide)).1⟩
theorem QAT.k1 (h : QAT H ob m p v) (e : (m.1 p).toInt = 1) : ∃ b, v = qBool b ∧ (m.2.1 p).toInt = if b then 1 else 0 := by
  have e := h.kd.symm.trans e
  obtain ⟨b, rfl⟩ := h.1.k1 e
  exact ⟨b, rfl, (h.2.2.2.2 (show ¬ (1 : Int) = 3 by decide) (show ¬ (1 : Int) = 4 by decide)).1⟩
theorem QAT.k2 (h : QAT H ob m p v) (e : (m.1 p).toInt = 2) : ∃ n, v = qInt n ∧ (m.2.1 p).toInt = n.toInt := by
  have e := h.kd.symm.trans e
  obtain ⟨n, rfl⟩ := h.1.k2 e
  exact ⟨n, rfl, (h.2.2.2.2 (show ¬ (2 : Int) = 3 by decide) (show ¬ (2 : Int) = 4 by decide)).1⟩
theorem QAT.k3 (h : QAT H ob m p v) (e : (m.1 p).toInt = 3) : ∃ r, FN r ∧ v = qReal r ∧ m.2.2.2 p = r := by
  have e := h.kd.symm.trans e
  obtain ⟨r, hr, rfl⟩ := h.1.k3 e
  exact ⟨r, hr, rfl, h.2.2.1 rfl⟩
theorem QAT.k4 (h : QAT H ob m p v) (e : (m.1 p).toInt = 4) : ∃ s, v = qText s ∧ QTT (m.2.1 p) (m.2.2.1 p) s := by
  have e := h.kd.symm.trans e
  obtain ⟨s, h1, h2, rfl⟩ := h.1.k4 e
  have z := h.2.2.2.1 rfl
  exact ⟨s, rfl, z.1, z.2, h1, h2⟩
theorem QAT.k8 (h : QAT H ob m p v) (e : 8 ≤ (m.1 p).toInt) : ∃ o : Nat, ((o : Int) < ob ∧ o < 30) ∧ 0 ≤ H 11 o ∧ H 11 o < 5 ∧ v = qObj H o ∧ (m.2.1 p).toInt = o := by
  have e : 8 ≤ v.1 := by rw [← h.kd]; exact e
  obtain ⟨o, h0, h1, h2, rfl⟩ := h.1.k8 e
  exact ⟨o, h0, h1, h2, rfl, (h.2.2.2.2 (show ¬ 8 + H 11 o = 3 by omega) (show ¬ 8 + H 11 o = 4 by omega)).1⟩
theorem q_l2i {i : Int32} {n : Int32} (h : x.toInt = n.toInt) (e : i = Int64.toInt32 x) : i = n := by
  have u := n.toInt_lt; have w := n.le_toInt
  have z := z_l2i e (by omega) (by omega)
  exact Int32.toInt_inj.mp (by omega)
theorem q_ofInt {n : Int32} : Int32.ofInt n.toInt = n := Int32.toInt_inj.mp (by
  have u := n.toInt_lt; have w := n.le_toInt
  exact Int32.toInt_ofInt_of_le (by omega) (by omega))
theorem qSpl_n : qSpl qNull = [110, 117, 108, 108] := rfl
theorem qSpl_t : qSpl (qText s) = s := rfl
theorem qSpl_i {n : Int32} : qSpl (qInt n) = qDec n.toInt := rfl
theorem qSpl_r {r : UInt64} : qSpl (qReal r) = qDec (FP.d2i r).toInt := rfl
theorem qSpl_b {b : Bool} : qSpl (qBool b) = if b then [116, 114, 117, 101] else [102, 97, 108, 115, 101] := by cases b <;> rfl
theorem qSpl_o {o : Nat} (h : 0 ≤ H 11 o) : qSpl (qObj H o) = 111 :: qDec o := by
  show (if 8 + H 11 o = 4 then _ else if 8 + H 11 o = 2 then _ else if 8 + H 11 o = 3 then _ else if 8 + H 11 o = 1 then _ else if 8 + H 11 o = 0 then _ else 111 :: qDec o) = _
  rw [if_neg (by omega), if_neg (by omega), if_neg (by omega), if_neg (by omega), if_neg (by omega)]
theorem q_tsucc {i : Nat} (h : i < s.length) : s.take (i + 1) = s.take i ++ [s.getD i 0] := by
  rw [List.take_add_one, List.getD_eq_getElem?_getD, List.getElem?_eq_getElem h]; rfl
theorem q_tall {i : Nat} (h : s.length ≤ i) : s.take i = s := List.take_of_length_le h
-- the row as a cell
theorem q_st1 {i : Nat} {c j : Int32} (hx : x.toInt = (L : Int) * 72057594037927936 + qPk (s.take i)) (hs : ∀ c ∈ s, 0 ≤ c ∧ c < 128) (hi : i < 8) (hl : i < s.length) (hL : L ≤ 16) (hc : c.toInt = s.getD i 0) (hj : j.toInt = 7 * (i : Int)) : (x ||| (Int32.toInt64 c <<< (Int32.toInt64 j &&& 63))).toInt = (L : Int) * 72057594037927936 + qPk (s.take (i + 1)) := by
  have g := q_gb (i := i) hs
  have bt := qPk_b (s.take i) (q_take hs i)
  have lt : (s.take i).length = i := by rw [List.length_take]; omega
  rw [lt] at bt
  obtain ⟨P, hP⟩ : ∃ P : Nat, (P : Int) = qPk (s.take i) := ⟨(qPk (s.take i)).toNat, by omega⟩
  obtain ⟨C, hC⟩ : ∃ C : Nat, (C : Int) = s.getD i 0 := ⟨(s.getD i 0).toNat, by omega⟩
  have e2 : (2 : Nat) ^ (7 * i) = 128 ^ i := by rw [Nat.pow_mul]
  have hPb : P < 2 ^ (7 * i) := by rw [e2]; have : ((128 ^ i : Nat) : Int) = 128 ^ i := by norm_cast
                                   omega
  have hpos : (2 : Nat) ^ (7 * i) ≤ 2 ^ 49 := Nat.pow_le_pow_right (by decide) (by omega)
  have hCb : C * 2 ^ (7 * i) ≤ 127 * 2 ^ 49 := Nat.mul_le_mul (by omega) hpos
  have e49 : (2 : Nat) ^ 49 = 562949953421312 := by decide
  have hy : (Int32.toInt64 c <<< (Int32.toInt64 j &&& 63)).toInt = ((C * 2 ^ (7 * i) : Nat) : Int) := q_shl (n := 7 * i) (c := C) (by omega) (by omega) (by rw [Int32.toInt_toInt64]; omega) (by omega)
  have hA : L * 2 ^ (49 - 7 * i) * 2 ^ (7 * i + 7) = L * 72057594037927936 := by
    rw [Nat.mul_assoc, ← Nat.pow_add, show 49 - 7 * i + (7 * i + 7) = 56 by omega]
  have hx2 : x.toInt = ((L * 2 ^ (49 - 7 * i) * 2 ^ (7 * i + 7) + P : Nat) : Int) := by rw [hA]; omega
  rw [q_or hx2 hy hPb (by omega) (by rw [hA]; omega), hy, hx, q_tsucc hl, qPk_snoc, lt]
  have e3 : ((C * 2 ^ (7 * i) : Nat) : Int) = 128 ^ i * s.getD i 0 := by
    rw [e2, Int.mul_comm, ← hC]; norm_cast
  omega
theorem qPkA_take (hl : s.length ≤ 8) : s.take 8 = s := List.take_of_length_le hl
theorem QW.text {k : Int32} {r : UInt64} (hk : k.toInt = 4) (ha : x.toInt = (s.length : Int) * 72057594037927936 + qPk (s.take 8)) (hb : y.toInt = qPk (s.drop 8)) (hl : s.length ≤ 16) (hc : ∀ c ∈ s, 0 ≤ c ∧ c < 128) : QW H ob m (upd m.1 p k, vp_updL m.2.1 p x, vp_updL m.2.2.1 p y, vf_upd m.2.2.2 p r) p (qText s) :=
  ⟨k, x, y, r, rfl, Or.inr (Or.inr (Or.inr (Or.inr (Or.inl ⟨s, hl, hc, rfl⟩)))), hk, fun e => absurd (show (4 : Int) = 3 from e) (by decide), fun _ => ⟨ha, hb⟩, fun _ e => absurd rfl e⟩
/-- the tables, of the reference's fields -/
def qH (pa fi fn ft me mn on tw ac nu cv co : Nat → Int32) : QT := fun i c => match i with
  | 0 => (pa c).toInt
  | 1 => (fi c).toInt
  | 2 => (fn c).toInt
  | 3 => (ft c).toInt
  | 4 => (me c).toInt
  | 5 => (mn c).toInt
  | 6 => (on c).toInt
  | 7 => (tw c).toInt
  | 8 => (ac c).toInt
  | 9 => (nu c).toInt
  | 10 => (cv c).toInt
  | 11 => (co c).toInt
  | _ => 0
end CE2
