/-! ===== the reference's cells: a value, packed ===== -/
def qPk : List Int → Int
  | [] => 0
  | c :: t => c + 128 * qPk t
def qPkA (s : List Int) : Int := (s.length : Int) * 72057594037927936 + qPk (s.take 8)
def qPkB (s : List Int) : Int := qPk (s.drop 8)
abbrev QM : Type := (Nat → Int32) × (Nat → Int64) × (Nat → Int64) × (Nat → UInt64)
def QCE (k : Int32) (a b : Int64) (r : UInt64) (v : QV) : Prop := k.toInt = v.1 ∧ (v.1 = 3 → r = v.2.2.2) ∧ (v.1 = 4 → a.toInt = qPkA v.2.2.1 ∧ b.toInt = qPkB v.2.2.1) ∧ (¬ v.1 = 3 → ¬ v.1 = 4 → a.toInt = v.2.1 ∧ b.toInt = 0)
/-- the cell holds the value -/
def QAT (H : QT) (ob : Int) (m : QM) (p : Nat) (v : QV) : Prop := QOK H ob v ∧ QCE (m.1 p) (m.2.1 p) (m.2.2.1 p) (m.2.2.2 p) v
def QPU (m : QM) (p : Nat) (k : Int32) (a b : Int64) (r : UInt64) : QM := (upd m.1 p k, vp_updL m.2.1 p a, vp_updL m.2.2.1 p b, vf_upd m.2.2.2 p r)
/-- a value is written, no other cell is touched -/
def QW (H : QT) (ob : Int) (m m' : QM) (p : Nat) (v : QV) : Prop := ∃ k a b r, m' = QPU m p k a b r ∧ QOK H ob v ∧ QCE k a b r v
/-- something is written there -/
def QX (m m' : QM) (p : Nat) : Prop := ∃ k a b r, m' = QPU m p k a b r
def QRES (H : QT) (ob : Int) (m m' : QM) (p : Nat) (fl : Int) (o : QO) : Prop := match o with
  | .inl v => fl = 0 ∧ QW H ob m m' p v
  | .inr f => fl = f ∧ 1 ≤ f ∧ f ≤ 11 ∧ QX m m' p
section CEL
variable {H : QT} {ob : Int} {m m' m2 : QM} {p q : Nat} {v w : QV} {k : Int32} {a b x y : Int64} {r : UInt64} {s t : List Int} {fl : Int} {o : QO}
theorem QPU_self : QPU m p (m.1 p) (m.2.1 p) (m.2.2.1 p) (m.2.2.2 p) = m := by
  obtain ⟨f1, f2, f3, f4⟩ := m
  unfold QPU
  refine congr (congrArg Prod.mk ?_) (congr (congrArg Prod.mk ?_) (congr (congrArg Prod.mk ?_) ?_))
  · funext j; unfold upd; split <;> simp_all
  · funext j; unfold vp_updL; split <;> simp_all
  · funext j; unfold vp_updL; split <;> simp_all
  · funext j; unfold vf_upd; split <;> simp_all
theorem QAT.ok (h : QAT H ob m p v) : QOK H ob v := h.1
theorem QAT.self (h : QAT H ob m p v) : QW H ob m m p v := ⟨_, _, _, _, QPU_self.symm, h.1, h.2⟩
theorem QX.self : QX m m p := ⟨_, _, _, _, QPU_self.symm⟩
theorem QW.ex (h : QW H ob m m' p v) : QX m m' p := by
  obtain ⟨k, a, b, r, e, _, _⟩ := h; exact ⟨k, a, b, r, e⟩
theorem QPU_at : (QPU m p k a b r).1 p = k ∧ (QPU m p k a b r).2.1 p = a ∧ (QPU m p k a b r).2.2.1 p = b ∧ (QPU m p k a b r).2.2.2 p = r := ⟨upd_eq, updL_eq, updL_eq, vf_eq⟩
theorem QPU_ne (h : ¬ q = p) : (QPU m p k a b r).1 q = m.1 q ∧ (QPU m p k a b r).2.1 q = m.2.1 q ∧ (QPU m p k a b r).2.2.1 q = m.2.2.1 q ∧ (QPU m p k a b r).2.2.2 q = m.2.2.2 q := ⟨upd_ne h, updL_ne h, updL_ne h, vf_ne h⟩
theorem QW.at (h : QW H ob m m' p v) : QAT H ob m' p v := by
  obtain ⟨k, a, b, r, rfl, h1, h2⟩ := h
  refine ⟨h1, ?_⟩
  obtain ⟨e1, e2, e3, e4⟩ := QPU_at (m := m) (p := p) (k := k) (a := a) (b := b) (r := r)
  rw [e1, e2, e3, e4]; exact h2
theorem QX.ne (h : QX m m' p) (hq : ¬ q = p) (hw : QAT H ob m q w) : QAT H ob m' q w := by
  obtain ⟨k, a, b, r, rfl⟩ := h
  refine ⟨hw.1, ?_⟩
  obtain ⟨e1, e2, e3, e4⟩ := QPU_ne (m := m) (k := k) (a := a) (b := b) (r := r) hq
  rw [e1, e2, e3, e4]; exact hw.2
theorem QW.ne (h : QW H ob m m' p v) (hq : ¬ q = p) (hw : QAT H ob m q w) : QAT H ob m' q w := h.ex.ne hq hw
theorem QPU_two {k2 : Int32} {a2 b2 : Int64} {r2 : UInt64} : QPU (QPU m p k a b r) p k2 a2 b2 r2 = QPU m p k2 a2 b2 r2 := by
  unfold QPU
  refine congr (congrArg Prod.mk ?_) (congr (congrArg Prod.mk ?_) (congr (congrArg Prod.mk ?_) ?_))
  · funext j; unfold upd; split <;> simp_all
  · funext j; unfold vp_updL; split <;> simp_all
  · funext j; unfold vp_updL; split <;> simp_all
  · funext j; unfold vf_upd; split <;> simp_all
theorem QX.trans (h : QX m m' p) (h2 : QX m' m2 p) : QX m m2 p := by
  obtain ⟨k, a, b, r, rfl⟩ := h
  obtain ⟨k2, a2, b2, r2, rfl⟩ := h2
  exact ⟨k2, a2, b2, r2, QPU_two⟩
theorem QW.after (h : QX m m' p) (h2 : QW H ob m' m2 p v) : QW H ob m m2 p v := by
  obtain ⟨k, a, b, r, rfl⟩ := h
  obtain ⟨k2, a2, b2, r2, rfl, h3, h4⟩ := h2
  exact ⟨k2, a2, b2, r2, QPU_two, h3, h4⟩
theorem QRES.ex (h : QRES H ob m m' p fl o) : QX m m' p := by
  cases o with
  | inl v => exact h.2.ex
  | inr f => exact h.2.2.2
-- what kinds there are
theorem QOK.kd (h : QOK H ob v) : (0 ≤ v.1 ∧ v.1 ≤ 4) ∨ (8 ≤ v.1 ∧ v.1 < 13) := by
  rcases h with rfl | ⟨b, rfl⟩ | ⟨n, rfl⟩ | ⟨r, _, rfl⟩ | ⟨s, _, _, rfl⟩ | ⟨o, _, h1, h2, rfl⟩
  · exact Or.inl ⟨by decide, by decide⟩
  · exact Or.inl ⟨by show (0 : Int) ≤ 1; decide, by show (1 : Int) ≤ 4; decide⟩
  · exact Or.inl ⟨by show (0 : Int) ≤ 2; decide, by show (2 : Int) ≤ 4; decide⟩
  · exact Or.inl ⟨by show (0 : Int) ≤ 3; decide, by show (3 : Int) ≤ 4; decide⟩
  · exact Or.inl ⟨by show (0 : Int) ≤ 4; decide, by show (4 : Int) ≤ 4; decide⟩
  · exact Or.inr ⟨by show (8 : Int) ≤ 8 + H 11 o; omega, by show (8 : Int) + H 11 o < 13; omega⟩
theorem QOK.k0 (h : QOK H ob v) (e : v.1 = 0) : v = qNull := by
  rcases h with rfl | ⟨b, rfl⟩ | ⟨n, rfl⟩ | ⟨r, _, rfl⟩ | ⟨s, _, _, rfl⟩ | ⟨o, _, h1, h2, rfl⟩
  · rfl
  · exact absurd (show (1 : Int) = 0 from e) (by decide)
  · exact absurd (show (2 : Int) = 0 from e) (by decide)
  · exact absurd (show (3 : Int) = 0 from e) (by decide)
  · exact absurd (show (4 : Int) = 0 from e) (by decide)
  · have e : 8 + H 11 o = 0 := e
    omega
theorem QOK.k1 (h : QOK H ob v) (e : v.1 = 1) : ∃ b, v = qBool b := by
  rcases h with rfl | ⟨b, rfl⟩ | ⟨n, rfl⟩ | ⟨r, _, rfl⟩ | ⟨s, _, _, rfl⟩ | ⟨o, _, h1, h2, rfl⟩
  · exact absurd (show (0 : Int) = 1 from e) (by decide)
  · exact ⟨b, rfl⟩
  · exact absurd (show (2 : Int) = 1 from e) (by decide)
  · exact absurd (show (3 : Int) = 1 from e) (by decide)
  · exact absurd (show (4 : Int) = 1 from e) (by decide)
  · have e : 8 + H 11 o = 1 := e
    omega
theorem QOK.k2 (h : QOK H ob v) (e : v.1 = 2) : ∃ n, v = qInt n := by
  rcases h with rfl | ⟨b, rfl⟩ | ⟨n, rfl⟩ | ⟨r, _, rfl⟩ | ⟨s, _, _, rfl⟩ | ⟨o, _, h1, h2, rfl⟩
  · exact absurd (show (0 : Int) = 2 from e) (by decide)
  · exact absurd (show (1 : Int) = 2 from e) (by decide)
  · exact ⟨n, rfl⟩
  · exact absurd (show (3 : Int) = 2 from e) (by decide)
  · exact absurd (show (4 : Int) = 2 from e) (by decide)
  · have e : 8 + H 11 o = 2 := e
    omega
theorem QOK.k3 (h : QOK H ob v) (e : v.1 = 3) : ∃ r, FN r ∧ v = qReal r := by
  rcases h with rfl | ⟨b, rfl⟩ | ⟨n, rfl⟩ | ⟨r, h, rfl⟩ | ⟨s, _, _, rfl⟩ | ⟨o, _, h1, h2, rfl⟩
  · exact absurd (show (0 : Int) = 3 from e) (by decide)
  · exact absurd (show (1 : Int) = 3 from e) (by decide)
  · exact absurd (show (2 : Int) = 3 from e) (by decide)
  · exact ⟨r, h, rfl⟩
  · exact absurd (show (4 : Int) = 3 from e) (by decide)
  · have e : 8 + H 11 o = 3 := e
    omega
theorem QOK.k4 (h : QOK H ob v) (e : v.1 = 4) : ∃ s : List Int, s.length ≤ 16 ∧ (∀ c ∈ s, 0 ≤ c ∧ c < 128) ∧ v = qText s := by
  rcases h with rfl | ⟨b, rfl⟩ | ⟨n, rfl⟩ | ⟨r, _, rfl⟩ | ⟨s, h, h2, rfl⟩ | ⟨o, _, h1, h2, rfl⟩
  · exact absurd (show (0 : Int) = 4 from e) (by decide)
  · exact absurd (show (1 : Int) = 4 from e) (by decide)
  · exact absurd (show (2 : Int) = 4 from e) (by decide)
  · exact absurd (show (3 : Int) = 4 from e) (by decide)
  · exact ⟨s, h, h2, rfl⟩
  · have e : 8 + H 11 o = 4 := e
    omega
theorem QOK.k8 (h : QOK H ob v) (e : 8 ≤ v.1) : ∃ o : Nat, ((o : Int) < ob ∧ o < 30) ∧ 0 ≤ H 11 o ∧ H 11 o < 5 ∧ v = qObj H o := by
  rcases h with rfl | ⟨b, rfl⟩ | ⟨n, rfl⟩ | ⟨r, _, rfl⟩ | ⟨s, _, _, rfl⟩ | ⟨o, h0, h1, h2, rfl⟩
  · exact absurd (show (8 : Int) ≤ 0 from e) (by decide)
  · exact absurd (show (8 : Int) ≤ 1 from e) (by decide)
  · exact absurd (show (8 : Int) ≤ 2 from e) (by decide)
  · exact absurd (show (8 : Int) ≤ 3 from e) (by decide)
  · exact absurd (show (8 : Int) ≤ 4 from e) (by decide)
  · exact ⟨o, h0, h1, h2, rfl⟩
-- numbers of 64 bits
theorem q_nat (h : 0 ≤ x.toInt) : ((x.toBitVec.toNat : Nat) : Int) = x.toInt ∧ x.toBitVec.toNat < 9223372036854775808 := by
  have e : x.toInt = x.toBitVec.toInt := rfl
  have l := x.toBitVec.isLt
  rw [BitVec.toInt_eq_toNat_cond] at e
  split at e <;> omega
theorem q_ofn (h : x.toBitVec.toNat < 9223372036854775808) : x.toInt = (x.toBitVec.toNat : Int) := by
  have e : x.toInt = x.toBitVec.toInt := rfl
  rw [BitVec.toInt_eq_toNat_cond] at e
  split at e <;> omega
theorem q_sh63 : ∀ n : Fin 64, ((Int32.toInt64 (Int32.ofNat n.val) &&& 63).toBitVec.smod 64).toNat = n.val := by decide +kernel
theorem q_i32 {i : Int32} {n : Nat} (h : i.toInt = n) (hn : n < 64) : ((Int32.toInt64 i &&& 63).toBitVec.smod 64).toNat = n := by
  obtain rfl : i = Int32.ofNat n := Int32.toInt_inj.mp (by rw [h, Int32.toInt_ofNat_of_lt (by omega)])
  exact q_sh63 ⟨n, hn⟩
theorem q_shr {i : Int32} {n : Nat} (h : i.toInt = n) (hn : n < 64) : (x >>> (Int32.toInt64 i &&& 63)).toInt = x.toInt / 2 ^ n := by
  show (x >>> (Int32.toInt64 i &&& 63)).toBitVec.toInt = _
  rw [Int64.toBitVec_shiftRight, BitVec.sshiftRight_eq', q_i32 h hn, BitVec.toInt_sshiftRight, Int.shiftRight_eq_div_pow]
  rfl
theorem q_shl {i : Int32} {n c : Nat} (h : i.toInt = n) (hn : n < 64) (hx : x.toInt = c) (hb : c * 2 ^ n < 9223372036854775808) : (x <<< (Int32.toInt64 i &&& 63)).toInt = ((c * 2 ^ n : Nat) : Int) := by
  have e : (x <<< (Int32.toInt64 i &&& 63)).toBitVec.toNat = c * 2 ^ n := by
    have z := (q_nat (x := x) (by omega)).1
    have zc : x.toBitVec.toNat = c := by omega
    rw [Int64.toBitVec_shiftLeft, BitVec.shiftLeft_eq', q_i32 h hn, BitVec.toNat_shiftLeft, Nat.shiftLeft_eq, zc]
    exact Nat.mod_eq_of_lt (by omega)
  rw [q_ofn (by rw [e]; exact hb), e]
theorem q_and : (x &&& 127).toInt = x.toInt % 128 := by
  have e : (x &&& 127).toBitVec.toNat = x.toBitVec.toNat % 128 := by
    rw [Int64.toBitVec_and, BitVec.toNat_and]
    exact Nat.and_two_pow_sub_one_eq_mod x.toBitVec.toNat 7
  have l := x.toBitVec.isLt
  have f : x.toInt = x.toBitVec.toInt := rfl
  rw [BitVec.toInt_eq_toNat_cond] at f
  rw [q_ofn (by omega), e]
  split at f <;> omega
theorem q_orN {A P c k : Nat} (hP : P < 2 ^ k) (hc : c < 128) : (A * 2 ^ (k + 7) + P) ||| (c * 2 ^ k) = A * 2 ^ (k + 7) + P + c * 2 ^ k := by
  have e7 : 2 ^ (k + 7) = 2 ^ k * 128 := by rw [Nat.pow_add]
  have h1 : P < 2 ^ (k + 7) := by omega
  have h2 : c * 2 ^ k + P < 2 ^ (k + 7) := by
    have : (c + 1) * 2 ^ k ≤ 128 * 2 ^ k := Nat.mul_le_mul_right _ (by omega)
    rw [Nat.add_mul] at this
    omega
  have e1 := Nat.shiftLeft_add_eq_or_of_lt h1 A
  have e2 := Nat.shiftLeft_add_eq_or_of_lt hP c
  have e3 := Nat.shiftLeft_add_eq_or_of_lt h2 A
  rw [Nat.shiftLeft_eq] at e1 e2 e3
  rw [e1, Nat.or_assoc, Nat.or_comm P, ← e2, ← e3]
  omega
theorem q_or {A P c n : Nat} (hx : x.toInt = ((A * 2 ^ (n + 7) + P : Nat) : Int)) (hy : y.toInt = ((c * 2 ^ n : Nat) : Int)) (hP : P < 2 ^ n) (hc : c < 128) (hb : A * 2 ^ (n + 7) + P + c * 2 ^ n < 9223372036854775808) : (x ||| y).toInt = x.toInt + y.toInt := by
  have z1 := (q_nat (x := x) (by omega)).1
  have z2 := (q_nat (x := y) (by omega)).1
  have e : (x ||| y).toBitVec.toNat = A * 2 ^ (n + 7) + P + c * 2 ^ n := by
    rw [Int64.toBitVec_or, BitVec.toNat_or, show x.toBitVec.toNat = A * 2 ^ (n + 7) + P by omega, show y.toBitVec.toNat = c * 2 ^ n by omega]
    exact q_orN hP hc
  rw [q_ofn (by rw [e]; exact hb), e, hx, hy]
  omega
-- rows of characters
theorem qPk_b : ∀ s : List Int, (∀ c ∈ s, 0 ≤ c ∧ c < 128) → 0 ≤ qPk s ∧ qPk s < 128 ^ s.length
  | [], _ => ⟨Int.le_refl _, by show (0 : Int) < 1; decide⟩
  | c :: t, h => by
    have z := qPk_b t (fun x hx => h x (List.mem_cons_of_mem _ hx))
    have y := h c List.mem_cons_self
    have e : (128 : Int) ^ (c :: t).length = 128 ^ t.length * 128 := by rw [List.length_cons, Int.pow_succ]
    rw [e]
    show 0 ≤ c + 128 * qPk t ∧ c + 128 * qPk t < _
    omega
theorem qPk_snoc : ∀ (s : List Int) (c : Int), qPk (s ++ [c]) = qPk s + 128 ^ s.length * c
  | [], c => by show c + 128 * 0 = 0 + 1 * c; omega
  | d :: t, c => by
    show d + 128 * qPk (t ++ [c]) = d + 128 * qPk t + 128 ^ (d :: t).length * c
    rw [qPk_snoc t c, List.length_cons, Int.pow_succ, Int.mul_add, Int.mul_comm (128 ^ t.length) 128, Int.mul_assoc]
    omega
theorem qPk_get : ∀ (s : List Int) (i : Nat), (∀ c ∈ s, 0 ≤ c ∧ c < 128) → (qPk s / 128 ^ i) % 128 = s.getD i 0
  | [], i, _ => by show (0 / 128 ^ i) % 128 = 0; rw [Int.zero_ediv]; rfl
  | c :: t, 0, h => by
    have y := h c List.mem_cons_self
    show ((c + 128 * qPk t) / 1) % 128 = c
    omega
  | c :: t, i + 1, h => by
    have y := h c List.mem_cons_self
    have z := qPk_get t i (fun x hx => h x (List.mem_cons_of_mem _ hx))
    show ((c + 128 * qPk t) / 128 ^ (i + 1)) % 128 = t.getD i 0
    rw [Int.pow_succ, Int.mul_comm (128 ^ i) 128, ← Int.ediv_ediv_of_nonneg (show (0 : Int) ≤ 128 by decide), show (c + 128 * qPk t) / 128 = qPk t by omega]
    exact z
theorem q_take (h : ∀ c ∈ s, 0 ≤ c ∧ c < 128) (n : Nat) : ∀ c ∈ s.take n, 0 ≤ c ∧ c < 128 := fun c hc => h c (List.mem_of_mem_take hc)
theorem q_drop (h : ∀ c ∈ s, 0 ≤ c ∧ c < 128) (n : Nat) : ∀ c ∈ s.drop n, 0 ≤ c ∧ c < 128 := fun c hc => h c (List.mem_of_mem_drop hc)
theorem qPkA_b (h : ∀ c ∈ s, 0 ≤ c ∧ c < 128) : 0 ≤ qPk (s.take 8) ∧ qPk (s.take 8) < 72057594037927936 := by
  have z := qPk_b (s.take 8) (q_take h 8)
  have l : (s.take 8).length ≤ 8 := by rw [List.length_take]; omega
  have e : (128 : Int) ^ (s.take 8).length ≤ 128 ^ 8 := by exact_mod_cast Nat.pow_le_pow_right (n := 128) (by decide) l
  have e8 : (128 : Int) ^ 8 = 72057594037927936 := by decide
  omega
theorem q_len (ha : x.toInt = qPkA s) (hl : s.length ≤ 16) (h : ∀ c ∈ s, 0 ≤ c ∧ c < 128) : (LENF x).toInt = (s.length : Int) := by
  have z := qPkA_b h
  have e : (x >>> (Int32.toInt64 (56 : Int32) &&& 63)).toInt = x.toInt / 2 ^ 56 := q_shr (by decide +kernel) (by decide)
  have e2 : (2 : Int) ^ 56 = 72057594037927936 := by decide
  rw [e2, ha] at e
  unfold qPkA at e
  have k := z_l2i (x := LENF x) (y := x >>> (Int32.toInt64 (56 : Int32) &&& 63)) rfl (by omega) (by omega)
  omega
end CEL
