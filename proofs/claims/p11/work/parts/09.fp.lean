/-! ===== doubles: what is finite, and what the four ways of reckoning make of it ===== -/
def FN (x : UInt64) : Prop := ∃ (s : Bool) (c : Nat) (q : Int), Jvm.FP.Core.decode Jvm.FP.Core.b64 x.toNat = .fin s c q
def GD (d : Jvm.FP.Core.Datum) : Prop := match d with
  | .nan => False
  | .inf _ => True
  | .fin _ c q => c < 9007199254740992 ∧ q ≤ 971
theorem fp_low {n m : Nat} {s : Bool} (hn : n = s.toNat * 9223372036854775808 + m) (hm : m < 9218868437227405312) : vf_n64 (UInt64.ofNat n) ∧ FN (UInt64.ofNat n) := by
  have hs : s.toNat ≤ 1 := by cases s <;> decide
  have h1 : (UInt64.ofNat n).toNat = n := by
    rw [UInt64.toNat_ofNat']
    exact Nat.mod_eq_of_lt (by omega)
  constructor
  · unfold vf_n64
    rw [UInt64.le_iff_toNat_le, UInt64.toNat_and, h1]
    have e1 : (0x7fffffffffffffff : UInt64).toNat = 2 ^ 63 - 1 := by decide +kernel
    have e2 : (0x7ff0000000000000 : UInt64).toNat = 9218868437227405312 := by decide +kernel
    rw [e1, e2, Nat.and_two_pow_sub_one_eq_mod]
    omega
  · unfold FN
    rw [h1]
    unfold Jvm.FP.Core.decode
    have e3 : Jvm.FP.Core.fieldE Jvm.FP.Core.b64 n = n / 4503599627370496 % 2048 := rfl
    have e4 : Jvm.FP.Core.Fmt.exps Jvm.FP.Core.b64 = 2048 := rfl
    rw [e3, e4, if_neg (by omega)]
    split
    · exact ⟨_, _, _, rfl⟩
    · exact ⟨_, _, _, rfl⟩
theorem fp_enc {d : Jvm.FP.Core.Datum} (h : GD d) : vf_n64 (UInt64.ofNat (Jvm.FP.Core.encode Jvm.FP.Core.b64 d)) ∧ (FN (UInt64.ofNat (Jvm.FP.Core.encode Jvm.FP.Core.b64 d)) ∨ ∃ s, d = .inf s) := by
  cases d with
  | nan => exact absurd h id
  | inf s => refine ⟨?_, Or.inr ⟨s, rfl⟩⟩; cases s <;> (unfold vf_n64; decide +kernel)
  | fin s c q =>
    obtain ⟨h1, h2⟩ := h
    have e0 : Jvm.FP.Core.Fmt.tails Jvm.FP.Core.b64 = 4503599627370496 := rfl
    have e1 : Jvm.FP.Core.Fmt.qmin Jvm.FP.Core.b64 = -1074 := rfl
    have e2 : Jvm.FP.Core.Fmt.exps Jvm.FP.Core.b64 = 2048 := rfl
    unfold Jvm.FP.Core.encode
    simp only []
    split
    · rename_i hc
      rw [e0] at hc
      have := fp_low (n := Jvm.FP.Core.assemble Jvm.FP.Core.b64 s 0 c) (s := s) (m := c) (by unfold Jvm.FP.Core.assemble; rw [e0, e2]; omega) (by omega)
      exact ⟨this.1, Or.inl this.2⟩
    · rename_i hc
      rw [e0] at hc
      have := fp_low (n := Jvm.FP.Core.assemble Jvm.FP.Core.b64 s ((q - Jvm.FP.Core.Fmt.qmin Jvm.FP.Core.b64).toNat + 1) (c - Jvm.FP.Core.Fmt.tails Jvm.FP.Core.b64)) (s := s) (m := ((q + 1074).toNat + 1) * 4503599627370496 + (c - 4503599627370496)) (by unfold Jvm.FP.Core.assemble; rw [e0, e1, e2, show q - -1074 = q + 1074 by omega]; omega) (by omega)
      exact ⟨this.1, Or.inl this.2⟩
theorem fp_settle (s : Bool) (c : Nat) (q : Int) : GD (Jvm.FP.Core.settle Jvm.FP.Core.b64 s c q) := by
  have e0 : Jvm.FP.Core.Fmt.tails Jvm.FP.Core.b64 = 4503599627370496 := rfl
  have e1 : Jvm.FP.Core.Fmt.qmax Jvm.FP.Core.b64 = 971 := rfl
  have e2 : (2 : Nat) ^ Jvm.FP.Core.b64.p = 9007199254740992 := rfl
  unfold Jvm.FP.Core.settle Jvm.FP.Core.bound
  rw [e0, e1, e2]
  split <;> split
  · rename_i a b; exact ⟨a, b⟩
  · trivial
  · rename_i a b; exact ⟨by omega, b⟩
  · trivial
theorem fp_ratio (s : Bool) (a b : Nat) (e : Int) : GD (Jvm.FP.Core.roundRatio Jvm.FP.Core.b64 s a b e) := by
  unfold Jvm.FP.Core.roundRatio
  split
  · have e1 : Jvm.FP.Core.Fmt.qmin Jvm.FP.Core.b64 = -1074 := rfl
    rw [e1]; exact ⟨by omega, by omega⟩
  · unfold Jvm.FP.Core.roundAt; exact fp_settle _ _ _
theorem fp_add {x y : UInt64} (hx : FN x) (hy : FN y) : ∃ d, GD d ∧ FP.dadd x y = UInt64.ofNat (Jvm.FP.Core.encode Jvm.FP.Core.b64 d) := by
  obtain ⟨s, c, q, hx⟩ := hx
  obtain ⟨t, d, r, hy⟩ := hy
  refine ⟨_, ?_, rfl⟩
  rw [hx, hy]
  exact fp_ratio _ _ _ _
theorem fp_sub {x y : UInt64} (hx : FN x) (hy : FN y) : ∃ d, GD d ∧ FP.dsub x y = UInt64.ofNat (Jvm.FP.Core.encode Jvm.FP.Core.b64 d) := by
  obtain ⟨s, c, q, hx⟩ := hx
  obtain ⟨t, d, r, hy⟩ := hy
  refine ⟨_, ?_, rfl⟩
  rw [hx, hy]
  exact fp_ratio _ _ _ _
theorem fp_mul {x y : UInt64} (hx : FN x) (hy : FN y) : ∃ d, GD d ∧ FP.dmul x y = UInt64.ofNat (Jvm.FP.Core.encode Jvm.FP.Core.b64 d) := by
  obtain ⟨s, c, q, hx⟩ := hx
  obtain ⟨t, d, r, hy⟩ := hy
  refine ⟨_, ?_, rfl⟩
  rw [hx, hy]
  exact fp_ratio _ _ _ _
theorem fp_div {x y : UInt64} {s t : Bool} {c d : Nat} {q r : Int} (hx : Jvm.FP.Core.decode Jvm.FP.Core.b64 x.toNat = .fin s c q) (hy : Jvm.FP.Core.decode Jvm.FP.Core.b64 y.toNat = .fin t d r) (h0 : ¬ d = 0) : ∃ d, GD d ∧ FP.ddiv x y = UInt64.ofNat (Jvm.FP.Core.encode Jvm.FP.Core.b64 d) := by
  refine ⟨_, ?_, rfl⟩
  rw [hx, hy]
  unfold Jvm.FP.Core.quotient
  simp only []
  rw [if_neg h0]
  exact fp_ratio _ _ _ _
theorem fp_settle_fin {s : Bool} {c : Nat} {q : Int} (hq : q + 1 ≤ 971) : ∃ c' q', Jvm.FP.Core.settle Jvm.FP.Core.b64 s c q = .fin s c' q' := by
  have e1 : Jvm.FP.Core.Fmt.qmax Jvm.FP.Core.b64 = 971 := rfl
  unfold Jvm.FP.Core.settle Jvm.FP.Core.bound
  rw [e1]
  split
  · first | exact ⟨_, _, rfl⟩ | (rw [if_pos (by omega)]; exact ⟨_, _, rfl⟩)
  · first | exact ⟨_, _, rfl⟩ | (rw [if_pos (by omega)]; exact ⟨_, _, rfl⟩)
theorem fp_ratio_fin {s : Bool} {a : Nat} (ha : a < 2 ^ 64) : ∃ c' q', Jvm.FP.Core.roundRatio Jvm.FP.Core.b64 s a 1 0 = .fin s c' q' := by
  unfold Jvm.FP.Core.roundRatio
  split
  · exact ⟨_, _, rfl⟩
  · rename_i h0
    unfold Jvm.FP.Core.roundAt
    refine fp_settle_fin ?_
    have h1 : a.log2 < 64 := (Nat.log2_lt h0).mpr ha
    have h2 : Jvm.FP.Core.leading a 1 ≤ 63 := by
      unfold Jvm.FP.Core.leading
      simp only []
      have : (Nat.log2 1 : Int) = 0 := by decide
      split <;> omega
    unfold Jvm.FP.Core.quantum
    have e1 : Jvm.FP.Core.Fmt.qmin Jvm.FP.Core.b64 = -1074 := rfl
    have e2 : (Jvm.FP.Core.b64.p : Int) = 53 := rfl
    rw [e1, e2]
    omega
theorem fp_fin {d : Jvm.FP.Core.Datum} (h : GD d) (hf : ∃ s c q, d = .fin s c q) : FN (UInt64.ofNat (Jvm.FP.Core.encode Jvm.FP.Core.b64 d)) := by
  rcases (fp_enc h).2 with k | ⟨s, k⟩
  · exact k
  · obtain ⟨s', c, q, e⟩ := hf
    rw [e] at k; cases k
theorem fp_i2d (x : Int32) : FN (FP.i2d x) := by
  have h : GD (Jvm.FP.Core.round Jvm.FP.Core.b64 (Jvm.FP.Core.ofInt x.toInt)) := fp_ratio _ _ _ _
  have u := x.toInt_lt; have v := x.le_toInt
  obtain ⟨c, q, e⟩ := fp_ratio_fin (s := decide (x.toInt < 0)) (a := x.toInt.natAbs) (by omega)
  exact fp_fin h ⟨_, c, q, e⟩
theorem fp_l2d (x : Int64) : FN (FP.l2d x) := by
  have h : GD (Jvm.FP.Core.round Jvm.FP.Core.b64 (Jvm.FP.Core.ofInt x.toInt)) := fp_ratio _ _ _ _
  have u := x.toInt_lt; have v := x.le_toInt
  obtain ⟨c, q, e⟩ := fp_ratio_fin (s := decide (x.toInt < 0)) (a := x.toInt.natAbs) (by omega)
  exact fp_fin h ⟨_, c, q, e⟩
theorem fp_FN_iff (x : UInt64) : FN x ↔ ¬ x.toNat / 4503599627370496 % 2048 = 2047 := by
  unfold FN Jvm.FP.Core.decode
  have e3 : Jvm.FP.Core.fieldE Jvm.FP.Core.b64 x.toNat = x.toNat / 4503599627370496 % 2048 := rfl
  have e4 : Jvm.FP.Core.Fmt.exps Jvm.FP.Core.b64 = 2048 := rfl
  rw [e3, e4]
  by_cases h : x.toNat / 4503599627370496 % 2048 = 2047
  · rw [if_pos h]
    constructor
    · rintro ⟨s, c, q, e⟩
      split at e <;> cases e
    · exact fun k => absurd h k
  · rw [if_neg h]
    refine ⟨fun _ => h, fun _ => ?_⟩
    split
    · exact ⟨_, _, _, rfl⟩
    · exact ⟨_, _, _, rfl⟩
theorem fp_neg {x : UInt64} (hx : FN x) : FN (FP.dneg x) := by
  rw [fp_FN_iff] at *
  have e : (FP.dneg x).toNat % 2 ^ 63 = x.toNat % 2 ^ 63 := by
    show (x ^^^ 0x8000000000000000).toNat % 2 ^ 63 = _
    rw [UInt64.toNat_xor, Nat.xor_mod_two_pow]
    have : (0x8000000000000000 : UInt64).toNat % 2 ^ 63 = 0 := by decide +kernel
    rw [this, Nat.xor_zero]
  omega
theorem fp_n {x : UInt64} {d : Jvm.FP.Core.Datum} (h : GD d) (hx : x = UInt64.ofNat (Jvm.FP.Core.encode Jvm.FP.Core.b64 d)) : vf_n64 x := by rw [hx]; exact (fp_enc h).1
theorem fp_inf {x : UInt64} {d : Jvm.FP.Core.Datum} (h : GD d) (hx : x = UInt64.ofNat (Jvm.FP.Core.encode Jvm.FP.Core.b64 d)) : FN x ∨ x = 0x7ff0000000000000 ∨ x = 0xfff0000000000000 := by
  rcases (fp_enc h).2 with k | ⟨s, k⟩
  · exact Or.inl (by rw [hx]; exact k)
  · right
    rw [hx, k]
    cases s
    · exact Or.inl (by decide +kernel)
    · exact Or.inr (by decide +kernel)
/-- a divisor that doesn't compare as 0.0 isn't 0 -/
theorem fp_div0 {x y : UInt64} (hx : FN x) (hy : FN y) (h0 : ¬ FP.dcmp y FP.dconst0 = some .eq) : ∃ d, GD d ∧ FP.ddiv x y = UInt64.ofNat (Jvm.FP.Core.encode Jvm.FP.Core.b64 d) := by
  obtain ⟨s, c, q, hx⟩ := hx
  obtain ⟨t, d, r, hy⟩ := hy
  refine fp_div hx hy (fun hd => h0 ?_)
  subst hd
  have e0 : Jvm.FP.Core.decode Jvm.FP.Core.b64 (FP.dconst0).toNat = .fin false 0 (-1074) := by decide +kernel
  show Jvm.FP.Core.order (Jvm.FP.Core.decode Jvm.FP.Core.b64 y.toNat) (Jvm.FP.Core.decode Jvm.FP.Core.b64 (FP.dconst0).toNat) = some .eq
  rw [hy, e0]
  unfold Jvm.FP.Core.order Jvm.FP.Core.inUnits Jvm.FP.Core.signed
  simp
theorem fp_k10 : FN 4621819117588971520 := (fp_FN_iff _).mpr (by decide +kernel)
theorem fp_k100 : FN 4636737291354636288 := (fp_FN_iff _).mpr (by decide +kernel)
theorem fp_k1000 : FN 4652007308841189376 := (fp_FN_iff _).mpr (by decide +kernel)
theorem fp_k0 : FN FP.dconst0 := (fp_FN_iff _).mpr (by decide +kernel)
