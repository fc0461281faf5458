/-! ===== a quotient by 10, 100, 1000 is finite ===== -/
theorem fp_dec {x : UInt64} {s : Bool} {c : Nat} {q : Int} (h : Jvm.FP.Core.decode Jvm.FP.Core.b64 x.toNat = .fin s c q) : c < 2 ^ 53 ∧ q ≤ 971 := by
  unfold Jvm.FP.Core.decode at h
  have e3 : Jvm.FP.Core.fieldE Jvm.FP.Core.b64 x.toNat = x.toNat / 4503599627370496 % 2048 := rfl
  have e4 : Jvm.FP.Core.Fmt.exps Jvm.FP.Core.b64 = 2048 := rfl
  have e5 : Jvm.FP.Core.fieldT Jvm.FP.Core.b64 x.toNat = x.toNat % 4503599627370496 := rfl
  have e6 : Jvm.FP.Core.Fmt.qmin Jvm.FP.Core.b64 = -1074 := rfl
  have e7 : Jvm.FP.Core.Fmt.tails Jvm.FP.Core.b64 = 4503599627370496 := rfl
  rw [e3, e4, e5, e6, e7] at h
  split at h
  · split at h <;> cases h
  · split at h
    · injection h with h1 h2 h3; omega
    · injection h with h1 h2 h3; omega
theorem fp_divk {x y : UInt64} {t : Bool} {d : Nat} {r : Int} (hx : FN x) (hy : Jvm.FP.Core.decode Jvm.FP.Core.b64 y.toNat = .fin t d r) (hd : 4503599627370496 ≤ d) (hr : -50 ≤ r) : FN (FP.ddiv x y) := by
  obtain ⟨s, c, q, hx⟩ := hx
  obtain ⟨hc, hq⟩ := fp_dec hx
  have h : GD (Jvm.FP.Core.roundRatio Jvm.FP.Core.b64 (s != t) c d (q - r)) := fp_ratio _ _ _ _
  have e : ∃ c' q', Jvm.FP.Core.roundRatio Jvm.FP.Core.b64 (s != t) c d (q - r) = .fin (s != t) c' q' := by
    unfold Jvm.FP.Core.roundRatio
    split
    · exact ⟨_, _, rfl⟩
    · rename_i h0
      unfold Jvm.FP.Core.roundAt
      refine fp_settle_fin ?_
      have h1 : c.log2 < 53 := (Nat.log2_lt h0).mpr hc
      have h3 : 52 ≤ d.log2 := (Nat.le_log2 (by omega)).mpr (by omega)
      have h2 : Jvm.FP.Core.leading c d ≤ 0 := by
        unfold Jvm.FP.Core.leading
        simp only []
        split <;> omega
      unfold Jvm.FP.Core.quantum
      have e1 : Jvm.FP.Core.Fmt.qmin Jvm.FP.Core.b64 = -1074 := rfl
      have e2 : (Jvm.FP.Core.b64.p : Int) = 53 := rfl
      rw [e1, e2]
      omega
  have k : FP.ddiv x y = UInt64.ofNat (Jvm.FP.Core.encode Jvm.FP.Core.b64 (Jvm.FP.Core.roundRatio Jvm.FP.Core.b64 (s != t) c d (q - r))) := by
    show UInt64.ofNat (Jvm.FP.Core.div Jvm.FP.Core.b64 x.toNat y.toNat) = _
    unfold Jvm.FP.Core.div
    rw [hx, hy]
    unfold Jvm.FP.Core.quotient
    simp only []
    rw [if_neg (by omega)]
  rw [k]
  obtain ⟨c', q', e⟩ := e
  exact fp_fin h ⟨_, c', q', e⟩
theorem fp_d10 {x : UInt64} (h : FN x) : FN (FP.ddiv x 4621819117588971520) := fp_divk h (t := false) (d := 5629499534213120) (r := -49) (by decide +kernel) (by omega) (by omega)
theorem fp_d100 {x : UInt64} (h : FN x) : FN (FP.ddiv x 4636737291354636288) := fp_divk h (t := false) (d := 7036874417766400) (r := -46) (by decide +kernel) (by omega) (by omega)
theorem fp_d1000 {x : UInt64} (h : FN x) : FN (FP.ddiv x 4652007308841189376) := fp_divk h (t := false) (d := 8796093022208000) (r := -43) (by decide +kernel) (by omega) (by omega)
/-- a real is written twice in its cell -/
theorem vf_two {f : Nat → UInt64} {k j : Nat} {v w : UInt64} (h : k = j) : vf_upd (vf_upd f k v) j w = vf_upd f k w := by subst h; exact vf_twice
