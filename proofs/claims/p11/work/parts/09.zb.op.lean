/-! ===== the reference: conversions, signs ===== -/
section QOPS
variable {H : QT} {ob : Int} {m m' : QM} {p : Nat} {v w : QV} {t s fl : Int} {x y : UInt64}
theorem qConv_4 (h : t = 4) : qConv v t = .inl (qText (qSpl v)) := by unfold qConv; rw [if_pos h]
theorem qConv_1 (h : t = 1) : qConv v t = qCvB v := by unfold qConv; rw [if_neg (by omega), if_pos h]
theorem qConv_2 (h : t = 2) : qConv v t = (match qCvI v with | some n => .inl (qInt (Int32.ofInt n)) | none => .inr 10) := by unfold qConv; rw [if_neg (by omega), if_neg (by omega), if_pos h]; rfl
theorem qConv_3 (h1 : ¬ t = 4) (h2 : ¬ t = 1) (h3 : ¬ t = 2) (hv : v.1 = 3) : qConv v t = .inl v := by unfold qConv; rw [if_neg h1, if_neg h2, if_neg h3, if_pos hv]
theorem qConv_r (h1 : ¬ t = 4) (h2 : ¬ t = 1) (h3 : ¬ t = 2) (hv : ¬ v.1 = 3) : qConv v t = (match qCvI v with | some n => .inl (qReal (FP.i2d (Int32.ofInt n))) | none => .inr 10) := by unfold qConv; rw [if_neg h1, if_neg h2, if_neg h3, if_neg hv]; rfl
theorem QRES.int {r : Int32} {k : Int32} {a b : Int64} {z : UInt64} {f0 : Int} (q : QI (qCvI v) r.toInt fl f0) (h0 : f0 = 0) (hk : k.toInt = 2) (ha : a.toInt = r.toInt) (hb : b.toInt = 0) : QRES H ob m (upd m.1 p k, vp_updL m.2.1 p a, vp_updL m.2.2.1 p b, vf_upd m.2.2.2 p z) p fl (match qCvI v with | some n => .inl (qInt (Int32.ofInt n)) | none => .inr 10) := by
  cases hc : qCvI v with
  | none => rw [hc] at q; exact ⟨q, by decide, by decide, QX.put⟩
  | some n =>
    rw [hc] at q
    refine ⟨q.2.trans h0, ?_⟩
    rw [show Int32.ofInt n = r by rw [← q.1]; exact q_ofInt]
    exact QW.int hk ha hb
theorem QRES.real {r : Int32} {k : Int32} {a b : Int64} {f0 : Int} (q : QI (qCvI v) r.toInt fl f0) (h0 : f0 = 0) (hk : k.toInt = 3) (hx : x = FP.i2d r) : QRES H ob m (upd m.1 p k, vp_updL m.2.1 p a, vp_updL m.2.2.1 p b, vf_upd m.2.2.2 p x) p fl (match qCvI v with | some n => .inl (qReal (FP.i2d (Int32.ofInt n))) | none => .inr 10) := by
  cases hc : qCvI v with
  | none => rw [hc] at q; exact ⟨q, by decide, by decide, QX.put⟩
  | some n =>
    rw [hc] at q
    refine ⟨q.2.trans h0, ?_⟩
    rw [show Int32.ofInt n = r by rw [← q.1]; exact q_ofInt, ← hx]
    exact QW.real hk (by rw [hx]; exact fp_i2d _)
theorem qRe_i {n : Int32} : qRe (qInt n) = FP.i2d n := by
  show FP.i2d (Int32.ofInt n.toInt) = _
  rw [q_ofInt]
theorem q_opfin (hx : FN x) (hy : FN y) (hz : ¬ s = 16 → ¬ s = 17 → ¬ s = 18 → qEq y FP.dconst0 = false) (h1 : qGt (qOp x y s) 4786511204640096256 = false) (h2 : qLt (qOp x y s) 14009883241494872064 = false) : FN (qOp x y s) := by
  have fin : ∀ r : UInt64, (∃ d, GD d ∧ r = UInt64.ofNat (Jvm.FP.Core.encode Jvm.FP.Core.b64 d)) → qGt r 4786511204640096256 = false → qLt r 14009883241494872064 = false → FN r := by
    rintro r ⟨d, g1, g2⟩ a b
    rcases fp_inf g1 g2 with h | h | h
    · exact h
    · rw [h] at a; exact absurd a (by decide +kernel)
    · rw [h] at b; exact absurd b (by decide +kernel)
  unfold qOp at h1 h2 ⊢
  by_cases e6 : s = 16
  · rw [if_pos e6] at h1 h2 ⊢; exact fin _ (fp_add hx hy) h1 h2
  · rw [if_neg e6] at h1 h2 ⊢
    by_cases e7 : s = 17
    · rw [if_pos e7] at h1 h2 ⊢; exact fin _ (fp_sub hx hy) h1 h2
    · rw [if_neg e7] at h1 h2 ⊢
      by_cases e8 : s = 18
      · rw [if_pos e8] at h1 h2 ⊢; exact fin _ (fp_mul hx hy) h1 h2
      · rw [if_neg e8] at h1 h2 ⊢
        refine fin _ (fp_div0 hx hy (fun h => ?_)) h1 h2
        have z := hz e6 e7 e8
        unfold qEq at z
        rw [h] at z
        exact absurd z (by decide +kernel)
theorem QOK.re (h : QOK H ob v) (hn : qNum v = true) : FN (qRe v) := by
  have hn := of_decide_eq_true hn
  rcases hn with e | e
  · obtain ⟨n, rfl⟩ := h.k2 e
    rw [qRe_i]; exact fp_i2d _
  · obtain ⟨r, hr, rfl⟩ := h.k3 e
    exact hr
theorem qInts_0 {a b : Int32} (h : 19 ≤ s) (hb : b = 0) : qInts a b s = .inr 2 := by unfold qInts; rw [if_pos ⟨h, hb⟩]
theorem qInts_n {a b : Int32} (h : ¬ (19 ≤ s ∧ b = 0)) : qInts a b s = .inl (qInt (if s = 16 then a + b else if s = 17 then a - b else if s = 18 then a * b else if s = 19 then a / b else a - a / b * b)) := by unfold qInts; rw [if_neg h]
end QOPS
