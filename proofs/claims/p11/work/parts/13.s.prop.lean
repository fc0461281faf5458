/-! ===== the reference: properties ===== -/
/-- the objects' fields -/
def QFL (H : QT) (ob : Int) (m : QM) (fl : Nat → Nat → QV) : Prop := ∀ o f : Nat, (o : Int) < ob → f < 30 → QAT H ob m (80 + 30 * o + f) (fl o f)
section QPR
variable {H : QT} {ob : Int} {m m' : QM} {p q : Nat} {v w : QV} {n x nm : Int} {fl : Nat → Nat → QV} {s : Bool} {pa fi fn ft me mn on tw ac nu cv co : Nat → Int32}
theorem QW.copy (h : QAT H ob m q w) : QW H ob m (upd m.1 p (m.1 q), vp_updL m.2.1 p (m.2.1 q), vp_updL m.2.2.1 p (m.2.2.1 q), vf_upd m.2.2.2 p (m.2.2.2 q)) p w := ⟨_, _, _, _, rfl, h.1, h.2⟩
theorem qAncF_b (h : QPA H n) : ∀ (f : Nat) (c : Int), c < n → ∀ x ∈ qAncF H f c, (x : Int) < n
  | 0, _, _, x, hx => absurd hx List.not_mem_nil
  | f + 1, c, hc, x, hx => by
    have hx : x ∈ (if c < 0 then [] else c.toNat :: qAncF H f (H 0 c.toNat)) := hx
    by_cases q : c < 0
    · rw [if_pos q] at hx; exact absurd hx List.not_mem_nil
    · rw [if_neg q] at hx
      rcases List.mem_cons.mp hx with rfl | hx
      · omega
      · exact qAncF_b h f _ (by have := h c.toNat (by omega); omega) x hx
theorem qFst_b {p : Nat → Bool} : ∀ (n k : Nat), qFst p n = some k → k < n ∧ p k = true
  | 0, k, h => by cases h
  | n + 1, k, h => by
    have h : (match qFst p n with | some k => some k | none => if p n then some n else none) = some k := h
    cases e : qFst p n with
    | some j =>
      rw [e] at h
      have h := Option.some.inj h
      subst h
      have z := qFst_b n j e
      exact ⟨by omega, z.2⟩
    | none =>
      rw [e] at h
      have h : (if p n then some n else none) = some k := h
      by_cases q : p n = true
      · rw [if_pos q] at h
        have h := Option.some.inj h
        subst h
        exact ⟨Nat.lt_succ_self _, q⟩
      · rw [if_neg q] at h; cases h
theorem qFldL_b {f : Nat} : ∀ l : List Nat, (∀ c ∈ l, c < 5 ∧ H 1 c ≤ 6) → qFldL H l nm = some f → f < 30
  | [], _, h => by cases h
  | c :: t, hl, h => by
    have h : (match qOwn H c nm with | some k => some (6 * c + k) | none => qFldL H t nm) = some f := h
    have z := hl c List.mem_cons_self
    cases e : qOwn H c nm with
    | some k =>
      rw [e] at h
      have h := Option.some.inj h
      have y := (qFst_b _ _ e).1
      omega
    | none =>
      rw [e] at h
      exact qFldL_b t (fun c hc => hl c (List.mem_cons_of_mem _ hc)) h
theorem CLS.fb {f : Nat} (h : CLS n pa fi me) (h5 : n ≤ 5) (hx : x < n) (e : qFldL (qH pa fi fn ft me mn on tw ac nu cv co) (qAnc (qH pa fi fn ft me mn on tw ac nu cv co) x) nm = some f) : f < 30 :=
  qFldL_b _ (fun c hc => by
    have z := qAncF_b h.qpa 6 x hx c hc
    have y := h c z
    exact ⟨by omega, by show (fi c).toInt ≤ 6; omega⟩) e
theorem qProp_0 (h : v.1 = 0) : qProp H fl v nm s = if s then .inl v else .inr 4 := by unfold qProp; rw [if_pos h]
theorem qProp_l (h0 : ¬ v.1 = 0) (h : v.1 = 4 ∧ nm = 8897) : qProp H fl v nm s = .inl (qInt (Int32.ofNat v.2.2.1.length)) := by unfold qProp; rw [if_neg h0, if_pos h]
theorem qProp_f (h0 : ¬ v.1 = 0) (h : ¬ (v.1 = 4 ∧ nm = 8897)) : qProp H fl v nm s = match qFld H v nm with | some f => .inl (fl v.2.1.toNat f) | none => .inr 5 := by unfold qProp; rw [if_neg h0, if_neg h]; rfl
end QPR
