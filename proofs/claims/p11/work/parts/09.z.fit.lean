/-! ===== the reference: types, converters ===== -/
section QFT
variable {H : QT} {ob : Int} {m m' : QM} {p : Nat} {v : QV} {n c u t k : Int} {pa fi fn ft me mn on tw ac nu cv co : Nat → Int32} {s : List Int}
theorem CLS.qpa (h : CLS n pa fi me) : QPA (qH pa fi fn ft me mn on tw ac nu cv co) n := fun c hc => ⟨(h c hc).1, (h c hc).2.1⟩
/-- the steps so far -/
def QST (H : QT) (c u x k : Int) : Prop := 0 ≤ k ∧ qSteps (qAnc H c) u = if qSteps (qAnc H x) u < 0 then -1 else k + qSteps (qAnc H x) u
theorem QST.start : QST H c u c 0 := by
  have := qSteps_b (qAnc H c) u
  refine ⟨Int.le_refl _, ?_⟩
  split <;> omega
theorem QST.step {x x2 k2 : Int} (h : QST H c u x k) (hp : QPA H n) (h5 : n ≤ 5) (h0 : 0 ≤ x) (hn : x < n) (hu : ¬ x = u) (hx : x2 = H 0 x.toNat) (hk : k2 = k + 1) : QST H c u x2 k2 := by
  obtain ⟨h1, h2⟩ := h
  have b := qSteps_b (qAnc H (H 0 x.toNat)) u
  rw [qAnc_cons hp h0 hn h5] at h2
  have e : qSteps (x.toNat :: qAnc H (H 0 x.toNat)) u = if ((x.toNat : Nat) : Int) = u then 0 else if qSteps (qAnc H (H 0 x.toNat)) u < 0 then -1 else qSteps (qAnc H (H 0 x.toNat)) u + 1 := rfl
  rw [if_neg (by omega)] at e
  rw [e] at h2
  subst hx hk
  refine ⟨by omega, ?_⟩
  rw [h2]
  by_cases q : qSteps (qAnc H (H 0 x.toNat)) u < 0
  · rw [if_pos q, if_pos q]; rfl
  · rw [if_neg q, if_neg q, if_neg (by omega)]; omega
theorem QST.no {x : Int} (h : QST H c u x k) (h0 : x < 0) : qSteps (qAnc H c) u = -1 := by
  rw [h.2, qAnc_neg h0]; rfl
theorem QST.yes {x : Int} (h : QST H c u x k) (hp : QPA H n) (h5 : n ≤ 5) (h0 : 0 ≤ x) (hn : x < n) (hu : x = u) : qSteps (qAnc H c) u = k := by
  have e : qSteps (x.toNat :: qAnc H (H 0 x.toNat)) u = if ((x.toNat : Nat) : Int) = u then 0 else if qSteps (qAnc H (H 0 x.toNat)) u < 0 then -1 else qSteps (qAnc H (H 0 x.toNat)) u + 1 := rfl
  rw [if_pos (by omega)] at e
  rw [h.2, qAnc_cons hp h0 hn h5, e, if_neg (by decide)]; omega
theorem qThere_t {i : Int} (h : ¬ H 10 (5 * i + t).toNat = 0) : qThere H i t = true := decide_eq_true h
theorem qThere_f {i : Int} (h : H 10 (5 * i + t).toNat = 0) : qThere H i t = false := decide_eq_false (fun z => z h)
/-- the converters seen so far -/
def QRC (H : QT) (c t x g : Int) : Prop := (g = 0 ∨ g = 1) ∧ (qThere H 5 t || (qAnc H c).any (fun c => qThere H (8 + c) t)) = (decide (g = 1) || (qAnc H x).any (fun c => qThere H (8 + c) t))
theorem QRC.start {g x : Int} (hx : x = c) (hg : (g = 1 ∧ qThere H 5 t = true) ∨ (g = 0 ∧ qThere H 5 t = false)) : QRC H c t x g := by
  subst hx
  rcases hg with ⟨e, h⟩ | ⟨e, h⟩
  · subst e; exact ⟨Or.inr rfl, by rw [h]; rfl⟩
  · subst e; exact ⟨Or.inl rfl, by rw [h]; rfl⟩
theorem QRC.step {x x2 g g2 : Int} (h : QRC H c t x g) (hp : QPA H n) (h5 : n ≤ 5) (h0 : 0 ≤ x) (hn : x < n) (hx : x2 = H 0 x.toNat) (hg : (g2 = 1 ∧ (g = 1 ∨ qThere H (8 + x) t = true)) ∨ (g2 = 0 ∧ g = 0 ∧ qThere H (8 + x) t = false)) : QRC H c t x2 g2 := by
  obtain ⟨h1, h2⟩ := h
  subst hx
  unfold QRC
  rw [h2, qAnc_cons hp h0 hn h5, List.any_cons, show (8 : Int) + (x.toNat : Int) = 8 + x by omega]
  rcases hg with ⟨e, h | h⟩ | ⟨e, h, h3⟩
  · subst e h; exact ⟨Or.inr rfl, by simp⟩
  · subst e; exact ⟨Or.inr rfl, by rw [h]; simp⟩
  · subst e h; exact ⟨Or.inl rfl, by rw [h3]; simp⟩
theorem QRC.fin {x g : Int} (h : QRC H c t x g) (h0 : x < 0) : (qThere H 5 t || (qAnc H c).any (fun c => qThere H (8 + c) t)) = decide (g = 1) := by
  rw [h.2, qAnc_neg h0]; simp
theorem qReach_8 (h4 : t ≤ 4) (h8 : 8 ≤ v.1) : qReach H v t = (qThere H 5 t || (qAnc H (v.1 - 8)).any (fun c => qThere H (8 + c) t)) := by
  unfold qReach
  rw [decide_eq_true h4, if_pos h8]; rfl
theorem qReach_0 (h4 : t ≤ 4) (h8 : ¬ 8 ≤ v.1) : qReach H v t = (qThere H 5 t || (decide (¬ v.1 = 0) && qThere H v.1 t)) := by
  unfold qReach
  rw [decide_eq_true h4, if_neg h8]; rfl
theorem qReach_5 (h4 : ¬ t ≤ 4) : qReach H v t = false := by
  unfold qReach
  rw [decide_eq_false h4]; rfl
-- lengths and characters of what is spelled
theorem qSpl_ok (h : QOK H ob v) : (qSpl v).length ≤ 16 ∧ ∀ c ∈ qSpl v, 0 ≤ c ∧ c < 128 := by
  rcases h with rfl | ⟨b, rfl⟩ | ⟨n, rfl⟩ | ⟨r, _, rfl⟩ | ⟨s, h1, h2, rfl⟩ | ⟨o, h0, h1, h2, rfl⟩
  · exact ⟨by decide, by decide⟩
  · cases b
    · exact ⟨by decide, by decide⟩
    · exact ⟨by decide, by decide⟩
  · rw [qSpl_i]
    have l1 := n.le_toInt; have l2 := n.toInt_lt
    have z := qDec_len (v := n.toInt) (by omega) (by omega)
    exact ⟨by omega, fun c hc => by have := qDec_c hc; omega⟩
  · rw [qSpl_r]
    have l1 := (FP.d2i r).le_toInt; have l2 := (FP.d2i r).toInt_lt
    have z := qDec_len (v := (FP.d2i r).toInt) (by omega) (by omega)
    exact ⟨by omega, fun c hc => by have := qDec_c hc; omega⟩
  · exact ⟨h1, h2⟩
  · rw [qSpl_o h1]
    have z := qDec_len (v := (o : Int)) (by omega) (by omega)
    refine ⟨by rw [List.length_cons]; omega, fun c hc => ?_⟩
    rcases List.mem_cons.mp hc with rfl | hc
    · decide
    · have := qDec_c hc; omega
end QFT
