/-! ===== the class: converters ===== -/
/-- the converters say the tables; NULL has none -/
def CVq (F : Nat → Int32) (H : QT) : Prop := (∀ k : Nat, k < 65 → (F k).toInt = H 10 k) ∧ ∀ k : Nat, k < 5 → H 10 k = 0
/-- a converter to a type that values are converted to -/
def qTh (H : QT) (i t : Int) : Bool := decide (t ≤ 4) && qThere H i t
section CONs
variable {P P' : PL} {sa : Nat → Nat} {q7 q8 : Nat → Option Nat} {b f x : Nat} {v : QV} {H : QT} {n t : Int} {F9 : Nat → Int32} {y : Option Nat}
theorem qTh.t9 {i : Int} (h : qTh H i t = true) : t ≤ 4 ∧ qThere H i t = true := by
  unfold qTh at h
  rw [Bool.and_eq_true] at h
  exact ⟨of_decide_eq_true h.1, h.2⟩
theorem qTh.f9 {i : Int} (h4 : t ≤ 4) (h : qTh H i t = false) : qThere H i t = false := by
  unfold qTh at h
  rw [decide_eq_true h4] at h
  exact h
theorem qTh.of9 {i : Int} (h1 : 1 ≤ t) (C : CVq F9 H) (hi : 0 ≤ i) (hi2 : i ≤ 12) {z : Int32} (hz : t ≤ 4 → F9 (5 * i + t).toNat = z) : (z.toInt = 0 → qTh H i t = false) ∧ (t ≤ 4 → ¬ z.toInt = 0 → qTh H i t = true) := by
  refine ⟨fun e => ?_, fun h4 e => ?_⟩
  · unfold qTh
    by_cases h4 : t ≤ 4
    · rw [qThere_f (by rw [← C.1 _ (by omega), hz h4]; exact e)]
      exact Bool.and_false _
    · rw [decide_eq_false h4] <;> rfl
  · unfold qTh
    rw [decide_eq_true h4, qThere_t (by rw [← C.1 _ (by omega), hz h4]; exact e)] <;> rfl
theorem qTh.no9 {i : Int} (h4 : ¬ t ≤ 4) : qTh H i t = false := by
  unfold qTh
  rw [decide_eq_false h4] <;> rfl
theorem VALq.re5 (h5 : qTh H 5 t = true) : qReach H v t = true := by
  obtain ⟨h4, h5⟩ := qTh.t9 h5
  unfold qReach
  rw [decide_eq_true h4, h5] <;> rfl
theorem VALq.rek (F : FAMq P q7 H n) (h : VALq P sa q7 q8 b v) (C : CVq F9 H) (h1 : 1 ≤ t) (hk : qTh H v.1 t = true) : qReach H v t = true := by
  obtain ⟨h4, hk⟩ := qTh.t9 hk
  by_cases g : 8 ≤ v.1
  · rw [qReach_8 h4 g, qAnc_cons F.2.1 (by omega) (h.l9 F g) F.1]
    have e : (8 + (((v.1 - 8).toNat : Nat) : Int)) = v.1 := by omega
    rw [List.any_cons, e, hk]
    cases qThere H 5 t <;> rfl
  · rw [qReach_0 h4 g, hk]
    have n0 : ¬ v.1 = 0 := fun e => by
      rw [e] at hk
      have w : ¬ H 10 (5 * 0 + t).toNat = 0 := of_decide_eq_true hk
      exact w (C.2 _ (by omega))
    rw [decide_eq_true n0]
    cases qThere H 5 t <;> rfl
theorem VALq.re0 (h : VALq P sa q7 q8 b v) (h5 : qTh H 5 t = false) (hk : qTh H v.1 t = false) (h1 : oR P 1 b = none) : qReach H v t = false := by
  have g := h.no9 h1
  by_cases h4 : t ≤ 4
  · rw [qReach_0 h4 (by omega), qTh.f9 h4 h5, qTh.f9 h4 hk, Bool.and_false] <;> rfl
  · exact qReach_5 h4
theorem VALq.re1 (F : FAMq P q7 H n) (h : VALq P sa q7 q8 b v) (h5 : qTh H 5 t = false) (hk : qTh H v.1 t = false) (h1 : oR P 1 b = some x) (h2 : oR P 9 x = some f) (h3 : oR P 6 f = y) : ∃ w : Int, FPq q7 n w y ∧ qReach H v t = (decide (t ≤ 4) && (qAnc H w).any (fun c => qThere H (8 + c) t)) := by
  obtain ⟨g, k⟩ := h.f9 F h1 h2
  obtain ⟨g1, g2, g3, g4, g5, g6⟩ := k.up9 F rfl h3
  refine ⟨_, g1, ?_⟩
  by_cases h4 : t ≤ 4
  · rw [qReach_8 h4 g, qAnc_cons F.2.1 g2 g3 F.1, List.any_cons, qTh.f9 h4 h5]
    have e : (8 + (((v.1 - 8).toNat : Nat) : Int)) = v.1 := by omega
    rw [e, qTh.f9 h4 hk, decide_eq_true h4] <;> rfl
  · rw [qReach_5 h4, decide_eq_false h4] <;> rfl
theorem FPq.re9 {w : Int} (F : FAMq P q7 H n) (k : FPq q7 n w (some f)) (h3 : oR P 6 f = y) {K : Int} (hK : (oI P 7 f).toInt = K) : (qTh H K t = false → FPq q7 n (H 0 w.toNat) y ∧ (decide (t ≤ 4) && (qAnc H w).any (fun c => qThere H (8 + c) t)) = (decide (t ≤ 4) && (qAnc H (H 0 w.toNat)).any (fun c => qThere H (8 + c) t))) ∧ (qTh H K t = true → (decide (t ≤ 4) && (qAnc H w).any (fun c => qThere H (8 + c) t)) = true) := by
  obtain ⟨g1, g2, g3, g4, g5, g6⟩ := k.up9 F rfl h3
  have e : (8 + ((w.toNat : Nat) : Int)) = K := by omega
  refine ⟨fun hk => ⟨g1, ?_⟩, fun hk => ?_⟩
  · by_cases h4 : t ≤ 4
    · rw [qAnc_cons F.2.1 g2 g3 F.1, List.any_cons, e, qTh.f9 h4 hk] <;> rfl
    · rw [decide_eq_false h4] <;> rfl
  · obtain ⟨h4, hk⟩ := qTh.t9 hk
    rw [qAnc_cons F.2.1 g2 g3 F.1, List.any_cons, e, hk, decide_eq_true h4] <;> rfl
theorem FPq.rz9 {w : Int} (k : FPq q7 n w none) : (decide (t ≤ 4) && (qAnc H w).any (fun c => qThere H (8 + c) t)) = false := by
  rw [qAnc_neg k.no9]
  exact Bool.and_false _
theorem VALq.kb9 (h : VALq P sa q7 q8 b v) : 0 ≤ v.1 ∧ v.1 ≤ 12 := by
  obtain ⟨g1, g2, _⟩ := h.q9
  exact ⟨g1, by omega⟩
theorem TXq.true9 : TXq P sa (sa 400) [116, 114, 117, 101] := Or.inr ⟨400, Or.inr (Or.inl rfl), rfl, by decide⟩
theorem TXq.false9 : TXq P sa (sa 401) [102, 97, 108, 115, 101] := Or.inr ⟨401, Or.inr (Or.inr (Or.inl rfl)), rfl, by decide⟩
theorem TXq.null9 : TXq P sa (sa 402) [110, 117, 108, 108] := Or.inr ⟨402, Or.inr (Or.inr (Or.inr rfl)), rfl, by decide⟩
theorem VALq.i9 (h : VALq P sa q7 q8 b v) (h4 : ¬ v.1 = 4) : qCvI v = some (oI P 1 b).toInt := by
  unfold qCvI
  rw [if_neg h4]
  congr 1
  unfold qIn
  by_cases h3 : v.1 = 3
  · rw [if_pos h3]
    have w := h.2.2.2.1
    unfold qRes at w
    rw [if_neg (by decide), if_pos rfl, if_pos h3] at w
    exact w.symm
  · rw [if_neg h3, ← h.n9 h3 h4, Int32.ofInt_toInt]
theorem QI.none9 {o : Option Int} {r : Int} (h : QI o r 10 0) : o = none := by
  cases o with
  | none => rfl
  | some z => exact absurd h.2 (by decide)
theorem QI.some9 {o : Option Int} {r : Int} (h : QI o r 0 0) : o = some r := by
  cases o with
  | none => exact absurd (show (0 : Int) = 10 from h) (by decide)
  | some z => rw [h.1]
theorem q_cvt9 (h4 : v.1 = 4) : qCvI v = qToI v.2.2.1 := by
  unfold qCvI
  rw [if_pos h4]
theorem QCN.spl9 (h : QCN v) : (qSpl v).length ≤ 16 ∧ CHS (qSpl v) := by
  have w : ∃ (H9 : QT) (ob : Int), QOK H9 ob v := by
    rcases h with h | h | h | h | h | ⟨k, o, h1, h2, h3⟩
    · exact ⟨fun _ _ => 0, 0, Or.inl h⟩
    · exact ⟨fun _ _ => 0, 0, Or.inr (Or.inl h)⟩
    · exact ⟨fun _ _ => 0, 0, Or.inr (Or.inr (Or.inl h))⟩
    · exact ⟨fun _ _ => 0, 0, Or.inr (Or.inr (Or.inr (Or.inl h)))⟩
    · exact ⟨fun _ _ => 0, 0, Or.inr (Or.inr (Or.inr (Or.inr (Or.inl h))))⟩
    · refine ⟨fun _ _ => k, 30, Or.inr (Or.inr (Or.inr (Or.inr (Or.inr ⟨o, ⟨by omega, h2⟩, ?_, ?_, h3⟩))))⟩
      · show (0 : Int) ≤ (k : Int)
        omega
      · show (k : Int) < 5
        omega
  obtain ⟨H9, ob, w⟩ := w
  exact qSpl_ok w
theorem VALq.sn9 (h : VALq P sa q7 q8 b v) (h2 : v.1 = 2 ∨ v.1 = 3) : qSpl v = qDec (oI P 1 b).toInt := by
  unfold qSpl
  rw [if_neg (by omega)]
  by_cases h3 : v.1 = 3
  · rw [if_neg (by omega), if_pos h3]
    have w := h.2.2.2.1
    unfold qRes at w
    rw [if_neg (by decide), if_pos rfl, if_pos h3] at w
    rw [w]
  · rw [if_pos (by omega), h.n9 h3 (by omega)]
theorem VALq.so9 (h : VALq P sa q7 q8 b v) (h2 : 8 ≤ v.1) : qSpl v = 111 :: qDec (oI P 1 b).toInt := by
  unfold qSpl
  rw [if_neg (by omega), if_neg (by omega), if_neg (by omega), if_neg (by omega), if_neg (by omega), h.n9 (by omega) (by omega)]
theorem VALq.o9 (h : VALq P sa q7 q8 b v) (h1 : oR P 1 b = some x) : 8 ≤ v.1 := by
  by_cases q : v.1 < 8
  · have z := h.2.2.2.2.2.2.1 q
    rw [h1] at z; cases z
  · omega
end CONs
