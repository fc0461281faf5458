/-! ===== the reference: comparing, fields ===== -/
def qEmpty (v : QV) : Bool := decide (v.1 = 0 ∨ (v.1 = 4 ∧ v.2.2.1 = []))
/-- what fieldOf answers -/
def QFO (o : Option Nat) (ob r : Int) : Prop := match o with
  | some f => r = 80 + 30 * ob + f
  | none => r = -1
section QSM
variable {H : QT} {ob : Int} {m : QM} {p q : Nat} {v w : QV} {s t : List Int} {n x nm : Int} {k : Nat}
theorem q_inj (hs : s.length ≤ 16 ∧ ∀ c ∈ s, 0 ≤ c ∧ c < 128) (ht : t.length ≤ 16 ∧ ∀ c ∈ t, 0 ≤ c ∧ c < 128) (ha : qPkA s = qPkA t) (hb : qPkB s = qPkB t) : s = t := by
  have b1 := qPkA_b hs.2
  have b2 := qPkA_b ht.2
  unfold qPkA at ha
  unfold qPkB at hb
  have hl : s.length = t.length := by omega
  have hp : qPk (s.take 8) = qPk (t.take 8) := by omega
  have g : ∀ i : Nat, s.getD i 0 = t.getD i 0 := fun i => by
    by_cases q : i < 8
    · rw [← q_gtake (s := s) q, ← q_gtake (s := t) q, ← qPk_get _ _ (q_take hs.2 8), ← qPk_get _ _ (q_take ht.2 8), hp]
    · obtain ⟨j, rfl⟩ : ∃ j, i = 8 + j := ⟨i - 8, by omega⟩
      rw [← q_gdrop (s := s), ← q_gdrop (s := t), ← qPk_get _ _ (q_drop hs.2 8), ← qPk_get _ _ (q_drop ht.2 8), hb]
  refine List.ext_getElem hl (fun i h1 h2 => ?_)
  have z := g i
  rw [List.getD_eq_getElem?_getD, List.getD_eq_getElem?_getD, List.getElem?_eq_getElem h1, List.getElem?_eq_getElem h2] at z
  exact z
theorem QOK.t0 (h : QOK H ob v) (h4 : ¬ v.1 = 4) : v.2.2.1 = [] := by
  rcases h with rfl | ⟨b, rfl⟩ | ⟨n, rfl⟩ | ⟨r, _, rfl⟩ | ⟨s, _, _, rfl⟩ | ⟨o, _, h1, h2, rfl⟩
  · rfl
  · rfl
  · rfl
  · rfl
  · exact absurd rfl h4
  · rfl
theorem q_same (h : QAT H ob m p v) (g : QAT H ob m q w) (hn : ¬ (v.1 = 3 ∧ w.1 = 3)) : ((m.1 p).toInt = (m.1 q).toInt ∧ (m.2.1 p).toInt = (m.2.1 q).toInt ∧ (m.2.2.1 p).toInt = (m.2.2.1 q).toInt) ↔ (v.1 = w.1 ∧ v.2.1 = w.2.1 ∧ v.2.2.1 = w.2.2.1) := by
  have k1 := h.kd
  have k2 := g.kd
  constructor
  · rintro ⟨e1, e2, e3⟩
    have e : v.1 = w.1 := by omega
    by_cases q4 : v.1 = 4
    · obtain ⟨s, rfl, a1, a2, a3, a4⟩ := h.k4 (by omega)
      obtain ⟨t, rfl, b1, b2, b3, b4⟩ := g.k4 (by omega)
      exact ⟨rfl, rfl, q_inj (s := s) (t := t) ⟨a3, a4⟩ ⟨b3, b4⟩ (a1.symm.trans (e2.trans b1)) (a2.symm.trans (e3.trans b2))⟩
    · have z1 := h.2.2.2.2 (by omega) q4
      have z2 := g.2.2.2.2 (by omega) (by omega)
      exact ⟨e, by omega, by rw [h.1.t0 q4, g.1.t0 (by omega)]⟩
  · rintro ⟨e1, e2, e3⟩
    by_cases q4 : v.1 = 4
    · have z1 := h.2.2.2.1 q4
      have z2 := g.2.2.2.1 (by omega)
      rw [e3] at z1
      exact ⟨by omega, by omega, by omega⟩
    · have z1 := h.2.2.2.2 (by omega) q4
      have z2 := g.2.2.2.2 (by omega) (by omega)
      exact ⟨by omega, by omega, by omega⟩
theorem qFldL_nil (h : x < 0) : qFldL H (qAnc H x) nm = none := by rw [qAnc_neg h]; rfl
theorem qFldL_hit (hp : QPA H n) (h5 : n ≤ 5) (h0 : 0 ≤ x) (hn : x < n) (hk : (k : Int) < H 1 x.toNat) (he : H 2 (6 * x.toNat + k) = nm) (hl : ∀ j : Nat, j < k → ¬ H 2 (6 * x.toNat + j) = nm) : qFldL H (qAnc H x) nm = some (6 * x.toNat + k) := by
  rw [qAnc_cons hp h0 hn h5]
  show (match qOwn H x.toNat nm with | some k => some (6 * x.toNat + k) | none => qFldL H (qAnc H (H 0 x.toNat)) nm) = _
  rw [show qOwn H x.toNat nm = some k from qFst_some (decide_eq_true he) (fun j hj => decide_eq_false (hl j hj)) _ (by omega)]
theorem qFldL_miss (hp : QPA H n) (h5 : n ≤ 5) (h0 : 0 ≤ x) (hn : x < n) (hl : ∀ j : Nat, (j : Int) < H 1 x.toNat → ¬ H 2 (6 * x.toNat + j) = nm) : qFldL H (qAnc H x) nm = qFldL H (qAnc H (H 0 x.toNat)) nm := by
  rw [qAnc_cons hp h0 hn h5]
  show (match qOwn H x.toNat nm with | some k => some (6 * x.toNat + k) | none => qFldL H (qAnc H (H 0 x.toNat)) nm) = _
  rw [show qOwn H x.toNat nm = none from qFst_none _ (fun j hj => decide_eq_false (hl j (by omega)))]
theorem qFld_o {o : Nat} (h : 0 ≤ H 11 o) : qFld H (qObj H o) nm = qFldL H (qAnc H (H 11 o)) nm := by
  show (if 8 + H 11 o < 8 then none else qFldL H (qAnc H (8 + H 11 o - 8)) nm) = _
  rw [if_neg (by omega), show 8 + H 11 o - 8 = H 11 o by omega]
theorem qFld_0 (h : v.1 < 8) : qFld H v nm = none := by unfold qFld; rw [if_pos h]
theorem qComp_a (h : 25 ≤ x) : qComp v w x = .inl (qBool (qSame v w == decide (x = 25))) := by unfold qComp; rw [if_pos h]
theorem qComp_x (h : ¬ 25 ≤ x) (hn : qNum v = false ∨ qNum w = false) : qComp v w x = .inr 1 := by unfold qComp; rw [if_neg h, if_pos hn]
theorem qComp_n (h : ¬ 25 ≤ x) (hv : qNum v = true) (hw : qNum w = true) : qComp v w x = .inl (qBool (if x = 21 then qLt (qRe v) (qRe w) else if x = 22 then qGt (qRe v) (qRe w) else if x = 23 then qLe (qRe v) (qRe w) else qGe (qRe v) (qRe w))) := by
  unfold qComp; rw [if_neg h, hv, hw, if_neg (by rintro (h | h) <;> cases h)]
theorem qSame_n (hv : qNum v = true) (hw : qNum w = true) : qSame v w = qEq (qRe v) (qRe w) := by unfold qSame; rw [hv, hw]; rfl
theorem qSame_x (h : ¬ (qNum v = true ∧ qNum w = true)) : qSame v w = decide (v.1 = w.1 ∧ v.2.1 = w.2.1 ∧ v.2.2.1 = w.2.2.1) := by
  unfold qSame
  rw [if_neg (by rw [Bool.and_eq_true]; exact h)]
theorem q_n33 (h : ¬ (qNum v = true ∧ qNum w = true)) : ¬ (v.1 = 3 ∧ w.1 = 3) := fun e => h ⟨decide_eq_true (Or.inr e.1), decide_eq_true (Or.inr e.2)⟩
end QSM
