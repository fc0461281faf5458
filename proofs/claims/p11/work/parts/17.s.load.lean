/-! ===== the reference: what is loaded ===== -/
def qUnit (s : Int) : UInt64 := if s = 2 then 4621819117588971520 else if s = 3 then 4636737291354636288 else 4652007308841189376
/-- what a loading instruction puts -/
def QLD (H : QT) (ob : Int) (m : QM) (f : Nat → Int32) (n root : Int) (s : Int) (v : Int64) (w : QV) : Prop :=
  (s = 1 ∧ ∃ i : Int32, v.toInt = i.toInt ∧ w = qInt i) ∨
  ((2 ≤ s ∧ s ≤ 4) ∧ FN (FP.ddiv (FP.l2d v) (qUnit s)) ∧ w = qReal (FP.ddiv (FP.l2d v) (qUnit s))) ∨
  (s = 5 ∧ ∃ t : List Int, t.length ≤ 8 ∧ (∀ c ∈ t, 0 ≤ c ∧ c < 128) ∧ v.toInt = qPkA t ∧ w = qText t) ∨
  (s = 6 ∧ w = qBool true) ∨ (s = 7 ∧ w = qBool false) ∨ (s = 8 ∧ w = qNull) ∨
  (s = 9 ∧ ((∃ k : Nat, (k : Int) < n ∧ f k = Int64.toInt32 v ∧ (∀ j : Nat, (j : Int) < n → f j = f k → j = k) ∧ QAT H ob m (64 + k) w) ∨ ((∀ k : Nat, (k : Int) < n → ¬ f k = Int64.toInt32 v) ∧ w = qNull))) ∨
  (s = 10 ∧ ((root < 0 ∧ w = qNull) ∨ (0 ≤ root ∧ root < ob ∧ root < 30 ∧ 0 ≤ H 11 root.toNat ∧ H 11 root.toNat < 5 ∧ w = qObj H root.toNat)))
section QLO
variable {H : QT} {ob : Int} {m m' : QM} {p q : Nat} {v w : QV} {k : Int32} {x y : Int64} {r : UInt64} {o : Nat} {t : List Int}
theorem QW.obj (hk : k.toInt = 8 + H 11 o) (ha : x.toInt = o) (hy : y.toInt = 0) (h1 : (o : Int) < ob ∧ o < 30) (h2 : 0 ≤ H 11 o) (h3 : H 11 o < 5) : QW H ob m (upd m.1 p k, vp_updL m.2.1 p x, vp_updL m.2.2.1 p y, vf_upd m.2.2.2 p r) p (qObj H o) :=
  ⟨k, x, y, r, rfl, Or.inr (Or.inr (Or.inr (Or.inr (Or.inr ⟨o, h1, h2, h3, rfl⟩)))), hk, fun z => absurd (show 8 + H 11 o = 3 from z) (by omega), fun z => absurd (show 8 + H 11 o = 4 from z) (by omega), fun _ _ => ⟨ha, hy⟩⟩
theorem QW.txt8 (hk : k.toInt = 4) (ha : x.toInt = qPkA t) (hy : y.toInt = 0) (hl : t.length ≤ 8) (hc : ∀ c ∈ t, 0 ≤ c ∧ c < 128) : QW H ob m (upd m.1 p k, vp_updL m.2.1 p x, vp_updL m.2.2.1 p y, vf_upd m.2.2.2 p r) p (qText t) :=
  QW.text hk ha (by rw [List.drop_eq_nil_of_le hl]; exact hy) (by omega) hc
theorem vf_tw {f : Nat → UInt64} {x y : UInt64} : vf_upd (vf_upd f p x) p y = vf_upd f p y := by
  funext j; unfold vf_upd; split <;> rfl
end QLO
