/-! ===== the reference's calls: keep, put, result, text ===== -/
/-- what result answers -/
def qRes (w : QV) (k : Int) : Int := if k = 0 then w.1 else if k = 1 then (if w.1 = 3 then (FP.d2i w.2.2.2).toInt else if w.1 = 4 then (w.2.2.1.length : Int) else w.2.1) else if k = 2 then (if w.1 = 3 then (FP.d2i (FP.dmul 4652007308841189376 w.2.2.2)).toInt else 0) else -1
/-- what text answers -/
def qChr (w : QV) (i : Int) : Int := if w.1 = 4 ∧ 0 ≤ i ∧ i < (w.2.2.1.length : Int) then w.2.2.1.getD i.toNat 0 else -1
/-- what keep answers -/
def QKP (H : QT) (ob : Int) (m : QM) (f : Nat → Int32) (n th r : Int) (R : QVS × (Nat → Nat → QV)) (w : QV) (o : Option QVS) : Prop := QAT H ob m 60 w ∧ match o with
  | none => th = 2 ∧ QSTO H ob m f n R
  | some v2 => th = 0 ∧ QSTO H ob m f n (v2, R.2) ∧ r = w.1
/-- what put does -/
def qPut (H : QT) (R : QVS × (Nat → Nat → QV)) (y : QV) (nm : Int) (w : QV) : (QVS × (Nat → Nat → QV)) ⊕ Int := match qFld H y nm with
  | none => .inr 5
  | some g => (match qFit H w (H 3 g) with
    | .inr e => .inr e
    | .inl x => .inl (R.1, qFUp R.2 y.2.1.toNat g x))
def QPT (H : QT) (ob : Int) (m : QM) (f : Nat → Int32) (n r : Int) (R : QVS × (Nat → Nat → QV)) (w : QV) (o : (QVS × (Nat → Nat → QV)) ⊕ Int) : Prop := QAT H ob m 60 w ∧ match o with
  | .inr e => r = e ∧ 1 ≤ e ∧ e ≤ 11 ∧ QSTO H ob m f n R
  | .inl R2 => r = 0 ∧ QSTO H ob m f n R2
section QAP
variable {H : QT} {ob n n2 th r v t fl : Int} {m m' m2 m3 : QM} {w y : QV} {f f2 : Nat → Int32} {nm : Int32} {R : QVS × (Nat → Nat → QV)} {p : Nat}
theorem QKP.yes9 (h : QSTO H ob m f n R) (ha : QAT H ob m 60 w) (g : QPF f f2 n n2 nm v) (hr : 0 ≤ v) (hw : QW H ob m m' v.toNat w) (h0 : th = 0) (h1 : r = w.1) : QKP H ob m' f2 n2 th r R w (qVSet R.1 nm w) := by
  have bd := QPF.b9 h.1 g hr
  obtain ⟨v2, e, z⟩ := h.1.put9 g hr hw
  have xr := hw.ex.xr (lo := v) (hi := v + 1) (by omega) (by omega)
  rw [e]
  exact ⟨xr.at (by omega) ha, h0, ⟨z, xr.fls (by omega) h.2⟩, h1⟩
theorem QKP.no9 (h : QSTO H ob m f n R) (ha : QAT H ob m 60 w) (g : QPF f f2 n n2 nm v) (hr : v < 0) (h0 : th = 2) : QKP H ob m f2 n2 th r R w (qVSet R.1 nm w) := by
  obtain ⟨e, rfl, rfl⟩ := h.1.full9 (w := w) g hr
  rw [e]
  exact ⟨ha, h0, h⟩
theorem QPT.no9 (h : QSTO H ob m f n R) (ha : QAT H ob m 60 w) (hx : QXR m m' 61 62) (g : QFO (qFld H y v) y.2.1 t) (hy : 0 ≤ y.2.1) (ht : t < 0) (h0 : r = 5) : QPT H ob m' f n r R w (qPut H R y v w) := by
  have e : qFld H y v = none := by
    cases c : qFld H y v with
    | none => rfl
    | some k =>
      rw [c] at g
      have g : t = 80 + 30 * y.2.1 + k := g
      omega
  unfold qPut
  rw [e]
  exact ⟨hx.at (by omega) ha, h0, by decide, by decide, h.xr9 hx (by omega)⟩
theorem QPT.go9 (h : QSTO H ob m f n R) (ha : QAT H ob m 60 w) (hx : QXR m m2 61 62) (g : QFO (qFld H y v) y.2.1 t) (hy : y.2.1 = (p : Int)) (hb : ∀ k : Nat, qFld H y v = some k → k < 30) (ht : 0 ≤ t) (hm : QRES H ob m2 m3 61 fl (qFit H w (H 3 ((t - 80) % 30).toNat))) (hr : (r = fl ∧ ¬ fl = 0 ∧ m' = m3) ∨ (fl = 0 ∧ r = 0 ∧ ∀ x : QV, QAT H ob m3 61 x → QW H ob m3 m' t.toNat x)) : QPT H ob m' f n r R w (qPut H R y v w) := by
  unfold qPut
  cases c : qFld H y v with
  | none =>
    rw [c] at g
    have g : t = -1 := g
    omega
  | some k =>
    have bk := hb k c
    rw [c] at g
    have g : t = 80 + 30 * y.2.1 + k := g
    rw [show ((t - 80) % 30).toNat = k by omega] at hm
    have x2 := hx.trans (hm.ex.xr (lo := 61) (hi := 62) (by omega) (by omega))
    have s2 := h.xr9 x2 (by omega)
    have a2 := x2.at (q := 60) (by omega) ha
    show QPT H ob m' f n r R w (match qFit H w (H 3 k) with | .inr e => .inr e | .inl x => .inl (R.1, qFUp R.2 y.2.1.toNat k x))
    cases d : qFit H w (H 3 k) with
    | inr e =>
      rw [d] at hm
      have q1 : fl = e := hm.1
      have q2 : 1 ≤ e := hm.2.1
      have q3 : e ≤ 11 := hm.2.2.1
      rcases hr with ⟨r1, _, rfl⟩ | ⟨r1, _⟩
      · exact ⟨a2, by omega, q2, q3, s2⟩
      · omega
    | inl x =>
      rw [d] at hm
      have q1 : fl = 0 := hm.1
      have q2 : QW H ob m2 m3 61 x := hm.2
      rcases hr with ⟨_, r1, _⟩ | ⟨_, r1, hw⟩
      · exact absurd q1 r1
      · have hw := hw x q2.at
        have x3 := hw.ex.xr (lo := t) (hi := t + 1) (by omega) (by omega)
        refine ⟨x3.at (by omega) a2, r1, QX.vr9 s2.1 x3 (Or.inr (by omega)), ?_⟩
        rw [show t.toNat = 80 + 30 * p + k by omega] at hw
        rw [show y.2.1.toNat = p by omega]
        exact s2.2.up9 bk hw
end QAP
theorem QOK.n9 {H : QT} {ob : Int} {v : QV} (h : QOK H ob v) : -2147483648 ≤ v.2.1 ∧ v.2.1 < 2147483648 := by
  rcases h with rfl | ⟨b, rfl⟩ | ⟨n, rfl⟩ | ⟨r, _, rfl⟩ | ⟨s, _, _, rfl⟩ | ⟨o, h0, h1, h2, rfl⟩
  · show -2147483648 ≤ (0 : Int) ∧ (0 : Int) < 2147483648; decide
  · show -2147483648 ≤ (if b then (1 : Int) else 0) ∧ (if b then (1 : Int) else 0) < 2147483648
    cases b <;> decide
  · have a := n.le_toInt
    have b := n.toInt_lt
    show -2147483648 ≤ n.toInt ∧ n.toInt < 2147483648
    omega
  · show -2147483648 ≤ (0 : Int) ∧ (0 : Int) < 2147483648; decide
  · show -2147483648 ≤ (0 : Int) ∧ (0 : Int) < 2147483648; decide
  · show -2147483648 ≤ (o : Int) ∧ (o : Int) < 2147483648
    omega
