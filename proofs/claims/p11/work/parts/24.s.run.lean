/-! ===== the machine: setting, loading, runs ===== -/
section QMB
variable {H : QT} {ob fl fl2 top top2 n n2 s v r t root : Int} {m m' m2 m3 : QM} {p q i k : Nat} {w x y : QV} {st : List QV} {S S2 : QS} {out : QO} {f f2 : Nat → Int32} {nm : Int32} {vs : QVS} {R : QVS × (Nat → Nat → QV)} {rt : QV} {z : Int64} {pa fi fn ft me mn on tw ac nu cv co : Nat → Int32}
theorem q_fb {cl : Int} {g : Nat} (hC : CLS cl pa fi me) (h5 : cl ≤ 5) (hO : OBS ob cl co) (hv : QOK (qH pa fi fn ft me mn on tw ac nu cv co) ob x) (e : qFld (qH pa fi fn ft me mn on tw ac nu cv co) x v = some g) : g < 30 := by
  by_cases k8 : 8 ≤ x.1
  · obtain ⟨o, ⟨o0, o1⟩, o2, o3, rfl⟩ := hv.k8 k8
    have ob9 := hO o o0
    rw [qFld_o o2] at e
    exact CLS.fb hC h5 (show (co o).toInt < cl by omega) e
  · rw [qFld_0 (by omega)] at e; cases e
theorem QPF.b9 (h : QVR H ob m f n vs) (g : QPF f f2 n n2 nm r) (hr : 0 ≤ r) : 64 ≤ r ∧ r < 76 := by
  have h1 := h.1
  have h2 := h.2.1
  rcases g with ⟨_, _, k, a3, _, a5⟩ | ⟨_, a2, _, _, a5⟩ | ⟨_, _, _, _, a5⟩ <;> omega
theorem QDR.set9 (h : QCS H ob m f n top S) (h1 : 1 ≤ top) (h6 : top ≤ 60) (hs : s = 38) (ht : top2 = top) (hv : nm.toInt = v) (g : QPF f f2 n n2 nm r) (hr : 0 ≤ r) (hw : ∀ x : QV, QAT H ob m (top - 1).toNat x → QW H ob m m' r.toNat x) (h0 : fl = 0) : QDR H ob m' f2 n2 top2 fl S.2 (qDo H rt s v S) := by
  obtain ⟨x, st, e, l, a, b⟩ := h.cons9 h1
  have bd := QPF.b9 h.2.2.1 g hr
  have hw := hw x a
  obtain ⟨v2, e2, g2⟩ := h.2.2.1.put9 g hr hw
  rw [qDo_one (by omega) (by omega) e]
  unfold qDo1
  rw [if_neg (by omega), if_neg (by omega), if_neg (by omega), if_neg (by omega), if_neg (by omega), if_pos hs, ← hv, q_ofInt, e2]
  have xr := hw.ex.xr (lo := r) (hi := r + 1) (by omega) (by omega)
  have sk := h.2.1.xr9 xr (by have := h.1; omega)
  rw [e] at sk
  refine ⟨h0, ?_, sk, g2, xr.fls (by omega) h.2.2.2⟩
  show top2 = ((st.length + 1 : Nat) : Int); omega
theorem QDR.full9 (h : QCS H ob m f n top S) (h1 : 1 ≤ top) (hs : s = 38) (hv : nm.toInt = v) (g : QPF f f2 n n2 nm r) (hr : r < 0) (h0 : fl = 11) : QDR H ob m f2 n2 top2 fl S.2 (qDo H rt s v S) := by
  obtain ⟨x, st, e, l, a, b⟩ := h.cons9 h1
  obtain ⟨e1, rfl, rfl⟩ := h.2.2.1.full9 (w := x) g hr
  rw [qDo_one (by omega) (by omega) e]
  unfold qDo1
  rw [if_neg (by omega), if_neg (by omega), if_neg (by omega), if_neg (by omega), if_neg (by omega), if_pos hs, ← hv, q_ofInt, e1]
  exact QDR.fail h.2.2 h0 (by decide) (by decide)
theorem QFL.up9 {fl : Nat → Nat → QV} {o g : Nat} (h : QFL H ob m fl) (hg : g < 30) (hw : QW H ob m m' (80 + 30 * o + g) w) : QFL H ob m' (qFUp fl o g w) := fun i j hi hj => by
  show QAT H ob m' (80 + 30 * i + j) (if i = o ∧ j = g then w else fl i j)
  by_cases c : i = o ∧ j = g
  · rw [if_pos c, c.1, c.2]; exact hw.at
  · rw [if_neg c]; exact hw.ne (by omega) (h i j hi hj)
theorem QDR.put9 (h : QCS H ob m f n top S) (h1 : 2 ≤ top) (h6 : top ≤ 60) (hs : s = 40) (hb : ∀ (y : QV) (g : Nat), QOK H ob y → qFld H y v = some g → g < 30) (g1 : ∀ y : QV, QAT H ob m (top - 2).toNat y → QFO (qFld H y v) y.2.1 r) (hr : 80 ≤ r) (htt : t = H 3 ((r - 80) % 30).toNat) (g2 : ∀ x : QV, QAT H ob m (top - 1).toNat x → QRES H ob m m2 (top - 1).toNat fl (qFit H x t)) (hm : (fl = 0 ∧ top2 = top - 1 ∧ ∀ w : QV, QAT H ob m2 (top - 1).toNat w → QW H ob m2 m3 r.toNat w ∧ QW H ob m3 m' (top - 2).toNat w) ∨ (¬ fl = 0 ∧ m' = m2)) : QDR H ob m' f n top2 fl S.2 (qDo H rt s v S) := by
  obtain ⟨x, st, e, l, a, b⟩ := h.cons9 (by omega)
  rw [qDo_one (by omega) (by omega) e]
  cases st with
  | nil => have l : ((0 : Nat) : Int) = top - 1 := l; omega
  | cons y st =>
    have l : ((st.length + 1 : Nat) : Int) = top - 1 := l
    have b1 : QAT H ob m st.length y := b.1
    rw [show st.length = (top - 2).toNat by omega] at b1
    have g1 := g1 y b1
    have g2 := g2 x a
    rw [qDo1_two (Or.inl hs)]
    unfold qDo2
    rw [if_pos hs]
    cases c : qFld H y v with
    | none =>
      rw [c] at g1
      have g1 : r = -1 := g1
      omega
    | some gg =>
      rw [c] at g1
      have g1 : r = 80 + 30 * y.2.1 + gg := g1
      have b30 := hb y gg b1.1 c
      by_cases k8 : 8 ≤ y.1
      · obtain ⟨o, ⟨o0, o1⟩, o2, o3, rfl⟩ := b1.1.k8 k8
        have g1 : r = 80 + 30 * (o : Int) + gg := g1
        have et : t = H 3 gg := by rw [htt, show ((r - 80) % 30).toNat = gg by omega]
        rw [et] at g2
        show QDR H ob m' f n top2 fl S.2 (match qFit H x (H 3 gg) with | .inr e => .inr e | .inl w => .inl (w :: st, S.2.1, qFUp S.2.2 o gg w))
        have gx := g2.ex
        have xr := gx.xr (lo := top - 1) (hi := top) (by omega) (by omega)
        have sk := QSK.xr9 (st := st) b.2 xr (by omega)
        have so := h.2.2.xr9 xr (by omega)
        cases d : qFit H x (H 3 gg) with
        | inr e9 =>
          rw [d] at g2
          have q1 : fl = e9 := g2.1
          have q2 : 1 ≤ e9 := g2.2.1
          have q3 : e9 ≤ 11 := g2.2.2.1
          rcases hm with ⟨h0, _⟩ | ⟨_, rfl⟩
          · omega
          · exact ⟨q1, q2, q3, so⟩
        | inl w =>
          rw [d] at g2
          have q1 : fl = 0 := g2.1
          have q2 : QW H ob m m2 (top - 1).toNat w := g2.2
          rcases hm with ⟨_, tt, hw⟩ | ⟨h0, _⟩
          · obtain ⟨w1, w2⟩ := hw w q2.at
            have x1 := w1.ex.xr (lo := r) (hi := r + 1) (by omega) (by omega)
            have x2 := w2.ex.xr (lo := top - 2) (hi := top - 1) (by omega) (by omega)
            refine ⟨q1, ?_, ⟨?_, (sk.xr9 x1 (by omega)).xr9 x2 (by omega)⟩, ?_, ?_⟩
            · show top2 = ((st.length + 1 : Nat) : Int); omega
            · rw [show st.length = (top - 2).toNat by omega]; exact w2.at
            · exact QX.vr9 (QX.vr9 so.1 x1 (Or.inr (by omega))) x2 (Or.inl (by omega))
            · rw [show r.toNat = 80 + 30 * o + gg by omega] at w1
              exact x2.fls (by omega) (so.2.up9 b30 w1)
          · exact absurd q1 h0
      · rw [qFld_0 (by omega)] at c; cases c
-- loading
theorem q_of64 {z : Int64} : Int64.ofInt z.toInt = z := Int64.toInt_inj.mp (by
  have a := z.le_toInt
  have b := z.toInt_lt
  exact Int64.toInt_ofInt_of_le a b)
theorem q_of32 {v : Int} (h1 : -2147483648 ≤ v) (h2 : v < 2147483648) : (Int32.ofInt v).toInt = v := Int32.toInt_ofInt_of_le h1 h2
theorem q_n32 {z : Int64} {i : Int32} (e : i = Int64.toInt32 z) (h1 : -2147483648 ≤ z.toInt) (h2 : z.toInt < 2147483648) : i = Int32.ofInt z.toInt ∧ i.toInt = z.toInt := by
  have a := z_l2i e h1 h2
  exact ⟨Int32.toInt_inj.mp (by rw [a, q_of32 h1 h2]), a⟩
theorem q_unit (h1 : 2 ≤ s) (h2 : s ≤ 4) : FN (FP.ddiv (FP.l2d z) (qUnit s)) := by
  unfold qUnit
  split
  · exact fp_d10 (fp_l2d _)
  · split
    · exact fp_d100 (fp_l2d _)
    · exact fp_d1000 (fp_l2d _)
theorem QLD.lit9 (hi : QIN s z.toInt) (h1 : 1 ≤ s) (h8 : s ≤ 8) : QLD H ob m f n root s z (qLit s z.toInt) := by
  unfold qLit
  by_cases c1 : s = 1
  · rw [if_pos c1]
    exact Or.inl ⟨c1, Int32.ofInt z.toInt, (q_of32 (hi.2 (by omega)).1 (hi.2 (by omega)).2).symm, rfl⟩
  · rw [if_neg c1]
    by_cases c4 : s ≤ 4
    · rw [if_pos c4, q_of64]
      exact Or.inr (Or.inl ⟨⟨by omega, by omega⟩, q_unit (by omega) (by omega), rfl⟩)
    · rw [if_neg c4]
      by_cases c5 : s = 5
      · rw [if_pos c5]
        obtain ⟨t, a, b, c⟩ := hi.1 c5
        exact Or.inr (Or.inr (Or.inl ⟨c5, t, a, b, c, by rw [c, q_txt a b]⟩))
      · rw [if_neg c5]
        by_cases c6 : s = 6
        · rw [if_pos c6]; exact Or.inr (Or.inr (Or.inr (Or.inl ⟨c6, rfl⟩)))
        · rw [if_neg c6]
          by_cases c7 : s = 7
          · rw [if_pos c7]; exact Or.inr (Or.inr (Or.inr (Or.inr (Or.inl ⟨c7, rfl⟩))))
          · rw [if_neg c7]; exact Or.inr (Or.inr (Or.inr (Or.inr (Or.inr (Or.inl ⟨by omega, rfl⟩)))))
theorem QLD.var9 (h : QVR H ob m f n vs) (hs : s = 9) (hi : QIN s z.toInt) : QLD H ob m f n root s z (qVGet vs (Int32.ofInt z.toInt)) := by
  obtain ⟨b1, b2⟩ := hi.2 (by omega)
  have en : Int64.toInt32 z = Int32.ofInt z.toInt := (q_n32 rfl b1 b2).1
  refine Or.inr (Or.inr (Or.inr (Or.inr (Or.inr (Or.inr (Or.inl ⟨hs, ?_⟩))))))
  rw [en]
  have h0 := h
  obtain ⟨h1, h2, h3, h4⟩ := h
  by_cases c : ∃ k : Nat, k < vs.2.1 ∧ f k = Int32.ofInt z.toInt
  · obtain ⟨k, k1, k2⟩ := c
    refine Or.inl ⟨k, by omega, k2, fun j hj ej => h4 j k (by omega) k1 ?_, ?_⟩
    · rw [← (h3 j (by omega)).1, ← (h3 k k1).1]; exact ej
    · unfold qVGet
      rw [h0.find9 (by omega) k2]
      exact (h3 k k1).2
  · have z := fun (k : Nat) (hk : (k : Int) < n) (e : f k = _) => c ⟨k, by omega, e⟩
    refine Or.inr ⟨z, ?_⟩
    unfold qVGet
    rw [h0.miss9 z]
theorem QLD.root9 (hs : s = 10) (hr : root < ob) (h30 : ob ≤ 30) (hH : ∀ o : Nat, (o : Int) < ob → 0 ≤ H 11 o ∧ H 11 o < 5) : QLD H ob m f n root s z (qRoot H root) := by
  refine Or.inr (Or.inr (Or.inr (Or.inr (Or.inr (Or.inr (Or.inr ⟨hs, ?_⟩))))))
  unfold qRoot
  by_cases c : root < 0
  · rw [if_pos c]; exact Or.inl ⟨c, rfl⟩
  · rw [if_neg c]
    have y := hH root.toNat (by omega)
    exact Or.inr ⟨by omega, hr, by omega, y.1, y.2, rfl⟩
-- jumps
/-- what jumps answers -/
theorem QJM.o9 (h : QCS H ob m f n top S) (h1 : 1 ≤ top) (hj : qIsJ s = true) (b : Int)
    (g : ∀ x : QV, QAT H ob m (top - 1).toNat x → (s = 14 → (¬ b = 0 → x.1 = 0) ∧ (b = 0 → ¬ x.1 = 0)) ∧ (s = 37 → (b = 0 → qEmpty x = true) ∧ (¬ b = 0 → qEmpty x = false)) ∧ ((s = 32 ∨ s = 33 ∨ s = 35) → (x.1 = 1 → fl = 0 ∧ (b = 0 → ¬ x.2.1 = if s = 33 then 1 else 0) ∧ (¬ b = 0 → x.2.1 = if s = 33 then 1 else 0)) ∧ (¬ x.1 = 1 → fl = 1)) ∧ ((s = 14 ∨ s = 36 ∨ s = 37) → fl = 0))
    (e36 : s = 36 → ¬ b = 0) (et : ¬ b = 0 → (s = 35 → top2 = top - 1) ∧ (¬ s = 35 → top2 = top)) (ef : b = 0 → (s = 14 → top2 = top) ∧ (¬ s = 14 → top2 = top - 1)) :
    match qJmp s S with
      | .inl (S2, j) => fl = 0 ∧ QCS H ob m f n top2 S2 ∧ (j = true ↔ ¬ b = 0)
      | .inr e => fl = e ∧ 1 ≤ e ∧ e ≤ 11 := by
  obtain ⟨x, st, e, l, a, sk⟩ := h.cons9 h1
  obtain ⟨g1, g2, g3, g4⟩ := g x a
  have hj := of_decide_eq_true hj
  have pop : top2 = top - 1 → QCS H ob m f n top2 (st, S.2) := fun z => ⟨by show top2 = (st.length : Int); omega, sk, h.2.2⟩
  unfold qJmp
  by_cases c36 : s = 36
  · rw [if_pos c36]
    have := e36 c36
    exact ⟨g4 (by omega), ((et this).2 (by omega)) ▸ h, ⟨fun _ => this, fun _ => rfl⟩⟩
  · rw [if_neg c36, e]
    show match (if s = 14 then (Sum.inl ((x :: st, S.2), decide (x.1 = 0)) : (QS × Bool) ⊕ Int) else if s = 37 then (if qEmpty x then .inl ((st, S.2), false) else .inl ((x :: st, S.2), true)) else if ¬ x.1 = 1 then .inr 1 else if s = 35 then .inl ((st, S.2), decide (x.2.1 = 0)) else if x.2.1 = (if s = 33 then 1 else 0) then .inl ((x :: st, S.2), true) else .inl ((st, S.2), false)) with
      | .inl (S2, j) => fl = 0 ∧ QCS H ob m f n top2 S2 ∧ (j = true ↔ ¬ b = 0)
      | .inr e => fl = e ∧ 1 ≤ e ∧ e ≤ 11
    rw [← e]
    by_cases c14 : s = 14
    · rw [if_pos c14]
      have g1 := g1 c14
      refine ⟨g4 (by omega), ?_, ?_⟩
      · have tt : top2 = top := by
          by_cases cb : b = 0
          · exact (ef cb).1 c14
          · exact (et cb).2 (by omega)
        exact tt ▸ h
      · rw [decide_eq_true_iff]
        exact ⟨fun h h2 => g1.2 h2 h, g1.1⟩
    · rw [if_neg c14]
      by_cases c37 : s = 37
      · rw [if_pos c37]
        have g2 := g2 c37
        by_cases cb : b = 0
        · rw [if_pos (g2.1 cb)]
          exact ⟨g4 (by omega), pop ((ef cb).2 c14), ⟨fun h => (by cases h), fun h => absurd cb h⟩⟩
        · rw [g2.2 cb]
          exact ⟨g4 (by omega), ((et cb).2 (by omega)) ▸ h, ⟨fun _ => cb, fun _ => rfl⟩⟩
      · rw [if_neg c37]
        have g3 := g3 (by omega)
        by_cases c1 : x.1 = 1
        · rw [if_neg (fun z => z c1)]
          obtain ⟨f0, f1, f2⟩ := g3.1 c1
          by_cases c35 : s = 35
          · rw [if_pos c35]
            rw [if_neg (by omega)] at f1 f2
            refine ⟨f0, pop ?_, ?_⟩
            · by_cases cb : b = 0
              · exact (ef cb).2 c14
              · exact (et cb).1 c35
            · rw [decide_eq_true_iff]
              exact ⟨fun h h2 => f1 h2 h, f2⟩
          · rw [if_neg c35]
            by_cases cb : b = 0
            · rw [if_neg (f1 cb)]
              exact ⟨f0, pop ((ef cb).2 c14), ⟨fun h => (by cases h), fun h => absurd cb h⟩⟩
            · rw [if_pos (f2 cb)]
              exact ⟨f0, ((et cb).2 c35) ▸ h, ⟨fun _ => cb, fun _ => rfl⟩⟩
        · rw [if_pos c1]
          exact ⟨g3.2 c1, by decide, by decide⟩
end QMB
/-! ===== runs ===== -/
/-- how a run ends: the last state, or a failure and the state ahead of it -/
abbrev QR : Type := QS ⊕ (Int × QS)
/-- a run of a code (jumps are told from their own place), n instructions at most -/
def qGo (H : QT) (root : QV) (C : List (Int × Int)) : Nat → Nat → QS → Option QR
  | 0, _, _ => none
  | n + 1, i, S =>
    if C.length ≤ i then some (.inl S)
    else if qIsJ (C.getD i (0, 0)).1 = true then (match qJmp (C.getD i (0, 0)).1 S with
      | .inr e => some (.inr (e, S))
      | .inl (S2, j) => qGo H root C n (if j = true then i + (C.getD i (0, 0)).2.toNat else i + 1) S2)
    else (match qDo H root (C.getD i (0, 0)).1 (C.getD i (0, 0)).2 S with
      | .inr e => some (.inr (e, S))
      | .inl S2 => qGo H root C n (i + 1) S2)
def RUNS (H : QT) (root : QV) (C : List (Int × Int)) (i : Nat) (S : QS) (R : QR) : Prop := ∃ n : Nat, qGo H root C n i S = some R
/-- a program's code in the reference's rows -/
def QCODE (st : Nat → Int32) (wi : Nat → Int64) (b : Int) (C : List (Int × Int)) : Prop := ∀ i : Nat, i < C.length → (st (b + i).toNat).toInt = (C.getD i (0, 0)).1 ∧ (wi (b + i).toNat).toInt = (if qIsJ (C.getD i (0, 0)).1 = true then b + i + (C.getD i (0, 0)).2 else (C.getD i (0, 0)).2) ∧ QIN (C.getD i (0, 0)).1 (C.getD i (0, 0)).2 ∧ (qIsJ (C.getD i (0, 0)).1 = true → 0 ≤ (C.getD i (0, 0)).2)
/-- the reference's run, on its way -/
def QRN (H : QT) (ob : Int) (m : QM) (f : Nat → Int32) (n top fl b : Int) (root : QV) (C : List (Int × Int)) (R0 : QVS × (Nat → Nat → QV)) (k : Int) : Prop := b ≤ k ∧
  ((fl = 0 ∧ ∃ S : QS, QCS H ob m f n top S ∧ ∀ R : QR, RUNS H root C 0 ([], R0) R → RUNS H root C (k - b).toNat S R) ∨
   (¬ fl = 0 ∧ ∃ S : QS, QSTO H ob m f n S.2 ∧ ∀ R : QR, RUNS H root C 0 ([], R0) R → R = .inr (fl, S)))
/-- what the reference's run answers -/
def QRR (H : QT) (ob : Int) (m : QM) (f : Nat → Int32) (n r : Int) : QR → Prop
  | .inl S => r = 0 ∧ QSTO H ob m f n S.2 ∧ ∀ v : QV, S.1 = [v] → QAT H ob m 60 v
  | .inr (e, S) => r = e ∧ QSTO H ob m f n S.2 ∧ QAT H ob m 60 qNull
section QMR
variable {H : QT} {ob fl fl2 top top2 n n2 s v b k k2 r : Int} {m m' : QM} {i : Nat} {S S2 : QS} {f f2 : Nat → Int32} {R0 : QVS × (Nat → Nat → QV)} {root w : QV} {C : List (Int × Int)} {R : QR} {st : Nat → Int32} {wi : Nat → Int64} {e : Int} {j : Bool}
theorem RUNS.fin9 (h : RUNS H root C i S R) (hi : C.length ≤ i) : R = .inl S := by
  obtain ⟨n, e⟩ := h
  cases n with
  | zero => cases e
  | succ n =>
    have e := e
    unfold qGo at e
    rw [if_pos hi] at e
    exact (Option.some.inj e).symm
theorem RUNS.do9 (h : RUNS H root C i S R) (hi : i < C.length) (hj : qIsJ (C.getD i (0, 0)).1 = false) : match qDo H root (C.getD i (0, 0)).1 (C.getD i (0, 0)).2 S with | .inr e => R = .inr (e, S) | .inl S2 => RUNS H root C (i + 1) S2 R := by
  obtain ⟨n, e⟩ := h
  cases n with
  | zero => cases e
  | succ n =>
    unfold qGo at e
    rw [if_neg (by omega), hj, if_neg (by decide)] at e
    cases c : qDo H root (C.getD i (0, 0)).1 (C.getD i (0, 0)).2 S with
    | inr x => rw [c] at e; exact (Option.some.inj e).symm
    | inl S2 => rw [c] at e; exact ⟨n, e⟩
theorem RUNS.jmp9 (h : RUNS H root C i S R) (hi : i < C.length) (hj : qIsJ (C.getD i (0, 0)).1 = true) : match qJmp (C.getD i (0, 0)).1 S with | .inr e => R = .inr (e, S) | .inl (S2, j) => RUNS H root C (if j = true then i + (C.getD i (0, 0)).2.toNat else i + 1) S2 R := by
  obtain ⟨n, e⟩ := h
  cases n with
  | zero => cases e
  | succ n =>
    unfold qGo at e
    rw [if_neg (by omega), if_pos hj] at e
    cases c : qJmp (C.getD i (0, 0)).1 S with
    | inr x => rw [c] at e; exact (Option.some.inj e).symm
    | inl z => rw [c] at e; obtain ⟨S2, j⟩ := z; exact ⟨n, e⟩
theorem RUNS.fin_mk (hi : C.length ≤ i) : RUNS H root C i S (.inl S) := ⟨1, by unfold qGo; exact if_pos hi⟩
theorem RUNS.do_mk (hi : i < C.length) (hj : qIsJ (C.getD i (0, 0)).1 = false) (c : qDo H root (C.getD i (0, 0)).1 (C.getD i (0, 0)).2 S = .inl S2) (h : RUNS H root C (i + 1) S2 R) : RUNS H root C i S R := by
  obtain ⟨n, e9⟩ := h
  refine ⟨n + 1, ?_⟩
  unfold qGo
  rw [if_neg (by omega), hj, if_neg (by decide), c]
  exact e9
theorem RUNS.do_er (hi : i < C.length) (hj : qIsJ (C.getD i (0, 0)).1 = false) (c : qDo H root (C.getD i (0, 0)).1 (C.getD i (0, 0)).2 S = .inr e) : RUNS H root C i S (.inr (e, S)) := by
  refine ⟨1, ?_⟩
  unfold qGo
  rw [if_neg (by omega), hj, if_neg (by decide), c]
theorem RUNS.jmp_mk (hi : i < C.length) (hj : qIsJ (C.getD i (0, 0)).1 = true) (c : qJmp (C.getD i (0, 0)).1 S = .inl (S2, j)) (h : RUNS H root C (if j = true then i + (C.getD i (0, 0)).2.toNat else i + 1) S2 R) : RUNS H root C i S R := by
  obtain ⟨n, e9⟩ := h
  refine ⟨n + 1, ?_⟩
  unfold qGo
  rw [if_neg (by omega), if_pos hj, c]
  exact e9
theorem RUNS.jmp_er (hi : i < C.length) (hj : qIsJ (C.getD i (0, 0)).1 = true) (c : qJmp (C.getD i (0, 0)).1 S = .inr e) : RUNS H root C i S (.inr (e, S)) := by
  refine ⟨1, ?_⟩
  unfold qGo
  rw [if_neg (by omega), if_pos hj, c]
theorem QRN.start9 (h : QSTO H ob m f n R0) (ht : top = 0) (hf : fl = 0) (hk : k = b) : QRN H ob m f n top fl b root C R0 k := by
  subst hk
  refine ⟨Int.le_refl _, Or.inl ⟨hf, ([], R0), ⟨ht, trivial, h⟩, fun R g => ?_⟩⟩
  rw [Int.sub_self]; exact g
theorem QRN.did9 (h : QRN H ob m f n top fl b root C R0 k) (hf : fl = 0) (hc : QCODE st wi b C) (hk : k < b + C.length) (hs : s = (st k.toNat).toInt) (hv : v = (wi k.toNat).toInt) (hj : qIsJ s = false) (hk2 : k2 = k + 1) (g : ∀ S : QS, QCS H ob m f n top S → QIN s v → QDR H ob m' f2 n2 top2 fl2 S.2 (qDo H root s v S)) : QRN H ob m' f2 n2 top2 fl2 b root C R0 k2 := by
  obtain ⟨h0, h⟩ := h
  rcases h with ⟨_, S, h1, h2⟩ | ⟨h, _⟩
  · obtain ⟨c1, c2, c3, c4⟩ := hc (k - b).toNat (by omega)
    rw [show (b + ((k - b).toNat : Nat) : Int).toNat = k.toNat by omega] at c1 c2
    rw [← c1, ← hs] at c2 c3
    rw [hj, if_neg (by decide)] at c2
    rw [← c2, ← hv] at c3
    have g := g S h1 c3
    have st9 : ∀ R : QR, RUNS H root C 0 ([], R0) R → match qDo H root s v S with | .inr e => R = .inr (e, S) | .inl S2 => RUNS H root C ((k - b).toNat + 1) S2 R := fun R hr => by
      have z := (h2 R hr).do9 (by omega) (by rw [← c1, ← hs]; exact hj)
      rw [← c1, ← hs, ← c2, ← hv] at z
      exact z
    refine ⟨by omega, ?_⟩
    cases d : qDo H root s v S with
    | inr e =>
      rw [d] at g st9
      have g1 : fl2 = e := g.1
      have g2 : 1 ≤ e := g.2.1
      exact Or.inr ⟨by omega, S, g.2.2.2, fun R hr => by rw [g1]; exact st9 R hr⟩
    | inl S2 =>
      rw [d] at g st9
      exact Or.inl ⟨g.1, S2, g.2, fun R hr => by rw [show (k2 - b).toNat = (k - b).toNat + 1 by omega]; exact st9 R hr⟩
  · exact absurd hf h
theorem QRN.jumped9 (h : QRN H ob m f n top fl b root C R0 k) (hf : fl = 0) (hc : QCODE st wi b C) (hk : k < b + C.length) (hs : s = (st k.toNat).toInt) (hv : v = (wi k.toNat).toInt) (hj : qIsJ s = true) (t : Int) (hk2 : (¬ t = 0 ∧ k2 = v) ∨ (t = 0 ∧ k2 = k + 1)) (g : ∀ S : QS, QCS H ob m f n top S → match qJmp s S with | .inl (S2, j) => fl2 = 0 ∧ QCS H ob m f n top2 S2 ∧ (j = true ↔ ¬ t = 0) | .inr e => fl2 = e ∧ 1 ≤ e ∧ e ≤ 11) : QRN H ob m f n top2 fl2 b root C R0 k2 := by
  obtain ⟨h0, h⟩ := h
  rcases h with ⟨_, S, h1, h2⟩ | ⟨h, _⟩
  · obtain ⟨c1, c2, c3, c4⟩ := hc (k - b).toNat (by omega)
    rw [show (b + ((k - b).toNat : Nat) : Int).toNat = k.toNat by omega] at c1 c2
    rw [← c1, ← hs] at c2 c4
    rw [if_pos hj, ← hv] at c2
    have c4 := c4 hj
    have g := g S h1
    have st9 : ∀ R : QR, RUNS H root C 0 ([], R0) R → match qJmp s S with | .inr e => R = .inr (e, S) | .inl (S2, j) => RUNS H root C (if j = true then (k - b).toNat + (C.getD (k - b).toNat (0, 0)).2.toNat else (k - b).toNat + 1) S2 R := fun R hr => by
      have z := (h2 R hr).jmp9 (by omega) (by rw [← c1, ← hs]; exact hj)
      rw [← c1, ← hs] at z
      exact z
    refine ⟨by omega, ?_⟩
    cases d : qJmp s S with
    | inr e =>
      rw [d] at g st9
      have g1 : fl2 = e := g.1
      have g2 : 1 ≤ e := g.2.1
      exact Or.inr ⟨by omega, S, h1.2.2, fun R hr => by rw [g1]; exact st9 R hr⟩
    | inl z =>
      obtain ⟨S2, j⟩ := z
      rw [d] at g st9
      obtain ⟨g1, g2, g3⟩ := g
      refine Or.inl ⟨g1, S2, g2, fun R hr => ?_⟩
      have y : RUNS H root C (if j = true then (k - b).toNat + (C.getD (k - b).toNat (0, 0)).2.toNat else (k - b).toNat + 1) S2 R := st9 R hr
      rcases hk2 with ⟨t1, t2⟩ | ⟨t1, t2⟩
      · rw [if_pos (g3.mpr t1)] at y
        rw [show (k2 - b).toNat = (k - b).toNat + (C.getD (k - b).toNat (0, 0)).2.toNat by omega]; exact y
      · rw [if_neg (fun q => g3.mp q t1)] at y
        rw [show (k2 - b).toNat = (k - b).toNat + 1 by omega]; exact y
  · exact absurd hf h
theorem QRN.end9 (h : QRN H ob m f n top fl b root C R0 k) (hf : fl = 0) (hk : b + C.length ≤ k) (hw : ∀ v : QV, QAT H ob m 0 v → QW H ob m m' 60 v) (hx : QX m m' 60) (hr : r = 0) : ∀ R : QR, RUNS H root C 0 ([], R0) R → QRR H ob m' f n r R := by
  intro R g
  rcases h.2 with ⟨_, S, h1, h2⟩ | ⟨h, _⟩
  · obtain rfl := (h2 R g).fin9 (by omega)
    have xr := hx.xr (lo := 60) (hi := 61) (by omega) (by omega)
    refine ⟨hr, h1.2.2.xr9 xr (by omega), fun v ev => (hw v ?_).at⟩
    have z := h1.2.1
    rw [ev] at z
    exact z.1
  · exact absurd hf h
theorem QRN.stop9 (h : QRN H ob m f n top fl b root C R0 k) (hf : ¬ fl = 0) (hw : QW H ob m m' 60 qNull) (hr : r = fl) : ∀ R : QR, RUNS H root C 0 ([], R0) R → QRR H ob m' f n r R := by
  intro R g
  rcases h.2 with ⟨h, _⟩ | ⟨_, S, h1, h2⟩
  · exact absurd h hf
  · obtain rfl := h2 R g
    exact ⟨hr, h1.xr9 (hw.ex.xr (lo := 60) (hi := 61) (by omega) (by omega)) (by omega), hw.at⟩
end QMR
