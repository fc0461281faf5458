/-! ===== the reference: calls ===== -/
/-- what found answers -/
def QFF (o : Nat ⊕ Int) (fl r : Int) : Prop := match o with
  | .inr f => fl = f ∧ (f = 7 ∨ f = 8)
  | .inl m => fl = 0 ∧ r = m
/-- nothing outside of lo .. hi is touched -/
def QXR (m m' : QM) (lo hi : Int) : Prop := ∀ j : Nat, ¬ (lo ≤ (j : Int) ∧ (j : Int) < hi) → m'.1 j = m.1 j ∧ m'.2.1 j = m.2.1 j ∧ m'.2.2.1 j = m.2.2.1 j ∧ m'.2.2.2 j = m.2.2.2 j
/-- an outcome at p, all between lo and hi may have been touched -/
def QRX (H : QT) (ob : Int) (m m' : QM) (lo hi : Int) (p : Nat) (fl : Int) (o : QO) : Prop := QXR m m' lo hi ∧ match o with
  | .inl v => fl = 0 ∧ QAT H ob m' p v
  | .inr f => fl = f ∧ 1 ≤ f ∧ f ≤ 11
def qFitC (ws : List QV) : List QV ⊕ Int → List QV ⊕ Int
  | .inr f => .inr f
  | .inl ys => .inl (ws ++ ys)
/-- the loop that makes the arguments fit -/
def QCI (H : QT) (ob : Int) (m m' : QM) (p : Nat) (lo hi : Int) (ts : List Int) (as : List QV) (k fl : Int) : Prop := QXR m m' lo hi ∧
  ((fl = 0 ∧ ∃ ws : List QV, (ws.length : Int) = k ∧ ws.length ≤ as.length ∧ QAG H ob m' p (ws ++ as.drop ws.length) ∧ qFitL H as ts = qFitC ws (qFitL H (as.drop ws.length) (ts.drop ws.length))) ∨
   (¬ fl = 0 ∧ 1 ≤ fl ∧ fl ≤ 11 ∧ qFitL H as ts = .inr fl))
section QCL
variable {H : QT} {ob lo hi fl fl2 r n c k k2 : Int} {m m' m2 : QM} {p q i : Nat} {v w o : QV} {as ws : List QV} {ts : List Int} {out : QO} {fn : Nat → Nat → QV} {t : Int}
theorem QFF.no (z : qFind H c n as = .inr fl2) (h : fl = fl2) (h7 : fl2 = 7 ∨ fl2 = 8) : QFF (qFind H c n as) fl r := by rw [z]; exact ⟨h, h7⟩
theorem QFF.yes (z : qFind H c n as = .inl i) (h : fl = 0) (hr : r = i) : QFF (qFind H c n as) fl r := by rw [z]; exact ⟨h, hr⟩
theorem QXR.self : QXR m m lo hi := fun _ _ => ⟨rfl, rfl, rfl, rfl⟩
theorem QX.xr (h : QX m m' p) (h1 : lo ≤ (p : Int)) (h2 : (p : Int) < hi) : QXR m m' lo hi := by
  obtain ⟨k, a, b, r, rfl⟩ := h
  intro j hj
  exact QPU_ne (fun e => hj (by rw [e]; exact ⟨h1, h2⟩))
theorem QXR.trans (h : QXR m m' lo hi) (g : QXR m' m2 lo hi) : QXR m m2 lo hi := fun j hj => by
  obtain ⟨a1, a2, a3, a4⟩ := h j hj
  obtain ⟨b1, b2, b3, b4⟩ := g j hj
  exact ⟨b1.trans a1, b2.trans a2, b3.trans a3, b4.trans a4⟩
theorem QXR.le {lo2 hi2 : Int} (h : QXR m m' lo hi) (h1 : lo2 ≤ lo) (h2 : hi ≤ hi2) : QXR m m' lo2 hi2 := fun j hj => h j (fun z => hj (by omega))
theorem QXR.at (h : QXR m m' lo hi) (hq : ¬ (lo ≤ (q : Int) ∧ (q : Int) < hi)) (hv : QAT H ob m q v) : QAT H ob m' q v := by
  obtain ⟨e1, e2, e3, e4⟩ := h q hq
  refine ⟨hv.1, ?_⟩
  rw [e1, e2, e3, e4]; exact hv.2
theorem QXR.fls (h : QXR m m' lo hi) (hi80 : hi ≤ 80) (hf : QFL H ob m fn) : QFL H ob m' fn := fun o f ho hf2 => h.at (by omega) (hf o f ho hf2)
theorem QRES.rx (h : QRES H ob m m' p fl out) (h1 : lo ≤ (p : Int)) (h2 : (p : Int) < hi) : QRX H ob m m' lo hi p fl out := by
  cases out with
  | inl v => exact ⟨h.2.ex.xr h1 h2, h.1, h.2.at⟩
  | inr f => exact ⟨h.2.2.2.xr h1 h2, h.1, h.2.1, h.2.2.1⟩
theorem QW.rx (h : QW H ob m m' p v) (h0 : fl = 0) (h1 : lo ≤ (p : Int)) (h2 : (p : Int) < hi) : QRX H ob m m' lo hi p fl (.inl v) := ⟨h.ex.xr h1 h2, h0, h.at⟩
theorem QRX.of (h : QXR m m2 lo hi) (g : QRX H ob m2 m' lo hi p fl out) : QRX H ob m m' lo hi p fl out := ⟨h.trans g.1, g.2⟩
theorem QRX.le {lo2 hi2 : Int} (h : QRX H ob m m' lo hi p fl out) (h1 : lo2 ≤ lo) (h2 : hi ≤ hi2) : QRX H ob m m' lo2 hi2 p fl out := ⟨h.1.le h1 h2, h.2⟩
theorem QRX.fail (h : fl = fl2) (h1 : 1 ≤ fl2) (h2 : fl2 ≤ 11) : QRX H ob m m lo hi p fl (.inr fl2) := ⟨QXR.self, h, h1, h2⟩
theorem QRX.stay (h : fl = 0) (hv : QAT H ob m p v) : QRX H ob m m lo hi p fl (.inl v) := ⟨QXR.self, h, hv⟩
/-- what stands at p is copied to q -/
theorem QRES.cp (h : QRES H ob m m2 p fl out) (h1 : lo ≤ (p : Int)) (h2 : (p : Int) < hi) (h3 : lo ≤ (q : Int)) (h4 : (q : Int) < hi) : QRX H ob m (upd m2.1 q (m2.1 p), vp_updL m2.2.1 q (m2.2.1 p), vp_updL m2.2.2.1 q (m2.2.2.1 p), vf_upd m2.2.2.2 q (m2.2.2.2 p)) lo hi q fl out := by
  have x : QXR m2 (upd m2.1 q (m2.1 p), vp_updL m2.2.1 q (m2.2.1 p), vp_updL m2.2.2.1 q (m2.2.2.1 p), vf_upd m2.2.2.2 q (m2.2.2.2 p)) lo hi := QX.xr ⟨_, _, _, _, rfl⟩ h3 h4
  cases out with
  | inl v => exact ⟨(h.2.ex.xr h1 h2).trans x, h.1, (QW.copy h.2.at).at⟩
  | inr f => exact ⟨(h.2.2.2.xr h1 h2).trans x, h.1, h.2.1, h.2.2.1⟩
theorem qAct_0 (h : H 8 i = 0) : qAct H fn i o as = .inl (qInt (Int32.ofInt (H 9 i))) := by unfold qAct; rw [if_pos h]
theorem qAct_12 (h : H 8 i = 1 ∨ H 8 i = 2) : qAct H fn i o as = .inl (as.getD (H 8 i - 1).toNat qNull) := by unfold qAct; rw [if_neg (by omega), if_pos h]
theorem qAct_3f (h : H 8 i = 3) (h2 : as.length < 2) : qAct H fn i o as = .inr 1 := by unfold qAct; rw [if_neg (by omega), if_neg (by omega), if_pos h, if_pos h2]
theorem qAct_3 (h : H 8 i = 3) (h2 : ¬ as.length < 2) : qAct H fn i o as = qReck (as.getD 0 qNull) (as.getD 1 qNull) 16 := by unfold qAct; rw [if_neg (by omega), if_neg (by omega), if_pos h, if_neg h2]
theorem qAct_5 (h : H 8 i = 5) : qAct H fn i o as = match qFld H o (H 9 i) with | some f => .inl (fn o.2.1.toNat f) | none => .inr 5 := by unfold qAct; rw [if_neg (by omega), if_neg (by omega), if_neg (by omega), if_pos h]; rfl
theorem qAct_4 (h0 : ¬ H 8 i = 0) (h1 : ¬ (H 8 i = 1 ∨ H 8 i = 2)) (h3 : ¬ H 8 i = 3) (h5 : ¬ H 8 i = 5) : qAct H fn i o as = .inl o := by unfold qAct; rw [if_neg h0, if_neg h1, if_neg h3, if_neg h5]
theorem q_gdef (h : as.length ≤ i) : as.getD i qNull = qNull := by rw [List.getD_eq_getElem?_getD, List.getElem?_eq_none h]; rfl
theorem QCI.start (ha : QAG H ob m p as) (hf : fl = 0) (hk : k = 0) : QCI H ob m m p lo hi ts as k fl := by
  subst hf hk
  refine ⟨QXR.self, Or.inl ⟨rfl, [], rfl, Nat.zero_le _, ha, ?_⟩⟩
  show _ = qFitC [] (qFitL H as ts)
  cases qFitL H as ts <;> rfl
theorem q_dcons : ∀ (as : List QV) (k : Nat), k < as.length → as.drop k = as.getD k qNull :: as.drop (k + 1)
  | [], k, h => absurd h (Nat.not_lt_zero _)
  | v :: t, 0, _ => rfl
  | v :: t, k + 1, h => q_dcons t k (Nat.lt_of_succ_lt_succ h)
theorem q_dconi : ∀ (as : List Int) (k : Nat), k < as.length → as.drop k = as.getD k 0 :: as.drop (k + 1)
  | [], k, h => absurd h (Nat.not_lt_zero _)
  | v :: t, 0, _ => rfl
  | v :: t, k + 1, h => q_dconi t k (Nat.lt_of_succ_lt_succ h)
theorem q_gl {i : Nat} (h : i < ws.length) : (ws ++ as).getD i qNull = ws.getD i qNull := by
  rw [List.getD_eq_getElem?_getD, List.getD_eq_getElem?_getD, List.getElem?_append_left h]
theorem q_gr {i : Nat} (h : ws.length ≤ i) : (ws ++ as).getD i qNull = as.getD (i - ws.length) qNull := by
  rw [List.getD_eq_getElem?_getD, List.getD_eq_getElem?_getD, List.getElem?_append_right h]
theorem q_gd {i k : Nat} : (as.drop k).getD i qNull = as.getD (k + i) qNull := by
  rw [List.getD_eq_getElem?_getD, List.getD_eq_getElem?_getD, List.getElem?_drop]
theorem QCI.step (h : QCI H ob m m2 p lo hi ts as k fl) (hf : fl = 0) (hk : k < as.length) (ht : as.length ≤ ts.length) (hq : (q : Int) = p + k) (h1 : lo ≤ (q : Int)) (h2 : (q : Int) < hi) (hk2 : k2 = k + 1) (htt : ts.getD k.toNat 0 = t) (g : ∀ v : QV, QAT H ob m2 q v → QRES H ob m2 m' q fl2 (qFit H v t)) : QCI H ob m m' p lo hi ts as k2 fl2 := by
  obtain ⟨hx, h⟩ := h
  rcases h with ⟨_, ws, w1, w2, w3, w4⟩ | ⟨h, _⟩
  · have lw : ws.length < as.length := by omega
    have ln : (ws ++ as.drop ws.length).length = as.length := by rw [List.length_append, List.length_drop]; omega
    have gv : (ws ++ as.drop ws.length).getD ws.length qNull = as.getD ws.length qNull := by rw [q_gr (Nat.le_refl _), Nat.sub_self, q_gd]; rfl
    have av := w3 ws.length (by omega)
    rw [gv, show p + ws.length = q by omega] at av
    have g := g _ av
    have gx := g.ex
    rw [q_dcons as ws.length lw, q_dconi ts ws.length (by omega), show ws.length = k.toNat by omega, htt] at w4
    have e : qFitL H (as.getD k.toNat qNull :: as.drop (k.toNat + 1)) (t :: ts.drop (k.toNat + 1)) = match qFit H (as.getD k.toNat qNull) t with | .inr f => .inr f | .inl w => (match qFitL H (as.drop (k.toNat + 1)) (ts.drop (k.toNat + 1)) with | .inr f => .inr f | .inl ws => .inl (w :: ws)) := rfl
    rw [e] at w4
    rw [show ws.length = k.toNat by omega] at g
    refine ⟨hx.trans (gx.xr h1 h2), ?_⟩
    cases c : qFit H (as.getD k.toNat qNull) t with
    | inr f =>
      rw [c] at g w4
      have g1 : fl2 = f := g.1
      have g2 : 1 ≤ f := g.2.1
      have g3 : f ≤ 11 := g.2.2.1
      refine Or.inr ⟨by omega, by omega, by omega, ?_⟩
      rw [w4, g1]; rfl
    | inl w =>
      rw [c] at g w4
      have g1 : fl2 = 0 := g.1
      have g2 : QW H ob m2 m' q w := g.2
      have le : (ws ++ [w]).length = ws.length + 1 := by rw [List.length_append]; rfl
      refine Or.inl ⟨g1, ws ++ [w], by rw [le]; omega, by rw [le]; omega, fun j hj => ?_, ?_⟩
      · rw [le] at hj ⊢
        have hj : j < as.length := by rw [List.length_append, le, List.length_drop] at hj; omega
        by_cases c1 : j < ws.length
        · have z := w3 j (by omega)
          rw [q_gl c1] at z
          rw [q_gl (by rw [le]; omega), q_gl c1]
          exact g2.ne (by omega) z
        · by_cases c2 : j = ws.length
          · subst c2
            rw [q_gl (by rw [le]; omega), q_gr (Nat.le_refl _), Nat.sub_self, show p + ws.length = q by omega]
            exact g2.at
          · have z := w3 j (by omega)
            rw [q_gr (by omega), q_gd, show ws.length + (j - ws.length) = j by omega] at z
            rw [q_gr (by rw [le]; omega), q_gd, le, show ws.length + 1 + (j - (ws.length + 1)) = j by omega]
            exact g2.ne (by omega) z
      · rw [w4, le, show ws.length = k.toNat by omega]
        show qFitC ws (match qFitL H (as.drop (k.toNat + 1)) (ts.drop (k.toNat + 1)) with | .inr f => .inr f | .inl ws => .inl (w :: ws)) = _
        cases qFitL H (as.drop (k.toNat + 1)) (ts.drop (k.toNat + 1)) with
        | inr f => rfl
        | inl ys => show Sum.inl (ws ++ (w :: ys)) = Sum.inl (ws ++ [w] ++ ys); rw [List.append_assoc]; rfl
  · exact absurd hf h
theorem QCI.fail (h : QCI H ob m m' p lo hi ts as k fl) (hf : ¬ fl = 0) : qFitL H as ts = .inr fl ∧ 1 ≤ fl ∧ fl ≤ 11 := by
  rcases h.2 with ⟨h, _⟩ | ⟨_, h1, h2, h3⟩
  · exact absurd h hf
  · exact ⟨h3, h1, h2⟩
theorem QCI.done (h : QCI H ob m m' p lo hi ts as k fl) (hf : fl = 0) (hk : (as.length : Int) ≤ k) : ∃ ws : List QV, ws.length = as.length ∧ QAG H ob m' p ws ∧ qFitL H as ts = .inl ws := by
  rcases h.2 with ⟨_, ws, w1, w2, w3, w4⟩ | ⟨h, _⟩
  · have e : ws.length = as.length := by omega
    rw [e, List.drop_length, List.append_nil] at w3
    rw [e, List.drop_length] at w4
    refine ⟨ws, e, w3, ?_⟩
    rw [w4]
    show Sum.inl (ws ++ []) = _
    rw [List.append_nil]
  · exact absurd hf h
/-- the loop of calls, found's answer ahead of it -/
def QCJ (H : QT) (ob : Int) (m m' : QM) (p : Nat) (lo hi : Int) (fd : Nat ⊕ Int) (mt : Int) (as : List QV) (k fl : Int) : Prop :=
  (∃ i : Nat, fd = .inl i ∧ mt = i ∧ QCI H ob m m' p lo hi [H 6 i, H 7 i] as k fl) ∨ (∃ f : Int, fd = .inr f ∧ fl = f ∧ (f = 7 ∨ f = 8) ∧ QXR m m' lo hi)
theorem QCJ.start {fd : Nat ⊕ Int} (h : QFF fd fl r) (ha : QAG H ob m p as) (hk : k = 0) : QCJ H ob m m p lo hi fd r as k fl := by
  cases fd with
  | inl i => exact Or.inl ⟨i, rfl, h.2, QCI.start ha h.1 hk⟩
  | inr f => exact Or.inr ⟨f, rfl, h.1, h.2, QXR.self⟩
theorem QCJ.step {fd : Nat ⊕ Int} (h : QCJ H ob m m2 p lo hi fd r as k fl) (hf : fl = 0) (h0 : 0 ≤ k) (hk : k < as.length) (hl : as.length ≤ 2) (hq : (q : Int) = p + k) (h1 : lo ≤ (q : Int)) (h2 : (q : Int) < hi) (hk2 : k2 = k + 1) (htt : t = if k = 0 then H 6 r.toNat else H 7 r.toNat) (g : ∀ v : QV, QAT H ob m2 q v → QRES H ob m2 m' q fl2 (qFit H v t)) : QCJ H ob m m' p lo hi fd r as k2 fl2 := by
  rcases h with ⟨i, e1, e2, h⟩ | ⟨f, e1, e2, e3, _⟩
  · refine Or.inl ⟨i, e1, e2, h.step hf hk hl hq h1 h2 hk2 ?_ g⟩
    rw [htt, show r.toNat = i by omega]
    by_cases c : k = 0
    · rw [if_pos c, c]; rfl
    · rw [if_neg c, show k.toNat = 1 by omega]; rfl
  · omega
/-- the whole call -/
theorem QCJ.fail (h : QCJ H ob m m' p lo hi (qFind H (o.1 - 8) n as) r as k fl) (hf : ¬ fl = 0) (h8 : 8 ≤ o.1) {q : Nat} : QRX H ob m m' lo hi q fl (qCall H fn o n as) := by
  unfold qCall
  rw [if_neg (by omega)]
  rcases h with ⟨i, e1, e2, h⟩ | ⟨f, e1, e2, e3, hx⟩
  · rw [e1]
    obtain ⟨a1, a2, a3⟩ := h.fail hf
    show QRX _ _ _ _ _ _ _ _ (match qFitL H as [H 6 i, H 7 i] with | .inr f => .inr f | .inl ws => qAct H fn i o ws)
    rw [a1]
    exact ⟨h.1, rfl, a2, a3⟩
  · rw [e1]
    exact ⟨hx, e2, by omega, by omega⟩
theorem QCJ.done {lo2 hi2 : Int} (h : QCJ H ob m m2 p lo2 hi2 (qFind H (o.1 - 8) n as) r as k 0) (h8 : 8 ≤ o.1) (hlo : lo ≤ lo2) (hhi : hi2 ≤ hi) (hk : (as.length : Int) ≤ k) {q : Nat} (g : ∀ ws : List QV, ws.length = as.length → QAG H ob m2 p ws → QRX H ob m2 m' lo hi q fl (qAct H fn r.toNat o ws)) : QRX H ob m m' lo hi q fl (qCall H fn o n as) := by
  unfold qCall
  rw [if_neg (by omega)]
  rcases h with ⟨i, e1, e2, h⟩ | ⟨f, e1, e2, e3, hx⟩
  · rw [e1]
    obtain ⟨ws, a1, a2, a3⟩ := h.done rfl hk
    show QRX _ _ _ _ _ _ _ _ (match qFitL H as [H 6 i, H 7 i] with | .inr f => .inr f | .inl ws => qAct H fn i o ws)
    rw [a3]
    have g := g ws a1 a2
    rw [show r.toNat = i by omega] at g
    exact QRX.of (h.1.le hlo hhi) g
  · omega
theorem QCJ.xr {fd : Nat ⊕ Int} (h : QCJ H ob m m' p lo hi fd r as k fl) : QXR m m' lo hi := by
  rcases h with ⟨_, _, _, h⟩ | ⟨_, _, _, _, h⟩
  · exact h.1
  · exact h
theorem qCall_5 (h : o.1 < 8) : qCall H fn o n as = .inr 5 := by unfold qCall; rw [if_pos h]
end QCL
