/-! ===== the class: what holds of its objects ===== -/
def NT (P : PL) (t : Nat) (r : Option Nat) : Prop := ∀ b, r = some b → oT P b = t
def NN (P : PL) (t : Nat) (r : Option Nat) : Prop := ∃ b, r = some b ∧ oT P b = t
def cto (P : PL) (r : Option Nat) : Nat := match r with
  | none => 0
  | some b => oC P b
def B8 (f : Nat → Int32) : Prop := ∀ j, fits .byte (.int (f j)) = true
def PVat (sa : Nat → Nat) (P : PL) (a : Nat) : Prop :=
  (oT P a = 1 → (∃ c, oR P 0 a = some c ∧ SOK P sa c) ∧ NT P 6 (oR P 1 a) ∧ FN (oD P a)) ∧
  (oT P a = 2 → NT P 1 (oR P 2 a) ∧ NT P 2 (oR P 3 a) ∧ NT P 2 (oR P 4 a) ∧ NT P 2 (oR P 5 a) ∧ 1 + cto P (oR P 3 a) + cto P (oR P 4 a) + cto P (oR P 5 a) ≤ oC P a) ∧
  (oT P a = 3 → (NT P 3 (oR P 6 a) ∧ cto P (oR P 6 a) < oC P a) ∧ NN P 10 (oR P 7 a) ∧ NN P 11 (oR P 8 a) ∧ (0 ≤ (oI P 8 a).toInt ∧ (oI P 8 a).toInt ≤ 6) ∧ (0 ≤ (oI P 9 a).toInt ∧ (oI P 9 a).toInt ≤ 6)) ∧
  (oT P a = 6 → NN P 3 (oR P 9 a) ∧ NN P 9 (oR P 10 a)) ∧
  (oT P a = 7 → (∃ b, oR P 11 a = some b ∧ oT P b = 8 ∧ oL P b ≤ 40) ∧ oI P 20 a = 0) ∧
  (oT P a = 8 → oL P a ≤ 100 ∧ B8 (oB P a)) ∧
  (oT P a = 9 → ∀ i, NT P 1 (oA P a i)) ∧
  (oT P a = 10 → ∀ i, NT P 4 (oA P a i)) ∧
  (oT P a = 11 → ∀ i, NT P 5 (oA P a i)) ∧
  (oT P a = 12 → (∃ b, oR P 12 a = some b ∧ oT P b = 8 ∧ (oL P b = 16 ∨ oL P b = 34 ∨ oL P b = 70) ∧ (oI P 25 a).toInt ≤ oL P b) ∧ oI P 23 a = 0 ∧ 0 ≤ (oI P 25 a).toInt)
/-- no text's bytes -/
def NS (P : PL) (b : Nat) : Prop := ∀ c, oT P c = 7 → ¬ oR P 11 c = some b
/-- what builders write to is no text's -/
def SEP (P : PL) : Prop := ∀ x b, oT P x = 12 → oR P 12 x = some b → NS P b
def PV (sa : Nat → Nat) (P : PL) : Prop := (∀ a : Nat, PVat sa P a) ∧ SEP P
/-- an object is as it was -/
def SM (P P' : PL) (a : Nat) : Prop := oT P' a = oT P a ∧ oL P' a = oL P a ∧ oC P' a = oC P a ∧ (∀ k, oI P' k a = oI P k a) ∧ (∀ k, oR P' k a = oR P k a) ∧ oD P' a = oD P a ∧ oA P' a = oA P a ∧ oB P' a = oB P a
/-- what stays of the objects that pr names -/
def EXP (pr : Nat → Prop) (P P' : PL) : Prop := ∀ a : Nat, ¬ oT P a = 0 → pr a → oT P' a = oT P a ∧ oL P' a = oL P a ∧ oC P' a = oC P a ∧ (∀ k, ¬ (k = 4 ∨ k = 5 ∨ k = 24 ∨ k = 25) → oI P' k a = oI P k a) ∧ (∀ k, ¬ k = 12 → oR P' k a = oR P k a) ∧ oD P' a = oD P a ∧ (oT P a = 10 ∨ oT P a = 11 → oA P' a = oA P a)
abbrev EX (P P' : PL) : Prop := EXP (fun _ => True) P P'
section EXs
variable {P P' P2 : PL} {pr : Nat → Prop} {sa : Nat → Nat}
theorem EX.rf : EX P P := fun a _ _ => ⟨rfl, rfl, rfl, fun _ _ => rfl, fun _ _ => rfl, rfl, fun _ => rfl⟩
theorem EXP.trans (h : EXP pr P P') (h2 : EXP pr P' P2) : EXP pr P P2 := fun a h0 hp => by
  obtain ⟨a1, a2, a3, a4, a5, a6, a7⟩ := h a h0 hp
  obtain ⟨b1, b2, b3, b4, b5, b6, b7⟩ := h2 a (by rw [a1]; exact h0) hp
  exact ⟨b1.trans a1, b2.trans a2, b3.trans a3, fun k hk => (b4 k hk).trans (a4 k hk), fun k hk => (b5 k hk).trans (a5 k hk), b6.trans a6, fun h => (b7 (by rw [a1]; exact h)).trans (a7 h)⟩
theorem EXP.mono {pr' : Nat → Prop} (h : EXP pr P P') (hp : ∀ a, ¬ oT P a = 0 → pr' a → pr a) : EXP pr' P P' := fun a h0 h1 => h a h0 (hp a h0 h1)
/-- a new cell, made ready -/
theorem EX.cons {q : Nat} (h : EX P P') (h0 : oT P q = 0) (h2 : EXP (fun a => ¬ a = q) P' P2) : EX P P2 := fun a ha _ => by
  have ne : ¬ a = q := fun e => ha (by rw [e]; exact h0)
  obtain ⟨a1, a2, a3, a4, a5, a6, a7⟩ := h a ha trivial
  obtain ⟨b1, b2, b3, b4, b5, b6, b7⟩ := h2 a (by rw [a1]; exact ha) ne
  exact ⟨b1.trans a1, b2.trans a2, b3.trans a3, fun k hk => (b4 k hk).trans (a4 k hk), fun k hk => (b5 k hk).trans (a5 k hk), b6.trans a6, fun h => (b7 (by rw [a1]; exact h)).trans (a7 h)⟩
theorem EX.T {a t : Nat} (h : EX P P') (ht : oT P a = t) (h0 : ¬ t = 0) : oT P' a = t := (h a (by rw [ht]; exact h0) trivial).1.trans ht
theorem EXP.T {a t : Nat} (h : EXP pr P P') (ht : oT P a = t) (h0 : ¬ t = 0) (hp : pr a) : oT P' a = t := (h a (by rw [ht]; exact h0) hp).1.trans ht
theorem EX.L {a t : Nat} (h : EX P P') (ht : oT P a = t) (h0 : ¬ t = 0) : oL P' a = oL P a := (h a (by rw [ht]; exact h0) trivial).2.1
theorem EX.C {a t : Nat} (h : EX P P') (ht : oT P a = t) (h0 : ¬ t = 0) : oC P' a = oC P a := (h a (by rw [ht]; exact h0) trivial).2.2.1
theorem EX.I {a t k : Nat} (h : EX P P') (ht : oT P a = t) (h0 : ¬ t = 0) (hk : ¬ (k = 4 ∨ k = 5 ∨ k = 24 ∨ k = 25)) : oI P' k a = oI P k a := (h a (by rw [ht]; exact h0) trivial).2.2.2.1 k hk
theorem EX.R {a t k : Nat} (h : EX P P') (ht : oT P a = t) (h0 : ¬ t = 0) (hk : ¬ k = 12) : oR P' k a = oR P k a := (h a (by rw [ht]; exact h0) trivial).2.2.2.2.1 k hk
theorem EX.nt {r : Option Nat} {t : Nat} (h : EX P P') (hr : NT P t r) (h0 : ¬ t = 0) : NT P' t r := fun b hb => h.T (hr b hb) h0
theorem EX.nn {r : Option Nat} {t : Nat} (h : EX P P') (hr : NN P t r) (h0 : ¬ t = 0) : NN P' t r := by
  obtain ⟨b, h1, h2⟩ := hr
  exact ⟨b, h1, h.T h2 h0⟩
theorem EX.ct {r : Option Nat} {t : Nat} (h : EX P P') (hr : NT P t r) (h0 : ¬ t = 0) : cto P' r = cto P r := by
  cases r with
  | none => rfl
  | some b => exact h.C (hr b rfl) h0
theorem EX.sok {c : Nat} (h : EX P P') (hc : SOK P sa c) (hn : oT P' c = 7 → oT P c = 7) : SOK P' sa c := by
  rcases hc with hc | ⟨h1, h2⟩
  · exact Or.inl (h.T hc (by decide))
  · exact Or.inr ⟨fun e => h1 (hn e), h2⟩
theorem SOK.any {c : Nat} (h : KC sa c) : SOK P sa c := by
  by_cases e : oT P c = 7
  · exact Or.inl e
  · exact Or.inr ⟨e, h⟩
theorem EX.S {c : Nat} (h : EX P P') (hc : SOK P sa c) : SOK P' sa c := by
  rcases hc with hc | ⟨h1, h2⟩
  · exact Or.inl (h.T hc (by decide))
  · exact SOK.any h2
theorem EX.sV {c : Nat} (h : EX P P') (hc : oT P c = 7) : sVal P' sa c = sVal P sa c := by
  unfold sVal
  rw [if_pos hc, if_pos (h.T hc (by decide)), h.R hc (by decide) (by decide)]
theorem EX.c {q t : Nat} (h : EX P P') (h0 : oT P q = 0) (h1 : EXP (fun a => ¬ a = q) P' P2) : EX P P2 := EX.cons h h0 h1
theorem EX.trans (h : EX P P') (h2 : EX P' P2) : EX P P2 := EXP.trans h h2
theorem EX.newP {q t : Nat} (h0 : oT P q = 0) : EX P (newP P q t) := fun a ha _ => by
  have ne : ¬ a = q := fun e => ha (by rw [e]; exact h0)
  exact ⟨by rw [newP_T, if_neg ne], vu_ne ne, vu_ne ne, fun k _ => upd_ne ne, fun k _ => vu_ne ne, vf_ne ne, fun _ => vu_ne ne⟩
theorem EX.newB {q n : Nat} {f : Nat → Int32} (h0 : oT P q = 0) : EX P (newB P q n f) := fun a ha _ => by
  have ne : ¬ a = q := fun e => ha (by rw [e]; exact h0)
  exact ⟨by rw [newB_T, if_neg ne], (vu_ne ne).trans (vu_ne ne), vu_ne ne, fun k _ => upd_ne ne, fun k _ => vu_ne ne, vf_ne ne, fun _ => vu_ne ne⟩
end EXs
/-- what the single objects hold -/
def SV (ad : Nat → Nat) (P : PL) (r0 r1 : Option Nat) (q6 q7 q8 q13 q15 q17 : Nat → Option Nat) (fc : Int) : Prop :=
  NN P 1 r0 ∧ NT P 1 r1 ∧ oT P (ad 18) = 12 ∧ oT P (ad 19) = 12 ∧ oT P (ad 20) = 1 ∧ (∀ i, NT P 2 (q6 i)) ∧ (∀ i, NT P 3 (q7 i)) ∧ (∀ i, NT P 1 (q8 i)) ∧ (∀ i, NT P 1 (q13 i)) ∧ (∀ i, NT P 5 (q15 i)) ∧ (∀ i, NT P 1 (q17 i)) ∧ (∀ i : Nat, (i : Int) < fc → ∃ b, q7 i = some b)
section SVs
variable {ad : Nat → Nat} {P P' : PL} {r0 r1 : Option Nat} {q6 q7 q8 q13 q15 q17 : Nat → Option Nat} {fc : Int} {i v : Nat}
theorem SV.ex (h : SV ad P r0 r1 q6 q7 q8 q13 q15 q17 fc) (e : EX P P') : SV ad P' r0 r1 q6 q7 q8 q13 q15 q17 fc := by
  obtain ⟨h1, h2, h3, h4, h5, h6, h7, h8, h9, h10, h11, h12⟩ := h
  exact ⟨e.nn h1 (by decide), e.nt h2 (by decide), e.T h3 (by decide), e.T h4 (by decide), e.T h5 (by decide), fun i => e.nt (h6 i) (by decide), fun i => e.nt (h7 i) (by decide), fun i => e.nt (h8 i) (by decide), fun i => e.nt (h9 i) (by decide), fun i => e.nt (h10 i) (by decide), fun i => e.nt (h11 i) (by decide), h12⟩
theorem nt_up {t : Nat} {q : Nat → Option Nat} (h : ∀ i, NT P t (q i)) {r : Option Nat} (hr : NT P t r) : ∀ j, NT P t (va_up q i r j) := fun j => by
  by_cases e : j = i
  · subst e; rw [vu_eq]; exact hr
  · rw [vu_ne e]; exact h j
theorem nt_s {t : Nat} (h : oT P v = t) : NT P t (some v) := fun b e => by cases e; exact h
theorem nt_n {t : Nat} : NT P t none := fun b e => by cases e
theorem SV.lat {r : Option Nat} (h : SV ad P r0 r1 q6 q7 q8 q13 q15 q17 fc) (hr : NN P 1 r) : SV ad P r r1 q6 q7 q8 q13 q15 q17 fc := ⟨hr, h.2⟩
theorem SV.root {r : Option Nat} (h : SV ad P r0 r1 q6 q7 q8 q13 q15 q17 fc) (hr : NT P 1 r) : SV ad P r0 r q6 q7 q8 q13 q15 q17 fc := ⟨h.1, hr, h.2.2⟩
theorem SV.s6 {r : Option Nat} (h : SV ad P r0 r1 q6 q7 q8 q13 q15 q17 fc) (hr : NT P 2 r) : SV ad P r0 r1 (va_up q6 i r) q7 q8 q13 q15 q17 fc := by
  obtain ⟨h1, h2, h3, h4, h5, h6, h7⟩ := h
  exact ⟨h1, h2, h3, h4, h5, nt_up h6 hr, h7⟩
theorem SV.s7 {fc' : Int} (h : SV ad P r0 r1 q6 q7 q8 q13 q15 q17 fc) (hv : oT P v = 3) (hi : (i : Int) = fc) (hf : fc' ≤ fc + 1) : SV ad P r0 r1 q6 (va_up q7 i (some v)) q8 q13 q15 q17 fc' := by
  obtain ⟨h1, h2, h3, h4, h5, h6, h7, h8, h9, h10, h11, h12⟩ := h
  refine ⟨h1, h2, h3, h4, h5, h6, nt_up h7 (nt_s hv), h8, h9, h10, h11, fun j hj => ?_⟩
  by_cases e : j = i
  · subst e; exact ⟨v, vu_eq⟩
  · rw [vu_ne e]; exact h12 j (by omega)
theorem SV.s8 {r : Option Nat} (h : SV ad P r0 r1 q6 q7 q8 q13 q15 q17 fc) (hr : NT P 1 r) : SV ad P r0 r1 q6 q7 (va_up q8 i r) q13 q15 q17 fc := by
  obtain ⟨h1, h2, h3, h4, h5, h6, h7, h8, h9⟩ := h
  exact ⟨h1, h2, h3, h4, h5, h6, h7, nt_up h8 hr, h9⟩
theorem SV.s13 {r : Option Nat} (h : SV ad P r0 r1 q6 q7 q8 q13 q15 q17 fc) (hr : NT P 1 r) : SV ad P r0 r1 q6 q7 q8 (va_up q13 i r) q15 q17 fc := by
  obtain ⟨h1, h2, h3, h4, h5, h6, h7, h8, h9, h10⟩ := h
  exact ⟨h1, h2, h3, h4, h5, h6, h7, h8, nt_up h9 hr, h10⟩
theorem SV.s15 {r : Option Nat} (h : SV ad P r0 r1 q6 q7 q8 q13 q15 q17 fc) (hr : NT P 5 r) : SV ad P r0 r1 q6 q7 q8 q13 (va_up q15 i r) q17 fc := by
  obtain ⟨h1, h2, h3, h4, h5, h6, h7, h8, h9, h10, h11⟩ := h
  exact ⟨h1, h2, h3, h4, h5, h6, h7, h8, h9, nt_up h10 hr, h11⟩
theorem SV.s17 {r : Option Nat} (h : SV ad P r0 r1 q6 q7 q8 q13 q15 q17 fc) (hr : NT P 1 r) : SV ad P r0 r1 q6 q7 q8 q13 q15 (va_up q17 i r) fc := by
  obtain ⟨h1, h2, h3, h4, h5, h6, h7, h8, h9, h10, h11, h12⟩ := h
  exact ⟨h1, h2, h3, h4, h5, h6, h7, h8, h9, h10, nt_up h11 hr, h12⟩
end SVs
section PVs
variable {sa : Nat → Nat} {P : PL} {a : Nat}
theorem PV.t1 (h : PV sa P) (ht : oT P a = 1) : (∃ c, oR P 0 a = some c ∧ SOK P sa c) ∧ NT P 6 (oR P 1 a) ∧ FN (oD P a) := (h.1 a).1 ht
theorem PV.t2 (h : PV sa P) (ht : oT P a = 2) : NT P 1 (oR P 2 a) ∧ NT P 2 (oR P 3 a) ∧ NT P 2 (oR P 4 a) ∧ NT P 2 (oR P 5 a) ∧ 1 + cto P (oR P 3 a) + cto P (oR P 4 a) + cto P (oR P 5 a) ≤ oC P a := (h.1 a).2.1 ht
theorem PV.t3 (h : PV sa P) (ht : oT P a = 3) : (NT P 3 (oR P 6 a) ∧ cto P (oR P 6 a) < oC P a) ∧ NN P 10 (oR P 7 a) ∧ NN P 11 (oR P 8 a) ∧ (0 ≤ (oI P 8 a).toInt ∧ (oI P 8 a).toInt ≤ 6) ∧ (0 ≤ (oI P 9 a).toInt ∧ (oI P 9 a).toInt ≤ 6) := (h.1 a).2.2.1 ht
theorem PV.t6 (h : PV sa P) (ht : oT P a = 6) : NN P 3 (oR P 9 a) ∧ NN P 9 (oR P 10 a) := (h.1 a).2.2.2.1 ht
theorem PV.t7 (h : PV sa P) (ht : oT P a = 7) : (∃ b, oR P 11 a = some b ∧ oT P b = 8 ∧ oL P b ≤ 40) ∧ oI P 20 a = 0 := (h.1 a).2.2.2.2.1 ht
theorem PV.t8 (h : PV sa P) (ht : oT P a = 8) : oL P a ≤ 100 ∧ B8 (oB P a) := (h.1 a).2.2.2.2.2.1 ht
theorem PV.t9 (h : PV sa P) (ht : oT P a = 9) : ∀ i, NT P 1 (oA P a i) := (h.1 a).2.2.2.2.2.2.1 ht
theorem PV.t10 (h : PV sa P) (ht : oT P a = 10) : ∀ i, NT P 4 (oA P a i) := (h.1 a).2.2.2.2.2.2.2.1 ht
theorem PV.t11 (h : PV sa P) (ht : oT P a = 11) : ∀ i, NT P 5 (oA P a i) := (h.1 a).2.2.2.2.2.2.2.2.1 ht
theorem PV.t12 (h : PV sa P) (ht : oT P a = 12) : (∃ b, oR P 12 a = some b ∧ oT P b = 8 ∧ (oL P b = 16 ∨ oL P b = 34 ∨ oL P b = 70) ∧ (oI P 25 a).toInt ≤ oL P b) ∧ oI P 23 a = 0 ∧ 0 ≤ (oI P 25 a).toInt := (h.1 a).2.2.2.2.2.2.2.2.2 ht
theorem cto_same {P P' : PL} {r : Option Nat} {t : Nat} (hr : NT P t r) (hC : ∀ b, oT P b = t → oC P' b = oC P b) : cto P' r = cto P r := by
  cases r with
  | none => rfl
  | some b => exact hC b (hr b rfl)
/-- an object's part of the law, where what it refers to keeps tag, length, cost -/
theorem PVat.keep {P P' : PL} (h : PVat sa P a) (hs : SM P P' a) (hT : ∀ b, ¬ oT P b = 0 → oT P b < 20 → oT P' b = oT P b ∧ oL P' b = oL P b ∧ oC P' b = oC P b) : PVat sa P' a := by
  obtain ⟨s1, s2, s3, s4, s5, s6, s7, s8⟩ := hs
  have nt : ∀ {r : Option Nat} {t : Nat}, NT P t r → ¬ t = 0 → t < 20 → NT P' t r := fun hr h0 h1 b hb => by
    have := hr b hb
    rw [(hT b (by rw [this]; exact h0) (by rw [this]; exact h1)).1]; exact this
  have nn : ∀ {r : Option Nat} {t : Nat}, NN P t r → ¬ t = 0 → t < 20 → NN P' t r := fun ⟨b, b1, b2⟩ h0 h1 => ⟨b, b1, by rw [(hT b (by rw [b2]; exact h0) (by rw [b2]; exact h1)).1]; exact b2⟩
  have ct : ∀ {r : Option Nat} {t : Nat}, NT P t r → ¬ t = 0 → t < 20 → cto P' r = cto P r := fun hr h0 h1 => cto_same hr (fun b hb => (hT b (by rw [hb]; exact h0) (by rw [hb]; exact h1)).2.2)
  obtain ⟨h1, h2, h3, h6, h7, h8, h9, h10, h11, h12⟩ := h
  unfold PVat
  simp only [s1, s2, s3, s4, s5, s6, s7, s8]
  refine ⟨fun e => ?_, fun e => ?_, fun e => ?_, fun e => ?_, fun e => ?_, h8, fun e i => nt (h9 e i) (by decide) (by decide), fun e i => nt (h10 e i) (by decide) (by decide), fun e i => nt (h11 e i) (by decide) (by decide), fun e => ?_⟩
  · obtain ⟨⟨c, c1, c2⟩, c3, c4⟩ := h1 e
    refine ⟨⟨c, c1, ?_⟩, nt c3 (by decide) (by decide), c4⟩
    rcases c2 with c2 | ⟨c2, c5⟩
    · exact Or.inl (by rw [(hT c (by rw [c2]; decide) (by rw [c2]; decide)).1]; exact c2)
    · by_cases e9 : oT P' c = 7
      · exact Or.inl e9
      · exact Or.inr ⟨e9, c5⟩
  · obtain ⟨c1, c2, c3, c4, c5⟩ := h2 e
    rw [ct c2 (by decide) (by decide), ct c3 (by decide) (by decide), ct c4 (by decide) (by decide)]
    exact ⟨nt c1 (by decide) (by decide), nt c2 (by decide) (by decide), nt c3 (by decide) (by decide), nt c4 (by decide) (by decide), c5⟩
  · obtain ⟨c1, c2, c3, c4⟩ := h3 e
    exact ⟨⟨nt c1.1 (by decide) (by decide), by rw [ct c1.1 (by decide) (by decide)]; exact c1.2⟩, nn c2 (by decide) (by decide), nn c3 (by decide) (by decide), c4⟩
  · obtain ⟨c1, c2⟩ := h6 e
    exact ⟨nn c1 (by decide) (by decide), nn c2 (by decide) (by decide)⟩
  · obtain ⟨⟨b, b1, b2, b3⟩, c2⟩ := h7 e
    have z := hT b (by rw [b2]; decide) (by rw [b2]; decide)
    exact ⟨⟨b, b1, by rw [z.1]; exact b2, by rw [z.2.1]; exact b3⟩, c2⟩
  · obtain ⟨⟨b, b1, b2, b3⟩, c2⟩ := h12 e
    have z := hT b (by rw [b2]; decide) (by rw [b2]; decide)
    exact ⟨⟨b, b1, by rw [z.1]; exact b2, by rw [z.2.1]; exact b3⟩, c2⟩
/-- one object, that nothing refers to, has been made -/
theorem PV.set {P P' : PL} {q : Nat} (h : PV sa P) (hq0 : oT P q = 0 ∨ 20 ≤ oT P q) (hs : ∀ a, ¬ a = q → SM P P' a) (hq : PVat sa P' q) (h7 : ¬ oT P' q = 7) (h12 : ¬ oT P' q = 12) : PV sa P' := by
  refine ⟨fun a => ?_, fun x b hx hb c hc e => ?_⟩
  · by_cases e : a = q
    · subst e; exact hq
    · refine (h.1 a).keep (hs a e) (fun b b0 b1 => ?_)
      have z := hs b (fun e9 => by subst e9; omega)
      exact ⟨z.1, z.2.1, z.2.2.1⟩
  · have nx : ¬ x = q := fun e9 => h12 (by rw [← e9]; exact hx)
    have nc : ¬ c = q := fun e9 => h7 (by rw [← e9]; exact hc)
    obtain ⟨s1, _, _, _, s5, _⟩ := hs x nx
    obtain ⟨r1, _, _, _, r5, _⟩ := hs c nc
    rw [s1] at hx
    rw [s5] at hb
    rw [r1] at hc
    rw [r5] at e
    exact h.2 x b hx hb c hc e
/-- one object's fields have changed -/
theorem PV.upd {P P' : PL} {q : Nat} (h : PV sa P) (hT : ∀ b, oT P' b = oT P b) (hL : ∀ b, oL P' b = oL P b) (hC : ∀ b, oC P' b = oC P b) (hs : ∀ a, ¬ a = q → SM P P' a) (hq : PVat sa P' q) (hr : ∀ k, (k = 11 ∨ k = 12) → ∀ b, oR P' k b = oR P k b) : PV sa P' := by
  refine ⟨fun a => ?_, fun x b hx hb c hc e => ?_⟩
  · by_cases e : a = q
    · subst e; exact hq
    · exact (h.1 a).keep (hs a e) (fun b _ _ => ⟨hT b, hL b, hC b⟩)
  · rw [hT] at hx hc
    rw [hr 12 (Or.inr rfl)] at hb
    rw [hr 11 (Or.inl rfl)] at e
    exact h.2 x b hx hb c hc e
theorem PV.ns {x b : Nat} (h : PV sa P) (hx : oT P x = 12) (hb : oR P 12 x = some b) : NS P b := h.2 x b hx hb
theorem EXP.sm {P P' : PL} {q : Nat} (hs : ∀ a, ¬ a = q → SM P P' a) : EXP (fun a => ¬ a = q) P P' := fun a _ hp => by
  obtain ⟨s1, s2, s3, s4, s5, s6, s7, s8⟩ := hs a hp
  exact ⟨s1, s2, s3, fun k _ => s4 k, fun k _ => s5 k, s6, fun _ => s7⟩
theorem PVat.raw {P : PL} (h : 20 ≤ oT P a ∨ oT P a = 0) : PVat sa P a := by
  unfold PVat
  refine ⟨?_, ?_, ?_, ?_, ?_, ?_, ?_, ?_, ?_, ?_⟩ <;> (intro e; exfalso; omega)
theorem SM.newP {q t b : Nat} (ne : ¬ b = q) : SM P (newP P q t) b := ⟨by rw [newP_T, if_neg ne], vu_ne ne, vu_ne ne, fun k => upd_ne ne, fun k => vu_ne ne, vf_ne ne, vu_ne ne, vu_ne ne⟩
theorem SM.newB {q n b : Nat} {f : Nat → Int32} (ne : ¬ b = q) : SM P (newB P q n f) b := ⟨by rw [newB_T, if_neg ne], (vu_ne ne).trans (vu_ne ne), vu_ne ne, fun k => upd_ne ne, fun k => vu_ne ne, vf_ne ne, vu_ne ne, (vu_ne ne).trans (vu_ne ne)⟩
theorem PV.raw {q t : Nat} (h : PV sa P) (h0 : oT P q = 0) (ht : 20 ≤ t) : PV sa (newP P q t) := h.set (Or.inl h0) (fun a ne => SM.newP ne) (PVat.raw (Or.inl (by rw [newP_T, if_pos rfl]; exact ht))) (by rw [newP_T, if_pos rfl]; omega) (by rw [newP_T, if_pos rfl]; omega)
theorem PV.arr {q t : Nat} (h : PV sa P) (h0 : oT P q = 0) (ht : t = 9 ∨ t = 10 ∨ t = 11) : PV sa (newP P q t) := h.set (Or.inl h0) (fun a ne => SM.newP ne) (by
  have e : oT (newP P q t) q = t := by rw [newP_T, if_pos rfl]
  unfold PVat
  rw [e, newP_zA]
  refine ⟨?_, ?_, ?_, ?_, ?_, ?_, fun _ i => nt_n, fun _ i => nt_n, fun _ i => nt_n, ?_⟩ <;> (intro e; exfalso; omega)) (by rw [newP_T, if_pos rfl]; omega) (by rw [newP_T, if_pos rfl]; omega)
theorem PV.byt {q n : Nat} {f : Nat → Int32} (h : PV sa P) (h0 : oT P q = 0) (hn : n ≤ 100) (hf : B8 f) : PV sa (newB P q n f) := h.set (Or.inl h0) (fun a ne => SM.newB ne) (by
  have e : oT (newB P q n f) q = 8 := by rw [newB_T, if_pos rfl]
  unfold PVat
  rw [e, show oL (newB P q n f) q = n from vu_eq, show oB (newB P q n f) q = f from vu_eq]
  refine ⟨?_, ?_, ?_, ?_, ?_, fun _ => ⟨hn, hf⟩, ?_, ?_, ?_, ?_⟩ <;> (intro e; exfalso; omega)) (by rw [newB_T, if_pos rfl]; decide) (by rw [newB_T, if_pos rfl]; decide)
theorem B8.zero : B8 (fun _ => 0) := fun _ => by show fits .byte (.int 0) = true; decide
end PVs
/-! ===== references that may be null, on the stack and in locals ===== -/
theorem va_cat {x : Option Nat} : (va_rf x).category = 1 := by cases x <;> rfl
section LQ
variable {p : Program} {l : Launch} {e : Env} {R : Room} {s : State} {m : MethodId} {args : Array Value} {below : List Frame} {meth : Method} {c : Code} {H : Heap} {locs : List Loc} {cells slots : Nat} {Q : State → Prop}
variable {cc : ByteArray} {pc : Nat} {ls : Array Slot} {rest : List Value} {x : Option Nat}
theorem lq_aload_n (hexec : p.tables.exec = Jvm.exec) (hb : c.code = cc) {k : Fin 4} {i : Nat} (hdg : decode cc pc = .ok (.aload_n k, 1)) (hi : (k : Nat) = i) (hl : ls[i]? = some (.val (va_rf x))) (kk : W p l e R s m args below meth c H locs cells slots Q (F0 m (pc + 1) ls (va_rf x :: rest))) : W p l e R s m args below meth c H locs cells slots Q (F0 m pc ls rest) := by
  cases x
  · exact lv_aload_nN hexec hb hdg hi hl kk
  · exact lv_aload_n hexec hb hdg hi hl kk
theorem lq_aload (hexec : p.tables.exec = Jvm.exec) (hb : c.code = cc) {i : Nat} (hdg : decode cc pc = .ok (.aload i, 2)) (hl : ls[i]? = some (.val (va_rf x))) (kk : W p l e R s m args below meth c H locs cells slots Q (F0 m (pc + 2) ls (va_rf x :: rest))) : W p l e R s m args below meth c H locs cells slots Q (F0 m pc ls rest) := by
  cases x
  · exact lv_aloadN hexec hb hdg hl kk
  · exact lv_aload hexec hb hdg hl kk
theorem lq_astore_n (hexec : p.tables.exec = Jvm.exec) (hb : c.code = cc) {k : Fin 4} {i nL : Nat} {lv lv' : List (Nat × Value)} (hdg : decode cc pc = .ok (.astore_n k, 1)) (hi : (k : Nat) = i) (h : lv_has ls nL lv) (hn : i < nL) (hl : (i, va_rf x) :: lv.filter (fun q => !(q.1 == i) && !(q.1 + 1 == i && q.2.category == 2)) = lv')
    (kk : ∀ ls : Array Slot, lv_has ls nL lv' → W p l e R s m args below meth c H locs cells slots Q (F0 m (pc + 1) ls rest)) : W p l e R s m args below meth c H locs cells slots Q (F0 m pc ls (va_rf x :: rest)) := by
  cases x
  · exact lv_astore_nN hexec hb hdg hi h hn hl kk
  · exact lv_astore_n hexec hb hdg hi h hn hl kk
theorem lq_astore (hexec : p.tables.exec = Jvm.exec) (hb : c.code = cc) {i nL : Nat} {lv lv' : List (Nat × Value)} (hdg : decode cc pc = .ok (.astore i, 2)) (h : lv_has ls nL lv) (hn : i < nL) (hl : (i, va_rf x) :: lv.filter (fun q => !(q.1 == i) && !(q.1 + 1 == i && q.2.category == 2)) = lv')
    (kk : ∀ ls : Array Slot, lv_has ls nL lv' → W p l e R s m args below meth c H locs cells slots Q (F0 m (pc + 2) ls rest)) : W p l e R s m args below meth c H locs cells slots Q (F0 m pc ls (va_rf x :: rest)) := by
  cases x
  · exact lv_astoreN hexec hb hdg h hn hl kk
  · exact lv_astore hexec hb hdg h hn hl kk
end LQ
section SVn
variable {ad : Nat → Nat} {P : PL} {r0 r1 : Option Nat} {q6 q7 q8 q13 q15 q17 : Nat → Option Nat} {fc : Int}
theorem SV.n0 (h : SV ad P r0 r1 q6 q7 q8 q13 q15 q17 fc) : NN P 1 r0 := h.1
theorem SV.n1 (h : SV ad P r0 r1 q6 q7 q8 q13 q15 q17 fc) : NT P 1 r1 := h.2.1
theorem SV.a18 (h : SV ad P r0 r1 q6 q7 q8 q13 q15 q17 fc) : oT P (ad 18) = 12 := h.2.2.1
theorem SV.a19 (h : SV ad P r0 r1 q6 q7 q8 q13 q15 q17 fc) : oT P (ad 19) = 12 := h.2.2.2.1
theorem SV.a20 (h : SV ad P r0 r1 q6 q7 q8 q13 q15 q17 fc) : oT P (ad 20) = 1 := h.2.2.2.2.1
theorem SV.n6 (h : SV ad P r0 r1 q6 q7 q8 q13 q15 q17 fc) : ∀ i, NT P 2 (q6 i) := h.2.2.2.2.2.1
theorem SV.n7 (h : SV ad P r0 r1 q6 q7 q8 q13 q15 q17 fc) : ∀ i, NT P 3 (q7 i) := h.2.2.2.2.2.2.1
theorem SV.n8 (h : SV ad P r0 r1 q6 q7 q8 q13 q15 q17 fc) : ∀ i, NT P 1 (q8 i) := h.2.2.2.2.2.2.2.1
theorem SV.n13 (h : SV ad P r0 r1 q6 q7 q8 q13 q15 q17 fc) : ∀ i, NT P 1 (q13 i) := h.2.2.2.2.2.2.2.2.1
theorem SV.n15 (h : SV ad P r0 r1 q6 q7 q8 q13 q15 q17 fc) : ∀ i, NT P 5 (q15 i) := h.2.2.2.2.2.2.2.2.2.1
theorem SV.n17 (h : SV ad P r0 r1 q6 q7 q8 q13 q15 q17 fc) : ∀ i, NT P 1 (q17 i) := h.2.2.2.2.2.2.2.2.2.2.1
theorem SV.fam (h : SV ad P r0 r1 q6 q7 q8 q13 q15 q17 fc) : ∀ i : Nat, (i : Int) < fc → ∃ b, q7 i = some b := h.2.2.2.2.2.2.2.2.2.2.2
end SVn
theorem t20 {P : PL} {a t : Nat} (h : oT P a = t) : oT P a % 20 = t % 20 := by rw [h]
/-! ===== raw objects, and their end ===== -/
section RAW
variable {sa : Nat → Nat} {P P2 P3 : PL} {a b q k t : Nat}
theorem SM.rf : SM P P b := ⟨rfl, rfl, rfl, fun _ => rfl, fun _ => rfl, rfl, rfl, rfl⟩
theorem SM.trans (h : SM P P2 b) (h2 : SM P2 P3 b) : SM P P3 b := by
  obtain ⟨a1, a2, a3, a4, a5, a6, a7, a8⟩ := h
  obtain ⟨b1, b2, b3, b4, b5, b6, b7, b8⟩ := h2
  exact ⟨b1.trans a1, b2.trans a2, b3.trans a3, fun k => (b4 k).trans (a4 k), fun k => (b5 k).trans (a5 k), b6.trans a6, b7.trans a7, b8.trans a8⟩
theorem SM.sI {v : Int32} (ne : ¬ b = a) : SM P (sI P k a v) b := ⟨rfl, rfl, rfl, fun j => sI_ne ne, fun _ => rfl, rfl, rfl, rfl⟩
theorem SM.sR {v : Option Nat} (ne : ¬ b = a) : SM P (sR P k a v) b := ⟨rfl, rfl, rfl, fun _ => rfl, fun j => sR_ne ne, rfl, rfl, rfl⟩
theorem SM.sD {v : UInt64} (ne : ¬ b = a) : SM P (sD P a v) b := ⟨rfl, rfl, rfl, fun _ => rfl, fun _ => rfl, vf_ne ne, rfl, rfl⟩
theorem SM.sT (ne : ¬ b = a) : SM P (sT P a t) b := ⟨vu_ne ne, rfl, rfl, fun _ => rfl, fun _ => rfl, rfl, rfl, rfl⟩
theorem SM.sC (ne : ¬ b = a) : SM P (sC P a t) b := ⟨rfl, rfl, vu_ne ne, fun _ => rfl, fun _ => rfl, rfl, rfl, rfl⟩
theorem SM.sA {f : Nat → Option Nat} (ne : ¬ b = a) : SM P (sA P a f) b := ⟨rfl, rfl, rfl, fun _ => rfl, fun _ => rfl, rfl, vu_ne ne, rfl⟩
theorem SM.sB {f : Nat → Int32} (ne : ¬ b = a) : SM P (sB P a f) b := ⟨rfl, rfl, rfl, fun _ => rfl, fun _ => rfl, rfl, rfl, vu_ne ne⟩
theorem PV.rI {v : Int32} (h : PV sa P) (hr : 20 ≤ oT P q) : PV sa (sI P k q v) := h.set (Or.inr hr) (fun a ne => SM.sI ne) (PVat.raw (Or.inl hr)) (show ¬ oT P q = 7 by omega) (show ¬ oT P q = 12 by omega)
theorem PV.rR {v : Option Nat} (h : PV sa P) (hr : 20 ≤ oT P q) : PV sa (sR P k q v) := h.set (Or.inr hr) (fun a ne => SM.sR ne) (PVat.raw (Or.inl hr)) (show ¬ oT P q = 7 by omega) (show ¬ oT P q = 12 by omega)
theorem PV.rD {v : UInt64} (h : PV sa P) (hr : 20 ≤ oT P q) : PV sa (sD P q v) := h.set (Or.inr hr) (fun a ne => SM.sD ne) (PVat.raw (Or.inl hr)) (show ¬ oT P q = 7 by omega) (show ¬ oT P q = 12 by omega)
theorem XP.xI {v : Int32} : EXP (fun a => ¬ a = q) P (sI P k q v) := EXP.sm (fun a ne => SM.sI ne)
theorem XP.xR {v : Option Nat} : EXP (fun a => ¬ a = q) P (sR P k q v) := EXP.sm (fun a ne => SM.sR ne)
theorem XP.xD {v : UInt64} : EXP (fun a => ¬ a = q) P (sD P q v) := EXP.sm (fun a ne => SM.sD ne)
theorem XP.ex (h : EX P P2) : EXP (fun a => ¬ a = q) P P2 := h.mono (fun _ _ _ => trivial)
theorem XP.xT : EXP (fun a => ¬ a = q) P (sT P q t) := EXP.sm (fun a ne => SM.sT ne)
theorem XP.xC {n : Nat} : EXP (fun a => ¬ a = q) P (sC (sT P q t) q n) := EXP.sm (fun a ne => (SM.sT ne).trans (SM.sC ne))
theorem XP.rf : EXP (fun a => ¬ a = q) P P := XP.ex EX.rf
theorem fin_nt {r : Option Nat} {t1 n : Nat} (hr : 20 ≤ oT P q) (h : NT P t1 r) (h1 : t1 < 20) : NT (sC (sT P q t) q n) t1 r := fun b hb => by
  have := h b hb
  show va_up P.1 q t b = t1
  rw [vu_ne (fun e => by subst e; omega)]; exact this
theorem fin_nn {r : Option Nat} {t1 n : Nat} (hr : 20 ≤ oT P q) (h : NN P t1 r) (h1 : t1 < 20) : NN (sC (sT P q t) q n) t1 r := by
  obtain ⟨b, hb, e⟩ := h
  exact ⟨b, hb, fin_nt hr (nt_s e) h1 b rfl⟩
theorem fin_ct {r : Option Nat} {t1 n : Nat} (hr : 20 ≤ oT P q) (h : NT P t1 r) (h1 : t1 < 20) : cto (sC (sT P q t) q n) r = cto P r := by
  cases r with
  | none => rfl
  | some b =>
    have := h b rfl
    show va_up P.2.2.2.2.2.2.2 q n b = _
    rw [vu_ne (fun e => by subst e; omega)]; rfl
theorem fin_T {n : Nat} : oT (sC (sT P q t) q n) q = t := vu_eq
theorem fin_of {n : Nat} (h : PV sa P) (hr : 20 ≤ oT P q) (hq : PVat sa (sC (sT P q t) q n) q) (h7 : ¬ t = 7 := by omega) (h12 : ¬ t = 12 := by omega) : PV sa (sC (sT P q t) q n) := h.set (Or.inr hr) (fun a ne => (SM.sT ne).trans (SM.sC ne)) hq (by rw [fin_T]; exact h7) (by rw [fin_T]; exact h12)
theorem fin_C {n : Nat} : oC (sC (sT P q t) q n) q = n := vu_eq
theorem fin_1 {n : Nat} (h : PV sa P) (hr : oT P q = 21) (h1 : ∃ c, oR P 0 q = some c ∧ SOK P sa c) (h2 : NT P 6 (oR P 1 q)) (h3 : FN (oD P q)) : PV sa (sC (sT P q 1) q n) := fin_of h (by omega) (by
  obtain ⟨c, c1, c2⟩ := h1
  unfold PVat
  rw [fin_T]
  refine ⟨fun _ => ⟨⟨c, c1, ?_⟩, fin_nt (by omega) h2 (by decide), h3⟩, ?_, ?_, ?_, ?_, ?_, ?_, ?_, ?_, ?_⟩
  · rcases c2 with c2 | ⟨-, c5⟩
    · exact Or.inl (fin_nt (by omega) (nt_s c2) (by decide) c rfl)
    · exact SOK.any c5
  all_goals (intro e; exact absurd e (by decide)))
theorem fin_2 {n : Nat} (h : PV sa P) (hr : oT P q = 22) (h1 : NT P 1 (oR P 2 q)) (h2 : NT P 2 (oR P 3 q)) (h3 : NT P 2 (oR P 4 q)) (h4 : NT P 2 (oR P 5 q)) (hn : 1 + cto P (oR P 3 q) + cto P (oR P 4 q) + cto P (oR P 5 q) ≤ n) : PV sa (sC (sT P q 2) q n) := fin_of h (by omega) (by
  unfold PVat
  rw [fin_T, fin_C]
  refine ⟨?_, fun _ => ⟨fin_nt (by omega) h1 (by decide), fin_nt (by omega) h2 (by decide), fin_nt (by omega) h3 (by decide), fin_nt (by omega) h4 (by decide), ?_⟩, ?_, ?_, ?_, ?_, ?_, ?_, ?_, ?_⟩
  rotate_left 1
  · show 1 + cto _ (oR P 3 q) + cto _ (oR P 4 q) + cto _ (oR P 5 q) ≤ n
    rw [fin_ct (by omega) h2 (by decide), fin_ct (by omega) h3 (by decide), fin_ct (by omega) h4 (by decide)]; exact hn
  all_goals (intro e; exact absurd e (by decide)))
theorem fin_3 {n : Nat} (h : PV sa P) (hr : oT P q = 23) (h1 : NT P 3 (oR P 6 q)) (h2 : cto P (oR P 6 q) < n) (h3 : NN P 10 (oR P 7 q)) (h4 : NN P 11 (oR P 8 q)) (h5 : oI P 8 q = 0) (h6 : oI P 9 q = 0) : PV sa (sC (sT P q 3) q n) := fin_of h (by omega) (by
  unfold PVat
  rw [fin_T, fin_C]
  refine ⟨?_, ?_, fun _ => ⟨⟨fin_nt (by omega) h1 (by decide), ?_⟩, fin_nn (by omega) h3 (by decide), fin_nn (by omega) h4 (by decide), ?_, ?_⟩, ?_, ?_, ?_, ?_, ?_, ?_, ?_⟩
  rotate_left 2
  · show cto _ (oR P 6 q) < n
    rw [fin_ct (by omega) h1 (by decide)]; exact h2
  · show 0 ≤ (oI P 8 q).toInt ∧ (oI P 8 q).toInt ≤ 6
    rw [h5]; decide
  · show 0 ≤ (oI P 9 q).toInt ∧ (oI P 9 q).toInt ≤ 6
    rw [h6]; decide
  all_goals (intro e; exact absurd e (by decide)))
theorem fin_45 {n : Nat} (h : PV sa P) (ht : t = 4 ∨ t = 5) (hr : oT P q = 20 + t) : PV sa (sC (sT P q t) q n) := fin_of h (by omega) (by
  unfold PVat
  rw [fin_T]
  refine ⟨?_, ?_, ?_, ?_, ?_, ?_, ?_, ?_, ?_, ?_⟩ <;> (intro e; exfalso; omega))
theorem fin_6 {n : Nat} (h : PV sa P) (hr : oT P q = 26) (h1 : NN P 3 (oR P 9 q)) (h2 : NN P 9 (oR P 10 q)) : PV sa (sC (sT P q 6) q n) := fin_of h (by omega) (by
  unfold PVat
  rw [fin_T]
  refine ⟨?_, ?_, ?_, fun _ => ⟨fin_nn (by omega) h1 (by decide), fin_nn (by omega) h2 (by decide)⟩, ?_, ?_, ?_, ?_, ?_, ?_⟩
  all_goals (intro e; exact absurd e (by decide)))
theorem fin_7 {n : Nat} (h : PV sa P) (hr : oT P q = 27) (h1 : ∃ b, oR P 11 q = some b ∧ oT P b = 8 ∧ oL P b ≤ 40) (h2 : oI P 20 q = 0) (hnb : ∀ x b, oT P x = 12 → oR P 12 x = some b → ¬ oR P 11 q = some b) : PV sa (sC (sT P q 7) q n) := by
  have hs : ∀ a, ¬ a = q → SM P (sC (sT P q 7) q n) a := fun a ne => (SM.sT ne).trans (SM.sC ne)
  refine ⟨fun a => ?_, fun x b hx hb c hc e => ?_⟩
  · by_cases e : a = q
    · subst e
      obtain ⟨b, b1, b2, b3⟩ := h1
      unfold PVat
      rw [fin_T]
      refine ⟨?_, ?_, ?_, ?_, fun _ => ⟨⟨b, b1, fin_nt (by omega) (nt_s b2) (by decide) b rfl, b3⟩, h2⟩, ?_, ?_, ?_, ?_, ?_⟩
      all_goals (intro e; exact absurd e (by decide))
    · refine (h.1 a).keep (hs a e) (fun b b0 b1 => ?_)
      have z := hs b (fun e9 => by subst e9; omega)
      exact ⟨z.1, z.2.1, z.2.2.1⟩
  · have nx : ¬ x = q := fun e9 => by
      rw [e9, fin_T] at hx
      exact absurd hx (by decide)
    obtain ⟨s1, _, _, _, s5, _⟩ := hs x nx
    rw [s1] at hx
    rw [s5] at hb
    by_cases nc : c = q
    · subst nc
      exact hnb x b hx hb e
    · obtain ⟨r1, _, _, _, r5, _⟩ := hs c nc
      rw [r1] at hc
      rw [r5] at e
      exact h.2 x b hx hb c hc e
end RAW
theorem CH.fin {D : va_G} {cy : Nat → ClassId} {ad : Nat → Nat} {A : Nat → Prop} {κ : KS} {H : Heap} {q t n : Nat} (hC : CH D cy ad A κ H) (hr : oT κ.2.2.2.2 q = 20 + t) (ht : 0 < t ∧ t < 20) : CH D cy ad A (tP κ (sC (sT κ.2.2.2.2 q t) q n)) H := by
  refine CH.retag hC (fun b => ?_) (fun b => ?_)
  · show (va_up κ.2.2.2.2.1 q t b = 0) = _
    by_cases e : b = q
    · subst e
      rw [vu_eq, hr]
      exact propext ⟨fun h => by omega, fun h => by omega⟩
    · rw [vu_ne e]
  · unfold cof
    show cofT cy κ.2.2.2.2 b (oT κ.2.2.2.2 b % 20) = cofT cy (sC (sT κ.2.2.2.2 q t) q n) b (va_up κ.2.2.2.2.1 q t b % 20)
    have e1 : va_up κ.2.2.2.2.1 q t b % 20 = oT κ.2.2.2.2 b % 20 := by
      by_cases e : b = q
      · subst e
        rw [vu_eq, hr]; omega
      · rw [vu_ne e]
    rw [e1]
    exact (cofT_ne (P := κ.2.2.2.2) (P' := sC (sT κ.2.2.2.2 q t) q n) (fun j => rfl) (fun j => rfl) rfl rfl rfl rfl _).symm
