/-! ===== what holds between the calls: of the class, of the reference ===== -/
def CI (sa ad : Nat → Nat) (κ : KS) : Prop :=
  PV sa κ.2.2.2.2 ∧ SV ad κ.2.2.2.2 (κ.2.1 0) (κ.2.1 1) (κ.2.2.2.1 6) (κ.2.2.2.1 7) (κ.2.2.2.1 8) (κ.2.2.2.1 13) (κ.2.2.2.1 15) (κ.2.2.2.1 17) (κ.1 1).toInt ∧ L9 (κ.2.2.1 9) ∧ (0 ≤ (κ.1 6).toInt ∧ (κ.1 6).toInt ≤ 40) ∧ (0 ≤ (κ.1 7).toInt ∧ (κ.1 7).toInt ≤ 41) ∧ (0 ≤ (κ.1 0).toInt ∧ (κ.1 0).toInt ≤ 40) ∧ (0 ≤ (κ.1 1).toInt ∧ (κ.1 1).toInt ≤ 5) ∧ (0 ≤ (κ.1 2).toInt ∧ (κ.1 2).toInt ≤ 30) ∧ (0 ≤ (κ.1 8).toInt ∧ (κ.1 8).toInt ≤ 12) ∧ QC κ.2.2.2.2 (κ.2.2.2.1 6)
theorem QC.tk {P P' : PL} {q : Nat → Option Nat} (h : QC P q) (hn : ∀ i, NT P 2 (q i)) (e : TK P P') : QC P' q := fun i => by
  have h1 := h i
  have h2 := hn i
  unfold cto at *
  cases hq : q i with
  | none => simp
  | some b =>
    rw [hq] at h1
    have ht : oT P b = 2 := h2 b hq
    show oC P' b ≤ 82
    rw [(e b (by rw [ht]; decide)).2]; exact h1
section CIs
variable {sa ad : Nat → Nat} {κ : KS}
theorem CI.letter {f : Nat → Int32} {v : Int32} (h : CI sa ad κ) (h1 : L9 f) (h2 : 0 ≤ v.toInt ∧ v.toInt ≤ 40) : CI sa ad (tI (tA κ 9 f) 6 v) := by
  obtain ⟨c1, c2, c3, c4, c5, c6, c7, c8, c9, c10⟩ := h
  exact ⟨c1, c2, h1, h2, c5, c6, c7, c8, c9, c10⟩
theorem CI.type {P : PL} {f : Nat → Option Nat} {v : Int32} (h : CI sa ad κ) (e : EX κ.2.2.2.2 P) (h1 : PV sa P) (h2 : SV ad P (κ.2.1 0) (κ.2.1 1) (κ.2.2.2.1 6) f (κ.2.2.2.1 8) (κ.2.2.2.1 13) (κ.2.2.2.1 15) (κ.2.2.2.1 17) v.toInt) (h3 : 0 ≤ v.toInt ∧ v.toInt ≤ 5) : CI sa ad (tI (tQ (tP κ P) 7 f) 1 v) := by
  obtain ⟨c1, c2, c3, c4, c5, c6, c7, c8, c9, c10⟩ := h
  exact ⟨h1, h2, c3, c4, c5, c6, h3, c8, c9, c10.tk c2.n6 e.tk⟩
theorem CI.field {P : PL} (h : CI sa ad κ) (e : TK κ.2.2.2.2 P) (h1 : PV sa P) (h2 : SV ad P (κ.2.1 0) (κ.2.1 1) (κ.2.2.2.1 6) (κ.2.2.2.1 7) (κ.2.2.2.1 8) (κ.2.2.2.1 13) (κ.2.2.2.1 15) (κ.2.2.2.1 17) (κ.1 1).toInt) : CI sa ad (tP κ P) := by
  obtain ⟨c1, c2, c3, c4, c5, c6, c7, c8, c9, c10⟩ := h
  exact ⟨h1, h2, c3, c4, c5, c6, c7, c8, c9, c10.tk c2.n6 e⟩
theorem CI.make {P : PL} {f : Nat → Option Nat} {v : Int32} (h : CI sa ad κ) (e : EX κ.2.2.2.2 P) (h1 : PV sa P) (h2 : SV ad P (κ.2.1 0) (κ.2.1 1) (κ.2.2.2.1 6) (κ.2.2.2.1 7) f (κ.2.2.2.1 13) (κ.2.2.2.1 15) (κ.2.2.2.1 17) (κ.1 1).toInt) (h3 : 0 ≤ v.toInt ∧ v.toInt ≤ 30) : CI sa ad (tI (tQ (tP κ P) 8 f) 2 v) := by
  obtain ⟨c1, c2, c3, c4, c5, c6, c7, c8, c9, c10⟩ := h
  exact ⟨h1, h2, c3, c4, c5, c6, c7, h3, c9, c10.tk c2.n6 e.tk⟩
theorem CI.converter {f : Nat → Int32} (h : CI sa ad κ) : CI sa ad (tA κ 14 f) := by
  obtain ⟨c1, c2, c3, c4, c5, c6, c7, c8, c9, c10⟩ := h
  exact ⟨c1, c2, c3, c4, c5, c6, c7, c8, c9, c10⟩
theorem CI.keep {f : Nat → Int32} {g : Nat → Option Nat} {v : Int32} (h : CI sa ad κ) (h2 : SV ad κ.2.2.2.2 (κ.2.1 0) (κ.2.1 1) (κ.2.2.2.1 6) (κ.2.2.2.1 7) (κ.2.2.2.1 8) (κ.2.2.2.1 13) (κ.2.2.2.1 15) g (κ.1 1).toInt) (h3 : 0 ≤ v.toInt ∧ v.toInt ≤ 12) : CI sa ad (tQ (tA (tI κ 8 v) 16 f) 17 g) := by
  obtain ⟨c1, c2, c3, c4, c5, c6, c7, c8, c9, c10⟩ := h
  exact ⟨c1, h2, c3, c4, c5, c6, c7, c8, h3, c10⟩
theorem CI.put {P : PL} {r : Option Nat} {v : Int32} (h : CI sa ad κ) (e : EX κ.2.2.2.2 P) (h1 : PV sa P) (h2 : SV ad P (κ.2.1 0) r (κ.2.2.2.1 6) (κ.2.2.2.1 7) (κ.2.2.2.1 8) (κ.2.2.2.1 13) (κ.2.2.2.1 15) (κ.2.2.2.1 17) (κ.1 1).toInt) : CI sa ad (tR (tI (tP κ P) 9 v) 1 r) := by
  obtain ⟨c1, c2, c3, c4, c5, c6, c7, c8, c9, c10⟩ := h
  exact ⟨h1, h2, c3, c4, c5, c6, c7, c8, c9, c10.tk c2.n6 e.tk⟩
theorem CI.run {v8 v9 v10 v11 : Int32} {f16 : Nat → Int32} {f15 f17 : Nat → Option Nat} {P : PL} {r0 r1 : Option Nat} (h : CI sa ad κ) (e : EX κ.2.2.2.2 P) (h1 : PV sa P) (h2 : SV ad P r0 r1 (κ.2.2.2.1 6) (κ.2.2.2.1 7) (κ.2.2.2.1 8) (κ.2.2.2.1 13) f15 f17 (κ.1 1).toInt) (h3 : 0 ≤ v8.toInt ∧ v8.toInt ≤ 12) : CI sa ad (tR (tR (tP (tQ (tQ (tA (tI (tI (tI (tI κ 8 v8) 9 v9) 10 v10) 11 v11) 16 f16) 15 f15) 17 f17) P) 0 r0) 1 r1) := by
  obtain ⟨c1, c2, c3, c4, c5, c6, c7, c8, c9, c10⟩ := h
  exact ⟨h1, h2, c3, c4, c5, c6, c7, c8, h3, c10.tk c2.n6 e.tk⟩
theorem CI.parse {P : PL} {v7 v3 v4 v5 v6 v0 : Int32} {f10 f11 f12 : Nat → Int32} {g13 g6 : Nat → Option Nat} (h : CI sa ad κ) (h1 : PV sa P) (h2 : SV ad P (κ.2.1 0) (κ.2.1 1) g6 (κ.2.2.2.1 7) (κ.2.2.2.1 8) g13 (κ.2.2.2.1 15) (κ.2.2.2.1 17) (κ.1 1).toInt) (h3 : 0 ≤ v7.toInt ∧ v7.toInt ≤ 41) (h4 : 0 ≤ v0.toInt ∧ v0.toInt ≤ 40) (h5 : 0 ≤ v6.toInt ∧ v6.toInt ≤ 40) (h6 : QC P g6) : CI sa ad (tI (tQ (tI (tI (tI (tI (tQ (tA (tA (tA (tI (tP κ P) 7 v7) 10 f10) 11 f11) 12 f12) 13 g13) 3 v3) 4 v4) 5 v5) 6 v6) 6 g6) 0 v0) := by
  obtain ⟨c1, c2, c3, c4, c5, c6, c7, c8, c9, c10⟩ := h
  exact ⟨h1, h2, c3, h5, h3, h4, c7, c8, c9, h6⟩
end CIs
def MI (σ : RS) : Prop :=
  (0 ≤ (σ.1 1).toInt ∧ (σ.1 1).toInt ≤ 40) ∧ (0 ≤ (σ.1 10).toInt ∧ (σ.1 10).toInt ≤ 40) ∧ PRS (σ.1 10).toInt (σ.2.1 11) (σ.2.2.1 12) (σ.2.1 13) ∧ (0 ≤ (σ.1 35).toInt ∧ (σ.1 35).toInt ≤ 5) ∧ CLS (σ.1 35).toInt (σ.2.1 36) (σ.2.1 37) (σ.2.1 40) ∧ OBS (σ.1 47).toInt (σ.1 35).toInt (σ.2.1 48) ∧ (0 ≤ (σ.1 47).toInt ∧ (σ.1 47).toInt ≤ 30) ∧ BLS (σ.2.1 46) ∧ TYS (σ.2.1 39) ∧ TYS (σ.2.1 42) ∧ TYS (σ.2.1 43) ∧ VALS (σ.2.1 51) (σ.2.2.1 52) (σ.1 35).toInt (σ.1 47).toInt ∧ FINS (σ.2.1 51) (σ.2.2.2) 0 ∧ (0 ≤ (σ.1 49).toInt ∧ (σ.1 49).toInt ≤ 12) ∧ (∀ c : Nat, (σ.1 35).toInt ≤ (c : Int) → ((σ.2.1 37) c).toInt = 0 ∧ ((σ.2.1 40) c).toInt = 0)
theorem VALS.mono {kd : Nat → Int32} {av : Nat → Int64} {n n' ob ob' : Int} (h : VALS kd av n ob) (h1 : n ≤ n') (h2 : ob ≤ ob') : VALS kd av n' ob' := fun p hp => by
  rcases h p hp with h | ⟨a, b, c, d⟩
  · exact Or.inl h
  · exact Or.inr ⟨a, by omega, c, by omega⟩
theorem CLS.upd_fi {n : Int} {pa fi me : Nat → Int32} {k : Nat} {v : Int32} (h : CLS n pa fi me) (hv : 0 ≤ v.toInt ∧ v.toInt ≤ 6) : CLS n pa (upd fi k v) me := fun c hc => by
  obtain ⟨a, b, d, e, f, g⟩ := h c hc
  by_cases q : c = k
  · subst q; rw [upd_eq]; exact ⟨a, b, hv.1, hv.2, f, g⟩
  · rw [upd_ne q]; exact ⟨a, b, d, e, f, g⟩
theorem CLS.upd_me {n : Int} {pa fi me : Nat → Int32} {k : Nat} {v : Int32} (h : CLS n pa fi me) (hv : 0 ≤ v.toInt ∧ v.toInt ≤ 6) : CLS n pa fi (upd me k v) := fun c hc => by
  obtain ⟨a, b, d, e, f, g⟩ := h c hc
  by_cases q : c = k
  · subst q; rw [upd_eq]; exact ⟨a, b, d, e, hv.1, hv.2⟩
  · rw [upd_ne q]; exact ⟨a, b, d, e, f, g⟩
theorem TYS.upd {f : Nat → Int32} {k : Nat} {v : Int32} (h : TYS f) (hv : 0 ≤ v.toInt ∧ v.toInt ≤ 12) : TYS (upd f k v) := fun c => by
  by_cases q : c = k
  · subst q; rw [upd_eq]; exact hv
  · rw [upd_ne q]; exact h c
theorem BLS.upd {f : Nat → Int32} {k : Nat} {v : Int32} (h : BLS f) (hv : v.toInt = 0 ∨ v.toInt = 1) : BLS (upd f k v) := fun c => by
  by_cases q : c = k
  · subst q; rw [upd_eq]; exact hv
  · rw [upd_ne q]; exact h c
/-- the classes: which objects they are, how many methods they have -/
def R6 (κ : KS) (σ : RS) : Prop := (∀ c : Nat, (c : Int) < (σ.1 35).toInt → ∃ a, κ.2.2.2.1 7 c = some a ∧ oT κ.2.2.2.2 a = 3 ∧ (oI κ.2.2.2.2 9 a).toInt = (σ.2.1 40 c).toInt) ∧ (∀ c d : Nat, (c : Int) < (σ.1 35).toInt → (d : Int) < (σ.1 35).toInt → κ.2.2.2.1 7 c = κ.2.2.2.1 7 d → c = d)
theorem R6.same {κ κ2 : KS} {σ σ' : RS} (h : R6 κ σ) (f9 : F9 κ.2.2.2.2 κ2.2.2.2.2) (hq : κ2.2.2.2.1 7 = κ.2.2.2.1 7) (s35 : (σ'.1 35).toInt = (σ.1 35).toInt) (s40 : σ'.2.1 40 = σ.2.1 40) : R6 κ2 σ' := by
  refine ⟨fun c hc => ?_, fun c d hc hd e => ?_⟩
  · rw [s35] at hc
    obtain ⟨a, a1, a2, a3⟩ := h.1 c hc
    exact ⟨a, by rw [hq]; exact a1, (f9 a a2).1, by rw [(f9 a a2).2, s40]; exact a3⟩
  · rw [s35] at hc hd
    rw [hq] at e
    exact h.2 c d hc hd e
theorem R6.type {κ κ2 : KS} {σ σ' : RS} {a : Nat} (h : R6 κ σ) (hn : (κ.1 1).toInt = (σ.1 35).toInt) (h0 : 0 ≤ (σ.1 35).toInt) (f9 : F9 κ.2.2.2.2 κ2.2.2.2.2) (hq : κ2.2.2.2.1 7 = va_up (κ.2.2.2.1 7) (κ.1 1).toNatClampNeg (some a)) (ha0 : oT κ.2.2.2.2 a = 0) (ha3 : oT κ2.2.2.2.2 a = 3) (ha9 : oI κ2.2.2.2.2 9 a = 0) (s35 : (σ'.1 35).toInt = (σ.1 35).toInt + 1) (s40 : σ'.2.1 40 = σ.2.1 40) (m15 : ∀ c : Nat, (σ.1 35).toInt ≤ (c : Int) → (σ.2.1 40 c).toInt = 0) : R6 κ2 σ' := by
  have en : (κ.1 1).toNatClampNeg = (σ.1 35).toInt.toNat := by show (κ.1 1).toInt.toNat = _; rw [hn]
  rw [en] at hq
  have z0 : (0 : Int32).toInt = 0 := by decide
  have key : ∀ c : Nat, (c : Int) < (σ'.1 35).toInt → (c = (σ.1 35).toInt.toNat ∧ κ2.2.2.2.1 7 c = some a) ∨ ((c : Int) < (σ.1 35).toInt ∧ κ2.2.2.2.1 7 c = κ.2.2.2.1 7 c) := fun c hc => by
    rw [hq]
    by_cases e : c = (σ.1 35).toInt.toNat
    · left; subst e; exact ⟨rfl, vu_eq⟩
    · right; exact ⟨by omega, vu_ne e⟩
  refine ⟨fun c hc => ?_, fun c d hc hd e => ?_⟩
  · rcases key c hc with ⟨e1, e2⟩ | ⟨e1, e2⟩
    · exact ⟨a, e2, ha3, by rw [ha9, s40, z0, m15 c (by omega)]⟩
    · obtain ⟨b, b1, b2, b3⟩ := h.1 c e1
      exact ⟨b, by rw [e2]; exact b1, (f9 b b2).1, by rw [(f9 b b2).2, s40]; exact b3⟩
  · rcases key c hc with ⟨e1, e2⟩ | ⟨e1, e2⟩ <;> rcases key d hd with ⟨e3, e4⟩ | ⟨e3, e4⟩
    · omega
    · obtain ⟨b, b1, b2, b3⟩ := h.1 d e3
      rw [e2, e4, b1] at e
      have := Option.some.inj e
      rw [← this, ha0] at b2; exact absurd b2 (by decide)
    · obtain ⟨b, b1, b2, b3⟩ := h.1 c e1
      rw [e2, e4, b1] at e
      have := Option.some.inj e
      rw [this, ha0] at b2; exact absurd b2 (by decide)
    · rw [e2, e4] at e; exact h.2 c d e1 e3 e
theorem R6.meth {κ κ2 : KS} {σ σ' : RS} {a : Nat} {k0 v : Int32} (h : R6 κ σ) (hin : 0 ≤ k0.toInt ∧ k0.toInt < (σ.1 35).toInt) (ha : κ.2.2.2.1 7 k0.toNatClampNeg = some a) (e9 : (oI κ2.2.2.2.2 9 a).toInt = (oI κ.2.2.2.2 9 a).toInt + 1) (m9 : ∀ x : Nat, oT κ.2.2.2.2 x = 3 → oT κ2.2.2.2.2 x = 3 ∧ (¬ x = a → oI κ2.2.2.2.2 9 x = oI κ.2.2.2.2 9 x)) (hq : κ2.2.2.2.1 7 = κ.2.2.2.1 7) (s35 : σ'.1 35 = σ.1 35) (hv : v.toInt = (σ.2.1 40 k0.toInt.toNat).toInt + 1) (s40 : σ'.2.1 40 = upd (σ.2.1 40) k0.toInt.toNat v) : R6 κ2 σ' := by
  have ek : k0.toNatClampNeg = k0.toInt.toNat := rfl
  rw [ek] at ha
  refine ⟨fun c hc => ?_, fun c d hc hd e => ?_⟩
  · rw [s35] at hc
    obtain ⟨b, b1, b2, b3⟩ := h.1 c hc
    refine ⟨b, by rw [hq]; exact b1, (m9 b b2).1, ?_⟩
    rw [s40]
    by_cases q : c = k0.toInt.toNat
    · subst q
      rw [ha] at b1
      have := Option.some.inj b1
      subst this
      rw [upd_eq, hv, e9, b3]
    · have hne : ¬ b = a := fun e => q (h.2 c _ hc (by omega) (by rw [b1, ha, e]))
      rw [upd_ne q, (m9 b b2).2 hne]; exact b3
  · rw [s35] at hc hd
    rw [hq] at e
    exact h.2 c d hc hd e
theorem R6.at {κ : KS} {σ : RS} {a : Nat} {k0 : Int32} (h : R6 κ σ) (hin : 0 ≤ k0.toInt ∧ k0.toInt < (σ.1 35).toInt) (ha : κ.2.2.2.1 7 k0.toNatClampNeg = some a) : (oI κ.2.2.2.2 9 a).toInt = (σ.2.1 40 k0.toInt.toNat).toInt := by
  have ek : k0.toNatClampNeg = k0.toInt.toNat := rfl
  rw [ek] at ha
  obtain ⟨b, b1, b2, b3⟩ := h.1 k0.toInt.toNat (by omega)
  rw [ha] at b1
  rw [Option.some.inj b1]; exact b3
/-- the classes' own fields -/
def R5 (κ : KS) (σ : RS) : Prop := (∀ c : Nat, (c : Int) < (σ.1 35).toInt → ∃ a b, κ.2.2.2.1 7 c = some a ∧ oT κ.2.2.2.2 a = 3 ∧ (oI κ.2.2.2.2 8 a).toInt = (σ.2.1 37 c).toInt ∧ oR κ.2.2.2.2 7 a = some b ∧ oT κ.2.2.2.2 b = 10 ∧ ∀ i : Nat, (i : Int) < (σ.2.1 37 c).toInt → ∃ f, oA κ.2.2.2.2 b i = some f ∧ oT κ.2.2.2.2 f = 4 ∧ oI κ.2.2.2.2 10 f = σ.2.1 38 (6 * c + i)) ∧
  (∀ c d a a' b : Nat, (c : Int) < (σ.1 35).toInt → (d : Int) < (σ.1 35).toInt → κ.2.2.2.1 7 c = some a → κ.2.2.2.1 7 d = some a' → oR κ.2.2.2.2 7 a = some b → oR κ.2.2.2.2 7 a' = some b → c = d)
theorem R5.same {κ κ2 : KS} {σ σ' : RS} (h : R5 κ σ) (f5 : F5 κ.2.2.2.2 κ2.2.2.2.2) (hq : κ2.2.2.2.1 7 = κ.2.2.2.1 7) (s35 : (σ'.1 35).toInt = (σ.1 35).toInt) (s37 : σ'.2.1 37 = σ.2.1 37) (s38 : σ'.2.1 38 = σ.2.1 38) : R5 κ2 σ' := by
  refine ⟨fun c hc => ?_, fun c d a a' b hc hd ha ha' hb hb' => ?_⟩
  · rw [s35] at hc
    obtain ⟨a, b, a1, a2, a3, a4, a5, a6⟩ := h.1 c hc
    obtain ⟨x1, x2, x3⟩ := f5.1 a a2
    obtain ⟨y1, y2⟩ := f5.2.1 b a5
    refine ⟨a, b, by rw [hq]; exact a1, x1, by rw [x2, s37]; exact a3, by rw [x3]; exact a4, y1, fun i hi => ?_⟩
    rw [s37] at hi
    obtain ⟨f, z1, z2, z3⟩ := a6 i hi
    exact ⟨f, by rw [y2]; exact z1, (f5.2.2 f z2).1, by rw [(f5.2.2 f z2).2, s38]; exact z3⟩
  · rw [s35] at hc hd
    rw [hq] at ha ha'
    obtain ⟨u, v, a1, a2, a3, a4, a5, a6⟩ := h.1 c hc
    obtain ⟨u', v', b1, b2, b3, b4, b5, b6⟩ := h.1 d hd
    rw [a1] at ha; rw [b1] at ha'
    have e1 := Option.some.inj ha; have e2 := Option.some.inj ha'
    subst e1; subst e2
    rw [(f5.1 u a2).2.2] at hb; rw [(f5.1 u' b2).2.2] at hb'
    exact h.2 c d u u' b hc hd a1 b1 hb hb'
theorem R5.type {κ κ2 : KS} {σ σ' : RS} {a b : Nat} (h : R5 κ σ) (hn : (κ.1 1).toInt = (σ.1 35).toInt) (h0 : 0 ≤ (σ.1 35).toInt) (f5 : F5 κ.2.2.2.2 κ2.2.2.2.2) (hq : κ2.2.2.2.1 7 = va_up (κ.2.2.2.1 7) (κ.1 1).toNatClampNeg (some a)) (ha0 : oT κ.2.2.2.2 a = 0) (ha3 : oT κ2.2.2.2.2 a = 3) (ha8 : oI κ2.2.2.2.2 8 a = 0) (hb : oR κ2.2.2.2.2 7 a = some b) (hb0 : oT κ.2.2.2.2 b = 0) (hb1 : oT κ2.2.2.2.2 b = 10) (s35 : (σ'.1 35).toInt = (σ.1 35).toInt + 1) (s37 : σ'.2.1 37 = σ.2.1 37) (s38 : σ'.2.1 38 = σ.2.1 38) (m15 : ∀ c : Nat, (σ.1 35).toInt ≤ (c : Int) → (σ.2.1 37 c).toInt = 0) : R5 κ2 σ' := by
  have en : (κ.1 1).toNatClampNeg = (σ.1 35).toInt.toNat := by show (κ.1 1).toInt.toNat = _; rw [hn]
  rw [en] at hq
  have z0 : (0 : Int32).toInt = 0 := by decide
  have key : ∀ c : Nat, (c : Int) < (σ'.1 35).toInt → (c = (σ.1 35).toInt.toNat ∧ κ2.2.2.2.1 7 c = some a) ∨ ((c : Int) < (σ.1 35).toInt ∧ κ2.2.2.2.1 7 c = κ.2.2.2.1 7 c) := fun c hc => by
    rw [hq]
    by_cases e : c = (σ.1 35).toInt.toNat
    · left; subst e; exact ⟨rfl, vu_eq⟩
    · right; exact ⟨by omega, vu_ne e⟩
  refine ⟨fun c hc => ?_, fun c d u u' w hc hd hu hu' hw hw' => ?_⟩
  · rcases key c hc with ⟨e1, e2⟩ | ⟨e1, e2⟩
    · have hz := m15 c (by omega)
      refine ⟨a, b, e2, ha3, by rw [ha8, s37, z0, hz], hb, hb1, fun i hi => ?_⟩
      rw [s37, hz] at hi; omega
    · obtain ⟨a', b', a1, a2, a3, a4, a5, a6⟩ := h.1 c e1
      obtain ⟨x1, x2, x3⟩ := f5.1 a' a2
      obtain ⟨y1, y2⟩ := f5.2.1 b' a5
      refine ⟨a', b', by rw [e2]; exact a1, x1, by rw [x2, s37]; exact a3, by rw [x3]; exact a4, y1, fun i hi => ?_⟩
      rw [s37] at hi
      obtain ⟨f, z1, z2, z3⟩ := a6 i hi
      exact ⟨f, by rw [y2]; exact z1, (f5.2.2 f z2).1, by rw [(f5.2.2 f z2).2, s38]; exact z3⟩
  · have old : ∀ e v w' : Nat, (e : Int) < (σ.1 35).toInt → κ.2.2.2.1 7 e = some v → oR κ2.2.2.2.2 7 v = some w' → oR κ.2.2.2.2 7 v = some w' ∧ oT κ.2.2.2.2 w' = 10 := fun e v w' he hv hw' => by
      obtain ⟨a', b', a1, a2, a3, a4, a5, a6⟩ := h.1 e he
      rw [a1] at hv
      have ev := Option.some.inj hv
      subst ev
      rw [(f5.1 a' a2).2.2] at hw'
      rw [a4] at hw'
      have ew := Option.some.inj hw'
      subst ew
      exact ⟨a4, a5⟩
    rcases key c hc with ⟨e1, e2⟩ | ⟨e1, e2⟩ <;> rcases key d hd with ⟨e3, e4⟩ | ⟨e3, e4⟩
    · omega
    · rw [e2] at hu; rw [e4] at hu'
      have eu := Option.some.inj hu
      subst eu
      rw [hb] at hw
      have ew := Option.some.inj hw
      subst ew
      have := (old d u' b e3 hu' hw').2
      rw [hb0] at this; exact absurd this (by decide)
    · rw [e2] at hu; rw [e4] at hu'
      have eu := Option.some.inj hu'
      subst eu
      rw [hb] at hw'
      have ew := Option.some.inj hw'
      subst ew
      have := (old c u b e1 hu hw).2
      rw [hb0] at this; exact absurd this (by decide)
    · rw [e2] at hu; rw [e4] at hu'
      exact h.2 c d u u' w e1 e3 hu hu' (old c u w e1 hu hw).1 (old d u' w e3 hu' hw').1
/-- a class has the name among its fields: so has the reference -/
theorem R5.on {κ : KS} {σ : RS} {a : Nat} {k0 k1 : Int32} (h : R5 κ σ) (hin : 0 ≤ k0.toInt ∧ k0.toInt < (σ.1 35).toInt) (ha : κ.2.2.2.1 7 k0.toNatClampNeg = some a) : (oI κ.2.2.2.2 8 a).toInt = (σ.2.1 37 k0.toNatClampNeg).toInt ∧ (ON κ.2.2.2.2 a (oI κ.2.2.2.2 8 a).toInt k1 ↔ THR (σ.2.1 38) (6 * k0.toInt) (6 * k0.toInt + (σ.2.1 37 k0.toNatClampNeg).toInt) k1) := by
  have ek : ((k0.toNatClampNeg : Nat) : Int) = k0.toInt := by show ((k0.toInt.toNat : Nat) : Int) = _; omega
  obtain ⟨a', b, a1, a2, a3, a4, a5, a6⟩ := h.1 k0.toNatClampNeg (by omega)
  rw [a1] at ha
  have e := Option.some.inj ha
  subst e
  refine ⟨a3, fun ⟨i, b', f, h1, h2, h3, h4⟩ => ?_, fun ⟨p, p1, p2, p3⟩ => ?_⟩
  · rw [a4] at h2
    have e := Option.some.inj h2
    subst e
    obtain ⟨f', z1, z2, z3⟩ := a6 i (by omega)
    rw [z1] at h3
    have e := Option.some.inj h3
    subst e
    exact ⟨6 * k0.toNatClampNeg + i, by omega, by omega, by rw [← z3]; exact h4⟩
  · obtain ⟨f, z1, z2, z3⟩ := a6 (p - 6 * k0.toNatClampNeg) (by omega)
    refine ⟨p - 6 * k0.toNatClampNeg, b, f, by omega, a4, z1, ?_⟩
    rw [z3, show 6 * k0.toNatClampNeg + (p - 6 * k0.toNatClampNeg) = p by omega]; exact p3
theorem R5.field {κ κ2 : KS} {σ σ' : RS} {sa : Nat → Nat} {a : Nat} {k0 k1 v : Int32} (h : R5 κ σ) (h6 : R6 κ σ) (hPV : PV sa κ.2.2.2.2) (hin : 0 ≤ k0.toInt ∧ k0.toInt < (σ.1 35).toInt) (ha : κ.2.2.2.1 7 k0.toNatClampNeg = some a) (hl : ∀ c : Nat, (c : Int) < (σ.1 35).toInt → 0 ≤ (σ.2.1 37 c).toInt ∧ (σ.2.1 37 c).toInt ≤ 6) (h8 : (oI κ.2.2.2.2 8 a).toInt < 6) (e8 : (oI κ2.2.2.2.2 8 a).toInt = (oI κ.2.2.2.2 8 a).toInt + 1) (fc : FC 7 κ.2.2.2.2 κ2.2.2.2.2 a) (tk : TK κ.2.2.2.2 κ2.2.2.2.2) (af : AF κ.2.2.2.2 κ2.2.2.2.2 a k1) (hq : κ2.2.2.2.1 7 = κ.2.2.2.1 7) (s35 : σ'.1 35 = σ.1 35) (hv : v.toInt = (σ.2.1 37 k0.toNatClampNeg).toInt + 1) (s37 : σ'.2.1 37 = upd (σ.2.1 37) k0.toInt.toNat v) (s38 : σ'.2.1 38 = upd (σ.2.1 38) (6 * k0.toInt + (σ.2.1 37 k0.toNatClampNeg).toInt).toNat k1) : R5 κ2 σ' := by
  have ek : k0.toNatClampNeg = k0.toInt.toNat := rfl
  have ekz : ((k0.toInt.toNat : Nat) : Int) = k0.toInt := by omega
  rw [ek] at ha hv s38
  obtain ⟨a', b, a1, a2, a3, a4, a5, a6⟩ := h.1 k0.toInt.toNat (by omega)
  rw [a1] at ha
  have e := Option.some.inj ha
  subst e
  obtain ⟨b', f, f1, f2, f3, f4, f5⟩ := af
  rw [a4] at f1
  have e := Option.some.inj f1
  subst e
  have ec : ((oI κ.2.2.2.2 8 a').toNatClampNeg : Nat) = (σ.2.1 37 k0.toInt.toNat).toInt.toNat := by show (oI κ.2.2.2.2 8 a').toInt.toNat = _; rw [a3]
  have hlk := hl k0.toInt.toNat (by omega)
  have keep : ∀ x : Nat, ¬ oT κ.2.2.2.2 x = 0 → ¬ x = a' → ¬ x = b → oI κ2.2.2.2.2 8 x = oI κ.2.2.2.2 8 x ∧ oR κ2.2.2.2.2 7 x = oR κ.2.2.2.2 7 x ∧ (oT κ.2.2.2.2 x = 10 → oA κ2.2.2.2.2 x = oA κ.2.2.2.2 x) ∧ oI κ2.2.2.2.2 10 x = oI κ.2.2.2.2 10 x := fun x h0 hx hb => by
    obtain ⟨x1, x2, x3, x4, x5, x6, x7⟩ := fc.1 x h0 ⟨hx, fun h => hb (by rw [a4] at h; exact (Option.some.inj h).symm)⟩
    exact ⟨x4 8 (by decide), x5 7 (by decide), fun h => x7 (Or.inl h), x4 10 (by decide)⟩
  have nm : ∀ g : Nat, oT κ.2.2.2.2 g = 4 → oT κ2.2.2.2.2 g = 4 ∧ oI κ2.2.2.2.2 10 g = oI κ.2.2.2.2 10 g := fun g hg => ⟨tk.T hg (by decide), (keep g (by rw [hg]; decide) (fun e => by rw [e, a2] at hg; exact absurd hg (by decide)) (fun e => by rw [e, a5] at hg; exact absurd hg (by decide))).2.2.2⟩
  have r7 : ∀ x : Nat, oT κ.2.2.2.2 x = 3 → oR κ2.2.2.2.2 7 x = oR κ.2.2.2.2 7 x := fun x hx => by
    by_cases q : x = a'
    · subst q; exact fc.2.1 7 (by decide)
    · exact (keep x (by rw [hx]; decide) q (fun e => by rw [e, a5] at hx; exact absurd hx (by decide))).2.1
  refine ⟨fun c hc => ?_, fun c d u u' w hc hd hu hu' hw hw' => ?_⟩
  · rw [s35] at hc
    obtain ⟨u, w, u1, u2, u3, u4, u5, u6⟩ := h.1 c hc
    have hlc := hl c hc
    by_cases q : c = k0.toInt.toNat
    · subst q
      rw [a1] at u1
      have e := Option.some.inj u1
      subst e
      rw [a4] at u4
      have e := Option.some.inj u4
      subst e
      refine ⟨a', b, by rw [hq]; exact a1, tk.T a2 (by decide), by rw [s37, upd_eq, hv, e8, a3], by rw [r7 a' a2]; exact a4, tk.T a5 (by decide), fun i hi => ?_⟩
      rw [s37, upd_eq, hv] at hi
      rw [f2, ec, s38]
      by_cases qi : i = (σ.2.1 37 k0.toInt.toNat).toInt.toNat
      · refine ⟨f, by rw [qi, vu_eq], f4, ?_⟩
        rw [show 6 * k0.toInt.toNat + i = (6 * k0.toInt + (σ.2.1 37 k0.toInt.toNat).toInt).toNat by omega, upd_eq]; exact f5
      · obtain ⟨g, g1, g2, g3⟩ := a6 i (by omega)
        refine ⟨g, by rw [vu_ne qi]; exact g1, (nm g g2).1, ?_⟩
        rw [upd_ne (by omega), (nm g g2).2]; exact g3
    · have hne : ¬ u = a' := fun e => q (h6.2 c _ hc (by omega) (by rw [u1, a1, e]))
      have hwb : ¬ w = b := fun e => q (h.2 c _ u a' b hc (by omega) u1 a1 (by rw [u4, e]) a4)
      have kc := keep u (by rw [u2]; decide) hne (fun e => by rw [e, a5] at u2; exact absurd u2 (by decide))
      have kw := keep w (by rw [u5]; decide) (fun e => by rw [e, a2] at u5; exact absurd u5 (by decide)) hwb
      refine ⟨u, w, by rw [hq]; exact u1, tk.T u2 (by decide), by rw [kc.1, s37, upd_ne q]; exact u3, by rw [kc.2.1]; exact u4, tk.T u5 (by decide), fun i hi => ?_⟩
      rw [s37, upd_ne q] at hi
      obtain ⟨g, g1, g2, g3⟩ := u6 i hi
      refine ⟨g, by rw [kw.2.2.1 u5]; exact g1, (nm g g2).1, ?_⟩
      rw [s38, upd_ne (by omega), (nm g g2).2]; exact g3
  · rw [s35] at hc hd
    rw [hq] at hu hu'
    obtain ⟨v1, w1, u1, u2, u3, u4, u5, u6⟩ := h.1 c hc
    obtain ⟨v2, w2, x1, x2, x3, x4, x5, x6⟩ := h.1 d hd
    rw [u1] at hu; rw [x1] at hu'
    have ev := Option.some.inj hu; have ew := Option.some.inj hu'
    subst ev; subst ew
    rw [r7 v1 u2] at hw; rw [r7 v2 x2] at hw'
    exact h.2 c d v1 v2 w hc hd u1 x1 hw hw'
/-- what class and reference have in common -/
def RE (κ : KS) (σ : RS) : Prop := (κ.1 6).toInt = (σ.1 1).toInt ∧ (∀ j : Nat, (j : Int) < (κ.1 6).toInt → (κ.2.2.1 9 j).toInt = (σ.2.1 2 j).toInt) ∧ (κ.1 0).toInt = (σ.1 10).toInt
theorem RE.of {κ κ' : KS} {σ σ' : RS} (h : RE κ σ) (e1 : κ'.1 6 = κ.1 6) (e2 : κ'.2.2.1 9 = κ.2.2.1 9) (e3 : κ'.1 0 = κ.1 0) (s1 : σ'.1 1 = σ.1 1) (s2 : σ'.2.1 2 = σ.2.1 2) (s3 : σ'.1 10 = σ.1 10) : RE κ' σ' := by
  refine ⟨?_, ?_, ?_⟩
  · rw [e1, s1]; exact h.1
  · rw [e1, e2, s2]; exact h.2.1
  · rw [e3, s3]; exact h.2.2
theorem RE.letter {κ κ' : KS} {σ σ' : RS} {k0 : Int32} (h : RE κ σ) (h0 : 0 ≤ (κ.1 6).toInt) (n1 : (κ'.1 6).toInt = (κ.1 6).toInt + 1) (n2 : (σ'.1 1).toInt = (σ.1 1).toInt + 1) (f1 : κ'.2.2.1 9 = upd (κ.2.2.1 9) (κ.1 6).toNatClampNeg k0) (f2 : σ'.2.1 2 = upd (σ.2.1 2) (σ.1 1).toNatClampNeg k0) (p1 : κ'.1 0 = κ.1 0) (p2 : σ'.1 10 = σ.1 10) : RE κ' σ' := by
  have ek : (κ.1 6).toNatClampNeg = (κ.1 6).toInt.toNat := rfl
  have es : (σ.1 1).toNatClampNeg = (σ.1 1).toInt.toNat := rfl
  have e := h.1
  refine ⟨by omega, fun j hj => ?_, by rw [p1, p2]; exact h.2.2⟩
  rw [f1, f2, ek, es, ← e]
  by_cases q : j = (κ.1 6).toInt.toNat
  · subst q; rw [upd_eq, upd_eq]
  · rw [upd_ne q, upd_ne q]; exact h.2.1 j (by omega)
theorem RE_tx {κ : KS} {σ : RS} (h : RE κ σ) : tx (κ.2.2.1 9) (κ.1 6) = tx (σ.2.1 2) (σ.1 1) := by
  funext x
  unfold tx
  have e := h.1
  by_cases q : 0 ≤ x ∧ x < (κ.1 6).toInt
  · rw [if_pos q, if_pos ⟨q.1, by rw [← e]; exact q.2⟩]; exact h.2.1 x.toNat (by omega)
  · rw [if_neg q, if_neg (by rw [← e]; exact q)]
theorem ANS_u {R : (Int × Int) ⊕ IS} {r p q r2 p2 q2 : Int32} (h : ANS R r p q) (h2 : ANS R r2 p2 q2) (e : p.toInt = p2.toInt) : r = r2 ∧ q.toInt = q2.toInt := by
  cases R with
  | inl x =>
    obtain ⟨x1, x2⟩ := x
    obtain ⟨⟨a, b, a1, a2, a3⟩, a4⟩ := h
    obtain ⟨⟨c, d, c1, c2, c3⟩, c4⟩ := h2
    have e1 : a = c := Int32.toInt_inj.mp (a1.trans c1.symm)
    have e2 : b = d := Int32.toInt_inj.mp (a2.trans c2.symm)
    subst e1 e2
    exact ⟨a3.trans c3.symm, by omega⟩
  | inr x =>
    obtain ⟨a1, a2⟩ := h
    obtain ⟨c1, c2⟩ := h2
    exact ⟨Int32.toInt_inj.mp (by omega), by omega⟩
theorem upd_both {f g : Nat → Int32} {n k : Nat} {v : Int32} (h : ∀ j : Nat, j < n → (f j).toInt = (g j).toInt) : ∀ j : Nat, j < n → (upd f k v j).toInt = (upd g k v j).toInt := fun j hj => by
  by_cases q : j = k
  · subst q; rw [upd_eq, upd_eq]
  · rw [upd_ne q, upd_ne q]; exact h j hj
