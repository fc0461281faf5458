/-! ===== what holds between the calls: of the class, of the reference ===== -/
def CI (sa ad : Nat → Nat) (κ : KS) : Prop :=
  PV sa κ.2.2.2.2 ∧ SV ad κ.2.2.2.2 (κ.2.1 0) (κ.2.1 1) (κ.2.2.2.1 6) (κ.2.2.2.1 7) (κ.2.2.2.1 8) (κ.2.2.2.1 13) (κ.2.2.2.1 15) (κ.2.2.2.1 17) (κ.1 1).toInt ∧ L9 (κ.2.2.1 9) ∧ (0 ≤ (κ.1 6).toInt ∧ (κ.1 6).toInt ≤ 40) ∧ (0 ≤ (κ.1 7).toInt ∧ (κ.1 7).toInt ≤ 41) ∧ (0 ≤ (κ.1 0).toInt ∧ (κ.1 0).toInt ≤ 40) ∧ (0 ≤ (κ.1 1).toInt ∧ (κ.1 1).toInt ≤ 5) ∧ (0 ≤ (κ.1 2).toInt ∧ (κ.1 2).toInt ≤ 30) ∧ (0 ≤ (κ.1 8).toInt ∧ (κ.1 8).toInt ≤ 12) ∧ QC κ.2.2.2.2 (κ.2.2.2.1 6)
theorem QC.tk {P P' : PL} {q : Nat → Option Nat} (h : QC P q) (hn : ∀ i, NT P 2 (q i)) (e : TK P P') : QC P' q := fun i => by
  have h1 := h i
  have h2 := hn i
  unfold cto at *
  cases hq : q i with
  | none => simp
  | some b =>
    rw [hq] at h1
    have ht : oT P b = 2 := h2 b hq
    show oC P' b ≤ 82
    rw [(e b (by rw [ht]; decide)).2]; exact h1
section CIs
variable {sa ad : Nat → Nat} {κ : KS}
theorem CI.letter {f : Nat → Int32} {v : Int32} (h : CI sa ad κ) (h1 : L9 f) (h2 : 0 ≤ v.toInt ∧ v.toInt ≤ 40) : CI sa ad (tI (tA κ 9 f) 6 v) := by
  obtain ⟨c1, c2, c3, c4, c5, c6, c7, c8, c9, c10⟩ := h
  exact ⟨c1, c2, h1, h2, c5, c6, c7, c8, c9, c10⟩
theorem CI.type {P : PL} {f : Nat → Option Nat} {v : Int32} (h : CI sa ad κ) (e : EX κ.2.2.2.2 P) (h1 : PV sa P) (h2 : SV ad P (κ.2.1 0) (κ.2.1 1) (κ.2.2.2.1 6) f (κ.2.2.2.1 8) (κ.2.2.2.1 13) (κ.2.2.2.1 15) (κ.2.2.2.1 17) v.toInt) (h3 : 0 ≤ v.toInt ∧ v.toInt ≤ 5) : CI sa ad (tI (tQ (tP κ P) 7 f) 1 v) := by
  obtain ⟨c1, c2, c3, c4, c5, c6, c7, c8, c9, c10⟩ := h
  exact ⟨h1, h2, c3, c4, c5, c6, h3, c8, c9, c10.tk c2.n6 e.tk⟩
theorem CI.field {P : PL} (h : CI sa ad κ) (e : TK κ.2.2.2.2 P) (h1 : PV sa P) (h2 : SV ad P (κ.2.1 0) (κ.2.1 1) (κ.2.2.2.1 6) (κ.2.2.2.1 7) (κ.2.2.2.1 8) (κ.2.2.2.1 13) (κ.2.2.2.1 15) (κ.2.2.2.1 17) (κ.1 1).toInt) : CI sa ad (tP κ P) := by
  obtain ⟨c1, c2, c3, c4, c5, c6, c7, c8, c9, c10⟩ := h
  exact ⟨h1, h2, c3, c4, c5, c6, c7, c8, c9, c10.tk c2.n6 e⟩
theorem CI.make {P : PL} {f : Nat → Option Nat} {v : Int32} (h : CI sa ad κ) (e : EX κ.2.2.2.2 P) (h1 : PV sa P) (h2 : SV ad P (κ.2.1 0) (κ.2.1 1) (κ.2.2.2.1 6) (κ.2.2.2.1 7) f (κ.2.2.2.1 13) (κ.2.2.2.1 15) (κ.2.2.2.1 17) (κ.1 1).toInt) (h3 : 0 ≤ v.toInt ∧ v.toInt ≤ 30) : CI sa ad (tI (tQ (tP κ P) 8 f) 2 v) := by
  obtain ⟨c1, c2, c3, c4, c5, c6, c7, c8, c9, c10⟩ := h
  exact ⟨h1, h2, c3, c4, c5, c6, c7, h3, c9, c10.tk c2.n6 e.tk⟩
theorem CI.converter {f : Nat → Int32} (h : CI sa ad κ) : CI sa ad (tA κ 14 f) := by
  obtain ⟨c1, c2, c3, c4, c5, c6, c7, c8, c9, c10⟩ := h
  exact ⟨c1, c2, c3, c4, c5, c6, c7, c8, c9, c10⟩
theorem CI.keep {f : Nat → Int32} {g : Nat → Option Nat} {v : Int32} (h : CI sa ad κ) (h2 : SV ad κ.2.2.2.2 (κ.2.1 0) (κ.2.1 1) (κ.2.2.2.1 6) (κ.2.2.2.1 7) (κ.2.2.2.1 8) (κ.2.2.2.1 13) (κ.2.2.2.1 15) g (κ.1 1).toInt) (h3 : 0 ≤ v.toInt ∧ v.toInt ≤ 12) : CI sa ad (tQ (tA (tI κ 8 v) 16 f) 17 g) := by
  obtain ⟨c1, c2, c3, c4, c5, c6, c7, c8, c9, c10⟩ := h
  exact ⟨c1, h2, c3, c4, c5, c6, c7, c8, h3, c10⟩
theorem CI.put {P : PL} {r : Option Nat} {v : Int32} (h : CI sa ad κ) (e : EX κ.2.2.2.2 P) (h1 : PV sa P) (h2 : SV ad P (κ.2.1 0) r (κ.2.2.2.1 6) (κ.2.2.2.1 7) (κ.2.2.2.1 8) (κ.2.2.2.1 13) (κ.2.2.2.1 15) (κ.2.2.2.1 17) (κ.1 1).toInt) : CI sa ad (tR (tI (tP κ P) 9 v) 1 r) := by
  obtain ⟨c1, c2, c3, c4, c5, c6, c7, c8, c9, c10⟩ := h
  exact ⟨h1, h2, c3, c4, c5, c6, c7, c8, c9, c10.tk c2.n6 e.tk⟩
theorem CI.run {v8 v9 v10 v11 : Int32} {f16 : Nat → Int32} {f15 f17 : Nat → Option Nat} {P : PL} {r0 r1 : Option Nat} (h : CI sa ad κ) (e : EX κ.2.2.2.2 P) (h1 : PV sa P) (h2 : SV ad P r0 r1 (κ.2.2.2.1 6) (κ.2.2.2.1 7) (κ.2.2.2.1 8) (κ.2.2.2.1 13) f15 f17 (κ.1 1).toInt) (h3 : 0 ≤ v8.toInt ∧ v8.toInt ≤ 12) : CI sa ad (tR (tR (tP (tQ (tQ (tA (tI (tI (tI (tI κ 8 v8) 9 v9) 10 v10) 11 v11) 16 f16) 15 f15) 17 f17) P) 0 r0) 1 r1) := by
  obtain ⟨c1, c2, c3, c4, c5, c6, c7, c8, c9, c10⟩ := h
  exact ⟨h1, h2, c3, c4, c5, c6, c7, c8, h3, c10.tk c2.n6 e.tk⟩
theorem CI.parse {P : PL} {v7 v3 v4 v5 v6 v0 : Int32} {f10 f11 f12 : Nat → Int32} {g13 g6 : Nat → Option Nat} (h : CI sa ad κ) (h1 : PV sa P) (h2 : SV ad P (κ.2.1 0) (κ.2.1 1) g6 (κ.2.2.2.1 7) (κ.2.2.2.1 8) g13 (κ.2.2.2.1 15) (κ.2.2.2.1 17) (κ.1 1).toInt) (h3 : 0 ≤ v7.toInt ∧ v7.toInt ≤ 41) (h4 : 0 ≤ v0.toInt ∧ v0.toInt ≤ 40) (h5 : 0 ≤ v6.toInt ∧ v6.toInt ≤ 40) (h6 : QC P g6) : CI sa ad (tI (tQ (tI (tI (tI (tI (tQ (tA (tA (tA (tI (tP κ P) 7 v7) 10 f10) 11 f11) 12 f12) 13 g13) 3 v3) 4 v4) 5 v5) 6 v6) 6 g6) 0 v0) := by
  obtain ⟨c1, c2, c3, c4, c5, c6, c7, c8, c9, c10⟩ := h
  exact ⟨h1, h2, c3, h5, h3, h4, c7, c8, c9, h6⟩
end CIs
def MI (σ : RS) : Prop :=
  (0 ≤ (σ.1 1).toInt ∧ (σ.1 1).toInt ≤ 40) ∧ (0 ≤ (σ.1 10).toInt ∧ (σ.1 10).toInt ≤ 40) ∧ PRS (σ.1 10).toInt (σ.2.1 11) (σ.2.2.1 12) (σ.2.1 13) ∧ (0 ≤ (σ.1 35).toInt ∧ (σ.1 35).toInt ≤ 5) ∧ CLS (σ.1 35).toInt (σ.2.1 36) (σ.2.1 37) (σ.2.1 40) ∧ OBS (σ.1 47).toInt (σ.1 35).toInt (σ.2.1 48) ∧ (0 ≤ (σ.1 47).toInt ∧ (σ.1 47).toInt ≤ 30) ∧ BLS (σ.2.1 46) ∧ TYS (σ.2.1 39) ∧ TYS (σ.2.1 42) ∧ TYS (σ.2.1 43) ∧ VALS (σ.2.1 51) (σ.2.2.1 52) (σ.1 35).toInt (σ.1 47).toInt ∧ FINS (σ.2.1 51) (σ.2.2.2) 0 ∧ (0 ≤ (σ.1 49).toInt ∧ (σ.1 49).toInt ≤ 12) ∧ (∀ c : Nat, (σ.1 35).toInt ≤ (c : Int) → ((σ.2.1 37) c).toInt = 0 ∧ ((σ.2.1 40) c).toInt = 0)
theorem VALS.mono {kd : Nat → Int32} {av : Nat → Int64} {n n' ob ob' : Int} (h : VALS kd av n ob) (h1 : n ≤ n') (h2 : ob ≤ ob') : VALS kd av n' ob' := fun p hp => by
  rcases h p hp with h | ⟨a, b, c, d⟩
  · exact Or.inl h
  · exact Or.inr ⟨a, by omega, c, by omega⟩
theorem CLS.upd_fi {n : Int} {pa fi me : Nat → Int32} {k : Nat} {v : Int32} (h : CLS n pa fi me) (hv : 0 ≤ v.toInt ∧ v.toInt ≤ 6) : CLS n pa (upd fi k v) me := fun c hc => by
  obtain ⟨a, b, d, e, f, g⟩ := h c hc
  by_cases q : c = k
  · subst q; rw [upd_eq]; exact ⟨a, b, hv.1, hv.2, f, g⟩
  · rw [upd_ne q]; exact ⟨a, b, d, e, f, g⟩
theorem CLS.upd_me {n : Int} {pa fi me : Nat → Int32} {k : Nat} {v : Int32} (h : CLS n pa fi me) (hv : 0 ≤ v.toInt ∧ v.toInt ≤ 6) : CLS n pa fi (upd me k v) := fun c hc => by
  obtain ⟨a, b, d, e, f, g⟩ := h c hc
  by_cases q : c = k
  · subst q; rw [upd_eq]; exact ⟨a, b, d, e, hv.1, hv.2⟩
  · rw [upd_ne q]; exact ⟨a, b, d, e, f, g⟩
theorem TYS.upd {f : Nat → Int32} {k : Nat} {v : Int32} (h : TYS f) (hv : 0 ≤ v.toInt ∧ v.toInt ≤ 12) : TYS (upd f k v) := fun c => by
  by_cases q : c = k
  · subst q; rw [upd_eq]; exact hv
  · rw [upd_ne q]; exact h c
theorem BLS.upd {f : Nat → Int32} {k : Nat} {v : Int32} (h : BLS f) (hv : v.toInt = 0 ∨ v.toInt = 1) : BLS (upd f k v) := fun c => by
  by_cases q : c = k
  · subst q; rw [upd_eq]; exact hv
  · rw [upd_ne q]; exact h c
/-- what class and reference have in common -/
def RE (κ : KS) (σ : RS) : Prop := (κ.1 1).toInt = (σ.1 35).toInt ∧ (κ.1 2).toInt = (σ.1 47).toInt ∧ ∀ j : Nat, j < 65 → (κ.2.2.1 14 j).toInt = (σ.2.1 46 j).toInt
theorem RE.of {κ κ' : KS} {σ σ' : RS} (h : RE κ σ) (e1 : κ'.1 1 = κ.1 1) (e2 : κ'.1 2 = κ.1 2) (e3 : κ'.2.2.1 14 = κ.2.2.1 14) (s1 : σ'.1 35 = σ.1 35) (s2 : σ'.1 47 = σ.1 47) (s3 : σ'.2.1 46 = σ.2.1 46) : RE κ' σ' := by
  unfold RE
  rw [e1, e2, e3, s1, s2, s3]; exact h
theorem upd_both {f g : Nat → Int32} {n k : Nat} {v : Int32} (h : ∀ j : Nat, j < n → (f j).toInt = (g j).toInt) : ∀ j : Nat, j < n → (upd f k v j).toInt = (upd g k v j).toInt := fun j hj => by
  by_cases q : j = k
  · subst q; rw [upd_eq, upd_eq]
  · rw [upd_ne q, upd_ne q]; exact h j hj
