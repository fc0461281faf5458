/-! ===== small rows of the class's walk ===== -/
theorem raw_le {P : PL} {q t : Nat} (h : oT P q = t) (ht : 20 ≤ t) : 20 ≤ oT P q := by rw [h]; exact ht
section SAs
variable {P : PL} {sa : Nat → Nat} {a v i : Nat}
theorem sA_eq {f : Nat → Option Nat} : oA (sA P a f) a = f := by show va_up P.2.2.2.2.1 a f a = f; rw [vu_eq]
theorem EX.stA {f : Nat → Option Nat} (h : oT P a = 9) : EX P (sA P a f) := fun b hb _ => by
  refine ⟨rfl, rfl, rfl, fun _ _ => rfl, fun _ _ => rfl, rfl, fun ht => vu_ne (fun e => ?_)⟩
  subst e; omega
theorem PV.stA {f : Nat → Option Nat} (hP : PV sa P) (h : oT P a = 9) (hf : ∀ j, NT P 1 (f j)) : PV sa (sA P a f) := hP.upd (q := a) (fun _ => rfl) (fun _ => rfl) (fun _ => rfl) (fun b ne => SM.sA ne) (by
  have e : oT (sA P a f) a = 9 := h
  unfold PVat
  rw [e, sA_eq]
  refine ⟨?_, ?_, ?_, ?_, ?_, ?_, fun _ i => hf i, ?_, ?_, ?_⟩ <;> (intro e; exact absurd e (by decide))) (fun _ _ _ => rfl)
/-- where tags stay -/
def TK (P P' : PL) : Prop := ∀ b : Nat, ¬ oT P b = 0 → oT P' b = oT P b ∧ oC P' b = oC P b
theorem EX.tk {P' : PL} (h : EX P P') : TK P P' := fun b hb => ⟨(h b hb trivial).1, (h b hb trivial).2.2.1⟩
end SAs
section FCs
variable {P P' P2 : PL} {sa : Nat → Nat} {a b t i k : Nat}
theorem TK.T (h : TK P P') (ht : oT P a = t) (h0 : ¬ t = 0) : oT P' a = t := (h a (by rw [ht]; exact h0)).1.trans ht
theorem TK.nt {r : Option Nat} (h : TK P P') (hr : NT P t r) (h0 : ¬ t = 0) : NT P' t r := fun b hb => h.T (hr b hb) h0
theorem TK.nn {r : Option Nat} (h : TK P P') (hr : NN P t r) (h0 : ¬ t = 0) : NN P' t r := by
  obtain ⟨b, h1, h2⟩ := hr
  exact ⟨b, h1, h.T h2 h0⟩
theorem TK.S {c : Nat} (h : TK P P') (hc : SOK P sa c) : SOK P' sa c := by
  rcases hc with hc | ⟨h1, h2⟩
  · exact Or.inl (h.T hc (by decide))
  · exact SOK.any h2
theorem TK.rf : TK P P := fun _ _ => ⟨rfl, rfl⟩
theorem TK.trans (h : TK P P') (h2 : TK P' P2) : TK P P2 := fun b hb => ⟨(h2 b (by rw [(h b hb).1]; exact hb)).1.trans (h b hb).1, (h2 b (by rw [(h b hb).1]; exact hb)).2.trans (h b hb).2⟩
theorem SV.tk {ad : Nat → Nat} {r0 r1 : Option Nat} {q6 q7 q8 q13 q15 q17 : Nat → Option Nat} {fc : Int} (h : SV ad P r0 r1 q6 q7 q8 q13 q15 q17 fc) (e : TK P P') : SV ad P' r0 r1 q6 q7 q8 q13 q15 q17 fc := by
  obtain ⟨h1, h2, h3, h4, h5, h6, h7, h8, h9, h10, h11, h12⟩ := h
  exact ⟨e.nn h1 (by decide), e.nt h2 (by decide), e.T h3 (by decide), e.T h4 (by decide), e.T h5 (by decide), fun i => e.nt (h6 i) (by decide), fun i => e.nt (h7 i) (by decide), fun i => e.nt (h8 i) (by decide), fun i => e.nt (h9 i) (by decide), fun i => e.nt (h10 i) (by decide), fun i => e.nt (h11 i) (by decide), h12⟩
/-- a class has got a field (k = 7) or a method (k = 8) -/
def FC (k : Nat) (P P' : PL) (a : Nat) : Prop := EXP (fun x => ¬ x = a ∧ ¬ oR P k a = some x) P P' ∧ (∀ j, ¬ j = 12 → oR P' j a = oR P j a) ∧ (∀ j, ¬ (j = k + 1 ∨ j = 4 ∨ j = 5 ∨ j = 24 ∨ j = 25) → oI P' j a = oI P j a) ∧ oC P' a = oC P a
theorem FC.rf : FC k P P a := ⟨fun _ _ _ => ⟨rfl, rfl, rfl, fun _ _ => rfl, fun _ _ => rfl, rfl, fun _ => rfl⟩, fun _ _ => rfl, fun _ _ => rfl, rfl⟩
theorem FC.of {f : Nat → Option Nat} {v : Int32} (h : EX P P2) (ha : oT P a = 3) (hr : oR P k a = some b) : FC k P (sI (sA P2 b f) (k + 1) a v) a := by
  have e1 : ∀ x, ¬ x = a → ∀ j, oI (sI (sA P2 b f) (k + 1) a v) j x = oI P2 j x := fun x hx j => sI_ne hx
  refine ⟨fun x h0 hx => ?_, fun j hj => h.R ha (by decide) hj, fun j hj => ?_, h.C ha (by decide)⟩
  · obtain ⟨a1, a2, a3, a4, a5, a6, a7⟩ := h x h0 trivial
    refine ⟨a1, a2, a3, fun j hj => ?_, fun j hj => a5 j hj, a6, fun ht => ?_⟩
    · rw [e1 x hx.1]; exact a4 j hj
    · have ne : ¬ x = b := fun e => hx.2 (by rw [hr, e])
      exact (show oA (sI (sA P2 b f) (k + 1) a v) x = oA P2 x from vu_ne ne).trans (a7 ht)
  · rw [sI_nk (fun e => hj (Or.inl e))]
    exact h.I ha (by decide) (fun e => hj (Or.inr e))
theorem FC.ex (h : EX P P') (ha : oT P a = 3) (hk : ¬ k = 12) (f : FC k P' P2 a) : FC k P P2 a := by
  obtain ⟨f1, f2, f3, f4⟩ := f
  refine ⟨fun x h0 hx => ?_, fun j hj => (f2 j hj).trans (h.R ha (by decide) hj), fun j hj => (f3 j hj).trans (h.I ha (by decide) (fun e => hj (Or.inr e))), f4.trans (h.C ha (by decide))⟩
  obtain ⟨a1, a2, a3, a4, a5, a6, a7⟩ := h x h0 trivial
  obtain ⟨b1, b2, b3, b4, b5, b6, b7⟩ := f1 x (by rw [a1]; exact h0) ⟨hx.1, by rw [h.R ha (by decide) hk]; exact hx.2⟩
  exact ⟨b1.trans a1, b2.trans a2, b3.trans a3, fun j hj => (b4 j hj).trans (a4 j hj), fun j hj => (b5 j hj).trans (a5 j hj), b6.trans a6, fun ht => (b7 (by rw [a1]; exact ht)).trans (a7 ht)⟩
theorem FC.tk {f : Nat → Option Nat} {v : Int32} (h : EX P P2) : TK P (sI (sA P2 b f) k a v) := fun x hx => ⟨(h x hx trivial).1, (h x hx trivial).2.2.1⟩
theorem PV.st10 {f : Nat → Option Nat} (hP : PV sa P) (h : oT P a = 10) (hf : ∀ j, NT P 4 (f j)) : PV sa (sA P a f) := hP.upd (q := a) (fun _ => rfl) (fun _ => rfl) (fun _ => rfl) (fun b ne => SM.sA ne) (by
  have e : oT (sA P a f) a = 10 := h
  unfold PVat
  rw [e, sA_eq]
  refine ⟨?_, ?_, ?_, ?_, ?_, ?_, ?_, fun _ i => hf i, ?_, ?_⟩ <;> (intro e; exact absurd e (by decide))) (fun _ _ _ => rfl)
theorem PV.st11 {f : Nat → Option Nat} (hP : PV sa P) (h : oT P a = 11) (hf : ∀ j, NT P 5 (f j)) : PV sa (sA P a f) := hP.upd (q := a) (fun _ => rfl) (fun _ => rfl) (fun _ => rfl) (fun b ne => SM.sA ne) (by
  have e : oT (sA P a f) a = 11 := h
  unfold PVat
  rw [e, sA_eq]
  refine ⟨?_, ?_, ?_, ?_, ?_, ?_, ?_, ?_, fun _ i => hf i, ?_⟩ <;> (intro e; exact absurd e (by decide))) (fun _ _ _ => rfl)
theorem PV.stN {v : Int32} (hP : PV sa P) (h : oT P a = 3) (hk : k = 8 ∨ k = 9) (hv : 0 ≤ v.toInt ∧ v.toInt ≤ 6) : PV sa (sI P k a v) := hP.upd (q := a) (fun _ => rfl) (fun _ => rfl) (fun _ => rfl) (fun b ne => SM.sI ne) (by
  have e : oT (sI P k a v) a = 3 := h
  obtain ⟨h1, h2, h3, h4, h5⟩ := hP.t3 h
  unfold PVat
  rw [e]
  refine ⟨?_, ?_, fun _ => ⟨h1, h2, h3, ?_, ?_⟩, ?_, ?_, ?_, ?_, ?_, ?_, ?_⟩
  rotate_left 2
  · rcases hk with rfl | rfl
    · rw [sI_eq]; exact hv
    · rw [sI_nk (by decide)]; exact h4
  · rcases hk with rfl | rfl
    · rw [sI_nk (by decide)]; exact h5
    · rw [sI_eq]; exact hv
  all_goals (intro e; exact absurd e (by decide))) (fun _ _ _ => rfl)
/-- a node's two marks -/
theorem EX.st45 {v : Int32} (hk : k = 4 ∨ k = 5) : EX P (sI P k a v) := fun x h0 _ => by
  refine ⟨rfl, rfl, rfl, fun j hj => sI_nk (fun e => ?_), fun _ _ => rfl, rfl, fun _ => rfl⟩
  subst e; rcases hk with h | h <;> (subst h; exact hj (by decide))
theorem PV.st45 {v : Int32} (hP : PV sa P) (h : oT P a = 2) (hk : k = 4 ∨ k = 5) : PV sa (sI P k a v) := hP.upd (q := a) (fun _ => rfl) (fun _ => rfl) (fun _ => rfl) (fun b ne => SM.sI ne) (by
  have e : oT (sI P k a v) a = 2 := h
  have h2 := hP.t2 h
  unfold PVat
  rw [e]
  refine ⟨?_, fun _ => h2, ?_, ?_, ?_, ?_, ?_, ?_, ?_, ?_⟩ <;> (intro e; exact absurd e (by decide))) (fun _ _ _ => rfl)
end FCs
/-- a tag beside one that is made ready; beside a raw one -/
theorem fin_o {P : PL} {q b t t2 n : Nat} (hb : oT P b = t2) (hr : oT P q = 20 + t) (ne : ¬ t2 = 20 + t) : oT (sC (sT P q t) q n) b = t2 := (vu_ne (fun e => ne (by rw [← hb, e, hr]))).trans hb
theorem newP_o {P : PL} {q b t : Nat} (h : oT (newP P q t) b = 0) (ht : ¬ t = 0) : oT P b = 0 := by
  rw [newP_T] at h
  by_cases e : b = q
  · rw [if_pos e] at h; exact absurd h ht
  · rw [if_neg e] at h; exact h
