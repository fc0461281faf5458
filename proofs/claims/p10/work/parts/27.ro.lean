/-! ===== run: what holds at its loop's head ===== -/
def CODE (st : Nat → Int32) (wt : Nat → Int64) (S E : Nat) (h : Nat → Int) (a : Nat) : Prop := ∀ q, S ≤ q → q < E → ((CK (st q).toInt (wt q).toInt (h q) (h (q + 1)) (fl a q) ∧ ((st q).toInt = 39 ↔ q = a)) ∨ ((st q).toInt = 38 ∧ h (q + 1) = h q ∧ q + 1 = E ∧ 1 + fl a q ≤ h q) ∨ ((st q).toInt = 40 ∧ h q = 2 ∧ h (q + 1) = 1 ∧ q + 1 = E ∧ S ≤ a ∧ a < q ∧ h a = 1 ∧ (wt a).toInt32 = (wt q).toInt32)) ∧ (isj (st q).toInt → ∃ t : Nat, (wt q).toInt = t ∧ q < t ∧ t ≤ E ∧ h t = jh (st q).toInt (h q) ∧ (q < a → t ≤ a))
/-- F n: the value in the lowest cell has a field n -/
def RUNI (st : Nat → Int32) (wt : Nat → Int64) (S E k tp f : Int) (F : Int32 → Prop) : Prop := 0 ≤ S ∧ S ≤ k ∧ k ≤ E ∧ E ≤ S + 90 ∧ ∃ (h : Nat → Int) (a : Nat), h E.toNat = 1 ∧ (∀ q, S.toNat ≤ q → q ≤ E.toNat → h q ≤ 45) ∧ CODE st wt S.toNat E.toNat h a ∧ (f = 0 → tp = h k.toNat ∧ ∀ q, S.toNat ≤ q → q < E.toNat → (st q).toInt = 40 → (a : Int) < k → k ≤ q → F (wt q).toInt32)
theorem CODE.fl0 {a q : Nat} : 0 ≤ fl a q := by unfold fl; split <;> omega
theorem RUNI.start {st : Nat → Int32} {wt : Nat → Int64} {ln : Nat → Int32} {n S E : Int} {p : Nat} {F : Int32 → Prop} (hp : PRS n st wt ln) (hn : (p : Int) < n) (hS : S = 90 * p) (hE : E = 90 * p + (ln p).toInt) {k tp f : Int} (hk : k = S) (ht : tp = 0) : RUNI st wt S E k tp f F := by
  obtain ⟨h1, h2, h3, h, a, h4, h5, h6, h7⟩ := hp p hn
  have eS : S.toNat = 90 * p := by omega
  have eE : E.toNat = 90 * p + (ln p).toInt.toNat := by omega
  subst hk ht
  refine ⟨by omega, by omega, by omega, by omega, h, a, by rw [eE]; exact h5, by rw [eE, eS]; exact h6, by rw [eE, eS]; exact h7, fun _ => ⟨by rw [eS, h4], fun q a1 a2 a3 a4 a5 => ?_⟩⟩
  exfalso
  have hlt : 90 * p < 90 * p + (ln p).toInt.toNat := by omega
  have c := (h7 (90 * p) (Nat.le_refl _) hlt).1
  have hf : fl a (90 * p) = 1 := by unfold fl; rw [if_pos (by omega)]
  rw [h4, hf] at c
  rcases c with ⟨c, -⟩ | c | c
  · unfold CK at c; omega
  · omega
  · omega
theorem RUNI.pre {st : Nat → Int32} {wt : Nat → Int64} {S E k tp : Int} {F : Int32 → Prop} (H : RUNI st wt S E k tp 0 F) (hk : k < E) {s w : Int} (hs : s = (st k.toNat).toInt) (hw : w = (wt k.toNat).toInt) (hj : ¬ isj s) :
    0 ≤ tp ∧ tp ≤ 45 ∧ ((1 ≤ s ∧ s ≤ 10) ∨ ((s = 11 ∨ s = 12 ∨ s = 13 ∨ s = 30 ∨ s = 31 ∨ s = 34 ∨ s = 39) ∧ 1 ≤ tp) ∨ (s = 15 ∧ 0 ≤ w ∧ w % 4 ≤ 2 ∧ 1 + w % 4 ≤ tp) ∨ (16 ≤ s ∧ s ≤ 26 ∧ 2 ≤ tp) ∨ (s = 38 ∧ 1 ≤ tp) ∨ (s = 40 ∧ 2 ≤ tp)) ∧ (s = 40 → tp = 2 ∧ F (wt k.toNat).toInt32) := by
  obtain ⟨h1, h2, h3, h4, h, a, h5, h6, h7, h8⟩ := H
  obtain ⟨e1, e2⟩ := h8 rfl
  have f0 := CODE.fl0 (a := a) (q := k.toNat)
  have u := h6 k.toNat (by omega) (by omega)
  have c := (h7 k.toNat (by omega) (by omega)).1
  rw [← hs, ← hw] at c
  rw [← e1] at c u
  have e3 := e2 k.toNat (by omega) (by omega)
  rw [← hs] at e3
  unfold isj at hj
  clear h7 h8 e2 h6
  rcases c with ⟨c, -⟩ | c | ⟨c1, c2, c3, c4, c5, c6, c7, c8⟩
  · unfold CK at c
    rcases c with c | c | c | c | c
    · exact ⟨by omega, u, Or.inl ⟨c.1, c.2.1⟩, fun e => by omega⟩
    · refine ⟨by omega, u, Or.inr (Or.inl ⟨?_, by omega⟩), fun e => by omega⟩
      rcases c.1 with z | z | z | z | z | z | z | z
      · exact Or.inl z
      · exact Or.inr (Or.inl z)
      · exact Or.inr (Or.inr (Or.inl z))
      · exact absurd (Or.inl z) hj
      · exact Or.inr (Or.inr (Or.inr (Or.inl z)))
      · exact Or.inr (Or.inr (Or.inr (Or.inr (Or.inl z))))
      · exact Or.inr (Or.inr (Or.inr (Or.inr (Or.inr (Or.inl z)))))
      · exact Or.inr (Or.inr (Or.inr (Or.inr (Or.inr (Or.inr z)))))
    · exact ⟨by omega, u, Or.inr (Or.inr (Or.inl ⟨c.1, c.2.1, c.2.2.1, by omega⟩)), fun e => by omega⟩
    · exact ⟨by omega, u, Or.inr (Or.inr (Or.inr (Or.inl ⟨c.1, c.2.1, by omega⟩))), fun e => by omega⟩
    · exact absurd (by rcases c.1 with z | z | z | z | z <;> simp [z]) hj
  · exact ⟨by omega, u, Or.inr (Or.inr (Or.inr (Or.inr (Or.inl ⟨c.1, by omega⟩)))), fun e => by omega⟩
  · exact ⟨by omega, u, Or.inr (Or.inr (Or.inr (Or.inr (Or.inr ⟨c1, by omega⟩)))), fun e => ⟨c2, e3 e (by omega) (by omega)⟩⟩
theorem RUNI.preJ {st : Nat → Int32} {wt : Nat → Int64} {S E k tp : Int} {F : Int32 → Prop} (H : RUNI st wt S E k tp 0 F) (hk : k < E) {s : Int} (hs : s = (st k.toNat).toInt) (hj : isj s) : 1 ≤ tp ∧ tp ≤ 60 := by
  obtain ⟨h1, h2, h3, h4, h, a, h5, h6, h7, h8⟩ := H
  obtain ⟨e1, e2⟩ := h8 rfl
  have f0 := CODE.fl0 (a := a) (q := k.toNat)
  have u := h6 k.toNat (by omega) (by omega)
  have c := (h7 k.toNat (by omega) (by omega)).1
  rw [← hs] at c
  rw [← e1] at c u
  clear h7 h8 e2 h6
  unfold isj at hj
  rcases c with ⟨c, -⟩ | c | c
  · unfold CK at c
    rcases c with c | c | c | c | c
    · exfalso; have := c.1; have := c.2.1; omega
    · have := c.2.2; omega
    · exfalso; have := c.1; omega
    · exfalso; have := c.1; have := c.2.1; omega
    · have := c.2.2; omega
  · exfalso; have := c.1; omega
  · exfalso; have := c.1; omega
/-- a step that isn't a jump -/
theorem RUNI.step {st : Nat → Int32} {wt : Nat → Int64} {S E k tp k' tp' f' : Int} {F F' : Int32 → Prop} (H : RUNI st wt S E k tp 0 F) (hk : k < E) {s w : Int} (hs : s = (st k.toNat).toInt) (hw : w = (wt k.toNat).toInt) (hj : ¬ isj s) (hk' : k' = k + 1)
    (ht : f' = 0 → ((1 ≤ s ∧ s ≤ 10) → tp' = tp + 1) ∧ ((s = 11 ∨ s = 12 ∨ s = 13 ∨ s = 30 ∨ s = 31 ∨ s = 34 ∨ s = 38 ∨ s = 39) → tp' = tp) ∧ (s = 15 → tp' = tp - w % 4) ∧ ((s = 40 ∨ (16 ≤ s ∧ s ≤ 26)) → tp' = tp - 1))
    (hF : f' = 0 → 0 < (if s ≤ 10 then tp else if s = 38 then 60 else if s = 15 then tp - w % 4 - 1 else if (s = 40 ∨ s ≤ 26 ∧ 16 ≤ s) then tp - 2 else tp - 1) → ∀ n, F n → F' n) (hA : s = 39 → f' = 0 → tp = 1 → F' (wt k.toNat).toInt32) : RUNI st wt S E k' tp' f' F' := by
  obtain ⟨h1, h2, h3, h4, h, a, h5, h6, h7, h8⟩ := H
  obtain ⟨e1, e2⟩ := h8 rfl
  subst hk'
  refine ⟨h1, by omega, by omega, h4, h, a, h5, h6, h7, fun e => ?_⟩
  have c := (h7 k.toNat (by omega) (by omega)).1
  rw [← hs, ← hw] at c
  rw [← e1] at c
  have ek : (k + 1).toNat = k.toNat + 1 := by omega
  rw [ek]
  unfold isj at hj
  refine ⟨?_, fun q a1 a2 a3 a4 a5 => ?_⟩
  · obtain ⟨t1, t2, t3, t4⟩ := ht e
    clear ht hF hA h7 h8 e2 h6 hk
    rcases c with ⟨c, -⟩ | c | c
    · unfold CK at c
      rcases c with c | c | c | c | c
      · rw [t1 ⟨c.1, c.2.1⟩, c.2.2.1]
      · rw [c.2.1]
        refine t2 ?_
        rcases c.1 with z | z | z | z | z | z | z | z
        · exact Or.inl z
        · exact Or.inr (Or.inl z)
        · exact Or.inr (Or.inr (Or.inl z))
        · exact absurd (Or.inl z) hj
        · exact Or.inr (Or.inr (Or.inr (Or.inl z)))
        · exact Or.inr (Or.inr (Or.inr (Or.inr (Or.inl z))))
        · exact Or.inr (Or.inr (Or.inr (Or.inr (Or.inr (Or.inl z)))))
        · exact Or.inr (Or.inr (Or.inr (Or.inr (Or.inr (Or.inr (Or.inr z))))))
      · rw [t3 c.1, c.2.2.2.1]
      · rw [t4 (Or.inr ⟨c.1, c.2.1⟩), c.2.2.1]
      · exact absurd (by rcases c.1 with z | z | z | z | z <;> simp [z]) hj
    · rw [t2 (Or.inr (Or.inr (Or.inr (Or.inr (Or.inr (Or.inr (Or.inl c.1))))))), c.2.1]
    · rw [t4 (Or.inl c.1), c.2.2.1, c.2.1]; rfl
  · by_cases ea : (a : Int) < k
    · refine hF e ?_ _ (e2 q a1 a2 a3 ea (by omega))
      have hf : fl a k.toNat = 1 := by unfold fl; rw [if_pos (by omega)]
      rw [hf] at c
      clear ht hF hA h7 h8 e2 h6
      rcases c with ⟨c, -⟩ | c | ⟨-, -, -, c, -⟩
      · unfold CK at c
        rcases c with c | c | c | c | c
        · obtain ⟨b1, b2, b3, b4⟩ := c
          rw [if_pos b2]; omega
        · obtain ⟨b1, b2, b3⟩ := c
          rw [if_neg (by omega), if_neg (by omega), if_neg (by omega), if_neg (by omega)]; omega
        · obtain ⟨b1, b2, b3, b4, b5⟩ := c
          rw [if_neg (by omega), if_neg (by omega), if_pos b1]; omega
        · obtain ⟨b1, b2, b3, b4⟩ := c
          rw [if_neg (by omega), if_neg (by omega), if_neg (by omega), if_pos (Or.inr ⟨b2, b1⟩)]; omega
        · exact absurd (by rcases c.1 with z | z | z | z | z <;> simp [z]) hj
      · rw [if_neg (by omega), if_pos c.1]; omega
      · omega
    · have eak : k.toNat = a := by omega
      obtain ⟨c9, -⟩ := h7 q a1 a2
      clear ht hF h7 h8 e2 h6
      rcases c9 with ⟨c9, -⟩ | c9 | ⟨-, -, -, -, -, d6, d7, d8⟩
      · exfalso
        unfold CK at c9
        rw [a3] at c9
        omega
      · exfalso; have := c9.1; omega
      · rw [← d8, ← eak]
        rw [← eak] at d7
        refine hA ?_ e (by omega)
        rcases c with ⟨-, c⟩ | c | c
        · exact c.2 eak
        · exfalso; have := c.2.2.1; omega
        · exfalso; have := c.2.2.2.1; omega
/-- a jump -/
theorem RUNI.go {st : Nat → Int32} {wt : Nat → Int64} {S E k tp k' tp' f' : Int} {F : Int32 → Prop} (H : RUNI st wt S E k tp 0 F) (hk : k < E) {s : Int} (hs : s = (st k.toNat).toInt) (hj : isj s)
    (ht : f' = 0 → (k' = (wt k.toNat).toInt ∧ (s = 35 → tp' = tp - 1) ∧ (¬ s = 35 → tp' = tp)) ∨ (k' = k + 1 ∧ ¬ s = 36 ∧ (s = 14 → tp' = tp) ∧ (¬ s = 14 → tp' = tp - 1))) (hk' : k' = (wt k.toNat).toInt ∨ k' = k + 1) : RUNI st wt S E k' tp' f' F := by
  obtain ⟨h1, h2, h3, h4, h, a, h5, h6, h7, h8⟩ := H
  obtain ⟨e1, e2⟩ := h8 rfl
  obtain ⟨c, j⟩ := h7 k.toNat (by omega) (by omega)
  rw [← hs] at c j
  obtain ⟨t, j1, j2, j3, j4, j5⟩ := j hj
  clear j
  refine ⟨h1, by omega, by omega, h4, h, a, h5, h6, h7, fun e => ?_⟩
  have ht := ht e
  clear h7 h8 h6 hk'
  rw [← e1] at c j4
  unfold isj at hj
  have e39 : ¬ k.toNat = a := by
    intro ea
    rcases c with ⟨-, c⟩ | c | c
    · have := c.2 ea; clear ht; omega
    · have := c.1; clear ht; omega
    · have := c.1; clear ht; omega
  rcases ht with ⟨u1, u2, u3⟩ | ⟨u1, u2, u3, u4⟩
  · have ek : k'.toNat = t := by omega
    rw [ek, j4]
    refine ⟨by unfold jh; split <;> rename_i z <;> simp_all, fun q a1 a2 a3 a4 a5 => e2 q a1 a2 a3 ?_ (by omega)⟩
    by_cases ea : k.toNat < a
    · have := j5 ea; omega
    · omega
  · have ek : k'.toNat = k.toNat + 1 := by omega
    rw [ek]
    refine ⟨?_, fun q a1 a2 a3 a4 a5 => e2 q a1 a2 a3 (by omega) (by omega)⟩
    clear e2
    rcases c with ⟨c, -⟩ | c | c
    · unfold CK at c
      rcases c with c | c | c | c | c
      · exfalso; have := c.1; have := c.2.1; clear u3 u4 c; omega
      · by_cases z : s = 14
        · rw [u3 z, c.2.1]
        · exfalso; have := c.1; clear u3 u4 c; omega
      · exfalso; have := c.1; clear u3 u4 c; omega
      · exfalso; have := c.1; have := c.2.1; clear u3 u4 c; omega
      · rw [u4 (by have := c.1; clear u3 u4 c; omega), c.2.1]
    · exfalso; have := c.1; clear u3 u4 c; omega
    · exfalso; have := c.1; clear u3 u4 c; omega
theorem RUNI.fin {st : Nat → Int32} {wt : Nat → Int64} {S E k tp : Int} {F : Int32 → Prop} (H : RUNI st wt S E k tp 0 F) (hk : E ≤ k) : tp = 1 := by
  obtain ⟨h1, h2, h3, h4, h, a, h5, h6, h7, h8⟩ := H
  obtain ⟨e1, e2⟩ := h8 rfl
  rw [e1, show k.toNat = E.toNat by omega, h5]
theorem FLD.keep {kd kd' : Nat → Int32} {av av' : Nat → Int64} {rl' : Nat → UInt64} {n ob f t w : Int} {co pa fi fn : Nat → Int32} (h : OPQ kd kd' av av' rl' n ob f t w) (hw : 0 < w) {x : Int32} (hf : FLD kd av co pa fi fn 0 x) : FLD kd' av' co pa fi fn 0 x := by
  obtain ⟨q1, q2⟩ := h.2.2.2 0 (by omega)
  unfold FLD at *
  rw [q1, q2]; exact hf
theorem RUNI.rng {st : Nat → Int32} {wt : Nat → Int64} {S E k tp f : Int} {F : Int32 → Prop} (H : RUNI st wt S E k tp f F) (hk : k < E) {s : Int} (hs : s = (st k.toNat).toInt) (hj : isj s) : k < (wt k.toNat).toInt ∧ (wt k.toNat).toInt ≤ E := by
  obtain ⟨h1, h2, h3, h4, h, a, h5, h6, h7, h8⟩ := H
  obtain ⟨c, j⟩ := h7 k.toNat (by omega) (by omega)
  rw [← hs] at j
  obtain ⟨t, j1, j2, j3, j4, j5⟩ := j hj
  omega
/-! ===== field: is a name there ===== -/
def THR (fn : Nat → Int32) (b e : Int) (n : Int32) : Prop := ∃ k : Nat, b ≤ (k : Int) ∧ (k : Int) < e ∧ fn k = n
theorem THR.none {fn : Nat → Int32} {b e : Int} {n : Int32} (h : e ≤ b) : ¬ THR fn b e n := fun ⟨k, a1, a2, _⟩ => by omega
theorem THR.more {fn : Nat → Int32} {b e e' : Int} {n : Int32} (h : THR fn b e n) (he : e ≤ e') : THR fn b e' n := by
  obtain ⟨k, a1, a2, a3⟩ := h
  exact ⟨k, a1, by omega, a3⟩
theorem THR.hit {fn : Nat → Int32} {b e e' : Int} {n : Int32} (h1 : b ≤ e) (h2 : 0 ≤ e) (he : e' = e + 1) (hn : fn e.toNat = n) : THR fn b e' n := ⟨e.toNat, by omega, by omega, hn⟩
theorem THR.miss {fn : Nat → Int32} {b e e' : Int} {n : Int32} (h : ¬ THR fn b e n) (he : e' = e + 1) (hn : ¬ fn e.toNat = n) : ¬ THR fn b e' n := fun ⟨k, a1, a2, a3⟩ => by
  by_cases c : (k : Int) < e
  · exact h ⟨k, a1, c, a3⟩
  · refine hn ?_
    rw [show e.toNat = k by omega]; exact a3
