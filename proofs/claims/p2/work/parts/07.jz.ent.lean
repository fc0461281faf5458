/-! ===== the reader from its first turn to its last ===== -/
def ENT (tk tv ta sc : Nat → Int) (S : Nat) (c : PSt) : Prop := ∀ Q : PSt → Prop, (∀ c0 : PSt, xer c0 = 0 → xdn c0 = 0 → xfr c0 = 0 → xnx c0 = 0 → EE tk tv ta sc S Q c0) → EE tk tv ta sc S Q c
def LTR (tk : Nat → Int32) (tv : Nat → Int64) (sc : Nat → Int32) (i : Int) : Int × Int := (litI (tz tk i.toNat) (tz sc i.toNat), tzl tv i.toNat)
/-- what a parse answers -/
def ANS (R : (Int × Int) ⊕ IS) (r p p2 : Int32) : Prop := match R with
  | .inl (e, w) => (∃ e3 w3 : Int32, e3.toInt = e ∧ w3.toInt = w ∧ r = (-1000 : Int32) * e3 - w3) ∧ p2.toInt = p.toInt
  | .inr _ => r.toInt = p.toInt ∧ p2.toInt = p.toInt + 1
/-- what a text is read as -/
def READ (t : Int → Int) (n : Int) (Lt : Int → Int × Int) (R : (Int × Int) ⊕ IS) : Prop :=
  (∃ p, LexErr t n p ∧ R = .inl (1, p)) ∨ ∃ (T N Pl : Int → Int) (k : Nat), LexOK t n T N Pl k ∧ (∀ i : Int, (k : Int) < i → T i = 0) ∧ GrP T N Pl Lt R
section ENTs
variable {tk ta sc F : Nat → Int32} {tv : Nat → Int64} {t T N Pl : Int → Int} {n : Int} {k : Nat} {tn m r p p2 er wh : Int32} {S : Nat} {c : PSt} {R : (Int × Int) ⊕ IS}
theorem TOK_of (ht : t n = 0) (h : LexOK t n (rT9 tk tv) (rN9 tk tv) (rP9 ta) (tn.toInt - 1).toNat) (h1 : 1 ≤ tn.toInt) (h2 : TKok tk tv sc (tn.toInt - 1)) (h3 : (tk (tn.toInt - 1).toNat).toInt = 0) (hb : ∀ j : Nat, (j : Int) < tn.toInt → BN5 tk tv j) (hL : LexOK t n T N Pl k) : TOK (tz tk) (tzl tv) (tz ta) (tz sc) (k + 1) T N Pl (LTR tk tv sc) := by
  obtain ⟨e, ag⟩ := lex_ok ht h hL
  refine ⟨by omega, by rw [show ((k + 1 : Nat) : Int) - 1 = (k : Int) by omega]; exact hL.2.1, fun i hi => ?_⟩
  have g := ag i (by omega)
  have b := hb i (by omega)
  have kk : i = k ∨ i < k := by omega
  have kd : ((tk i).toInt = 0 ∨ (1 ≤ (tk i).toInt ∧ (tk i).toInt ≤ 5)) ∧ ((tk i).toInt = 2 → 1 ≤ (sc i).toInt ∧ (sc i).toInt ≤ 3) := by
    rcases kk with kk | kk
    · have e9 : (tn.toInt - 1).toNat = i := by omega
      rw [e9] at h3
      exact ⟨Or.inl h3, fun z => by omega⟩
    · have z := h2 i (by omega)
      exact ⟨Or.inr ⟨z.1, z.2.1⟩, z.2.2.1⟩
  refine ⟨?_, fun z => (b z).1, by unfold tz; omega, ?_, fun z => ?_, fun _ => rfl, kd.2⟩
  · rw [← g.1]; rfl
  · rw [← g.2.2]; rfl
  · have z : (tk i).toInt = 3 := z
    have hik : i < k := by
      rcases kk with kk | kk
      · exfalso
        have e9 : (tn.toInt - 1).toNat = i := by omega
        rw [e9] at h3
        omega
      · exact kk
    rw [← g.2.1 (by omega)]
    unfold rN9
    rw [show ((i : Nat) : Int).toNat = i from rfl, if_pos z]; rfl
/-- refused by the machine -/
theorem read_no (ht : t n = 0) (hi : (er.toInt = 1 ∧ LexErr t n wh.toInt) ∨ (LexOK t n (rT9 tk tv) (rN9 tk tv) (rP9 ta) (tn.toInt - 1).toNat ∧ (∀ j : Nat, (j : Int) < tn.toInt → BN5 tk tv j) ∧ ENT (tz tk) (tzl tv) (tz ta) (tz sc) S c)) (h1 : 1 ≤ tn.toInt) (h2 : TKok tk tv sc (tn.toInt - 1)) (h3 : (tk (tn.toInt - 1).toNat).toInt = 0)
    (he : xer c = er.toInt) (hw : xwh c = wh.toInt) (h0 : ¬ er.toInt = 0) (hr : r = (-1000 : Int32) * er - wh) (hp : p2.toInt = p.toInt) (hR : READ t n (LTR tk tv sc) R) : ANS R r p p2 := by
  rcases hi with ⟨e1, hE⟩ | ⟨hL, hB, hQ⟩
  · rcases hR with ⟨q, q1, rfl⟩ | ⟨T, N, Pl, k, q1, q2, q3⟩
    · have e := lex_er hE q1
      exact ⟨⟨er, wh, e1, e, hr⟩, hp⟩
    · exact (lex_no ht q1 hE).elim
  · rcases hR with ⟨q, q1, rfl⟩ | ⟨T, N, Pl, k, q1, q2, q3⟩
    · exact (lex_no ht hL q1).elim
    · have hT := TOK_of ht hL h1 h2 h3 hB q1
      have z := EE_at (Or.inl (by rw [he]; exact h0)) (hQ (FinQ R) (fun c0 a1 a2 a3 a4 => sim_prog hT a1 a2 a3 a4 q3))
      cases R with
      | inl x =>
        obtain ⟨e, w⟩ := x
        exact ⟨⟨er, wh, by rw [← he]; exact z.1, by rw [← hw]; exact z.2.2, hr⟩, hp⟩
      | inr x => exact absurd (he.symm.trans z.1) h0
/-- taken -/
theorem read_ok (ht : t n = 0) (hi : (er.toInt = 1 ∧ LexErr t n wh.toInt) ∨ (LexOK t n (rT9 tk tv) (rN9 tk tv) (rP9 ta) (tn.toInt - 1).toNat ∧ (∀ j : Nat, (j : Int) < tn.toInt → BN5 tk tv j) ∧ ENT (tz tk) (tzl tv) (tz ta) (tz sc) S c)) (h1 : 1 ≤ tn.toInt) (h2 : TKok tk tv sc (tn.toInt - 1)) (h3 : (tk (tn.toInt - 1).toNat).toInt = 0)
    (he : xer c = 0) (h0 : er.toInt = 0) (hd : ¬ xdn c = 0) (hr : r.toInt = p.toInt) (hp : p2.toInt = p.toInt + 1) (hR : READ t n (LTR tk tv sc) R) : ANS R r p p2 := by
  rcases hi with ⟨e1, hE⟩ | ⟨hL, hB, hQ⟩
  · omega
  · rcases hR with ⟨q, q1, rfl⟩ | ⟨T, N, Pl, k, q1, q2, q3⟩
    · exact (lex_no ht hL q1).elim
    · have hT := TOK_of ht hL h1 h2 h3 hB q1
      have z := EE_at (Or.inr hd) (hQ (FinQ R) (fun c0 a1 a2 a3 a4 => sim_prog hT a1 a2 a3 a4 q3))
      cases R with
      | inl x =>
        obtain ⟨e, w⟩ := x
        have z1 := z.1
        rw [he] at z1
        rcases z.2.1 with z2 | z2 <;> omega
      | inr x => exact ⟨hr, hp⟩
end ENTs
