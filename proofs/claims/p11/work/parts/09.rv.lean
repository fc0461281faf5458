/-! ===== the reference's values: what a cell may hold ===== -/
def CV (kd : Nat → Int32) (av : Nat → Int64) (n ob : Int) (p : Nat) : Prop := (0 ≤ (kd p).toInt ∧ (kd p).toInt ≤ 4) ∨ (8 ≤ (kd p).toInt ∧ (kd p).toInt < 8 + n ∧ 0 ≤ (av p).toInt ∧ (av p).toInt < ob)
def VALS (kd : Nat → Int32) (av : Nat → Int64) (n ob : Int) : Prop := ∀ p : Nat, p < 980 → CV kd av n ob p
def CLS (n : Int) (pa fi me : Nat → Int32) : Prop := ∀ c : Nat, (c : Int) < n → -1 ≤ (pa c).toInt ∧ (pa c).toInt < c ∧ 0 ≤ (fi c).toInt ∧ (fi c).toInt ≤ 6 ∧ 0 ≤ (me c).toInt ∧ (me c).toInt ≤ 6
def TYS (ty : Nat → Int32) : Prop := ∀ k : Nat, 0 ≤ (ty k).toInt ∧ (ty k).toInt ≤ 12
def OBS (ob n : Int) (co : Nat → Int32) : Prop := ∀ o : Nat, (o : Int) < ob → 0 ≤ (co o).toInt ∧ (co o).toInt < n
/-- reals below t and from 60 on are finite -/
def FINS (kd : Nat → Int32) (rl : Nat → UInt64) (t : Int) : Prop := ∀ p : Nat, p < 980 → ((p : Int) < t ∨ 60 ≤ p) → (kd p).toInt = 3 → FN (rl p)
/-- one cell has got another value -/
def Cell1 (kd kd' : Nat → Int32) (av av' : Nat → Int64) (rl rl' : Nat → UInt64) (p : Nat) (K : Int → Int64 → UInt64 → Prop) : Prop := ∃ (k : Int32) (v : Int64) (r : UInt64), kd' = upd kd p k ∧ av' = vp_updL av p v ∧ rl' = vf_upd rl p r ∧ K k.toInt v r
theorem vf_eq {f : Nat → UInt64} {k : Nat} {v : UInt64} : vf_upd f k v k = v := by simp [vf_upd]
theorem vf_ne {f : Nat → UInt64} {k j : Nat} {v : UInt64} (h : ¬ j = k) : vf_upd f k v j = f j := by simp [vf_upd, h]
def LENF (x : Int64) : Int32 := Int64.toInt32 (x >>> (Int32.toInt64 (56 : Int32) &&& 63))
theorem LENF_le (x : Int64) : -128 ≤ (LENF x).toInt ∧ (LENF x).toInt ≤ 127 := by
  have h : (x >>> (Int32.toInt64 (56 : Int32) &&& 63)).toInt = x.toInt / 2 ^ 56 := by
    show (x >>> (Int32.toInt64 (56 : Int32) &&& 63)).toBitVec.toInt = _
    rw [Int64.toBitVec_shiftRight, BitVec.sshiftRight_eq', show ((Int32.toInt64 (56 : Int32) &&& 63).toBitVec.smod 64).toNat = 56 by decide +kernel, BitVec.toInt_sshiftRight, Int.shiftRight_eq_div_pow]
    rfl
  have u := x.toInt_lt; have v := x.le_toInt
  have k := z_l2i (x := LENF x) (y := x >>> (Int32.toInt64 (56 : Int32) &&& 63)) rfl (by omega) (by omega)
  omega
def BLS (f : Nat → Int32) : Prop := ∀ k : Nat, (f k).toInt = 0 ∨ (f k).toInt = 1
theorem Cell1.imp {kd kd' : Nat → Int32} {av av' : Nat → Int64} {rl rl' : Nat → UInt64} {p : Nat} {K K' : Int → Int64 → UInt64 → Prop} (h : Cell1 kd kd' av av' rl rl' p K) (hk : ∀ k v r, K k v r → K' k v r) : Cell1 kd kd' av av' rl rl' p K' := by
  obtain ⟨k, v, r, h1, h2, h3, h4⟩ := h
  exact ⟨k, v, r, h1, h2, h3, hk _ _ _ h4⟩
theorem CV.ne {kd : Nat → Int32} {av : Nat → Int64} {n ob : Int} {p q : Nat} {k : Int32} {v : Int64} (h : ¬ p = q) : CV (upd kd q k) (vp_updL av q v) n ob p ↔ CV kd av n ob p := by
  unfold CV; rw [upd_ne h, updL_ne h]
theorem CV.eq {kd : Nat → Int32} {av : Nat → Int64} {n ob : Int} {q : Nat} {k : Int32} {v : Int64} (h : (0 ≤ k.toInt ∧ k.toInt ≤ 4) ∨ (8 ≤ k.toInt ∧ k.toInt < 8 + n ∧ 0 ≤ v.toInt ∧ v.toInt < ob)) : CV (upd kd q k) (vp_updL av q v) n ob q := by
  unfold CV; rw [upd_eq, updL_eq]; exact h
theorem VALS.up {kd : Nat → Int32} {av : Nat → Int64} {n ob : Int} {q : Nat} {k : Int32} {v : Int64} (hv : VALS kd av n ob) (h : (0 ≤ k.toInt ∧ k.toInt ≤ 4) ∨ (8 ≤ k.toInt ∧ k.toInt < 8 + n ∧ 0 ≤ v.toInt ∧ v.toInt < ob)) : VALS (upd kd q k) (vp_updL av q v) n ob := fun p hp => by
  by_cases e : p = q
  · subst e; exact CV.eq h
  · exact (CV.ne e).mpr (hv p hp)
theorem VALS.cp {kd : Nat → Int32} {av : Nat → Int64} {n ob : Int} {q s : Nat} (hv : VALS kd av n ob) (hs : s < 980) : VALS (upd kd q (kd s)) (vp_updL av q (av s)) n ob := hv.up (hv s hs)
theorem VALS.c1 {kd kd' : Nat → Int32} {av av' : Nat → Int64} {rl rl' : Nat → UInt64} {p : Nat} {n ob : Int} (hv : VALS kd av n ob) (h : Cell1 kd kd' av av' rl rl' p (fun k v r => 1 ≤ k ∧ k ≤ 4 ∧ (k = 3 → FN r))) : VALS kd' av' n ob := by
  obtain ⟨k, v, r, rfl, rfl, -, h1, h2, -⟩ := h
  exact hv.up (Or.inl ⟨by omega, h2⟩)
theorem FINS.up {kd : Nat → Int32} {rl : Nat → UInt64} {t t' : Int} {q : Nat} {k : Int32} {r : UInt64} (hf : FINS kd rl t) (h : k.toInt = 3 → FN r) (ht : t' ≤ t ∨ t' = q + 1 ∧ t' ≤ t + 1) : FINS (upd kd q k) (vf_upd rl q r) t' := fun p hp hq hk => by
  by_cases e : p = q
  · subst e; rw [upd_eq] at hk; rw [vf_eq]; exact h hk
  · rw [upd_ne e] at hk; rw [vf_ne e]; exact hf p hp (by omega) hk
theorem FINS.le {kd : Nat → Int32} {rl : Nat → UInt64} {t t' : Int} (hf : FINS kd rl t) (ht : t' ≤ t) : FINS kd rl t' := fun p hp hq hk => hf p hp (by omega) hk
theorem FINS.c1 {kd kd' : Nat → Int32} {av av' : Nat → Int64} {rl rl' : Nat → UInt64} {p : Nat} {t : Int} (hf : FINS kd rl t) (h : Cell1 kd kd' av av' rl rl' p (fun k v r => 1 ≤ k ∧ k ≤ 4 ∧ (k = 3 → FN r))) : FINS kd' rl' t := by
  obtain ⟨k, v, r, rfl, -, rfl, h1, h2, h3⟩ := h
  exact hf.up h3 (Or.inl (Int.le_refl _))
