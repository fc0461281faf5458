/-! ===== the reference's values: what a cell may hold ===== -/
def CV (kd : Nat → Int32) (av : Nat → Int64) (n ob : Int) (p : Nat) : Prop := (0 ≤ (kd p).toInt ∧ (kd p).toInt ≤ 4) ∨ (8 ≤ (kd p).toInt ∧ (kd p).toInt < 8 + n ∧ 0 ≤ (av p).toInt ∧ (av p).toInt < ob)
def VALS (kd : Nat → Int32) (av : Nat → Int64) (n ob : Int) : Prop := ∀ p : Nat, p < 980 → CV kd av n ob p
def CLS (n : Int) (pa fi me : Nat → Int32) : Prop := ∀ c : Nat, (c : Int) < n → -1 ≤ (pa c).toInt ∧ (pa c).toInt < c ∧ 0 ≤ (fi c).toInt ∧ (fi c).toInt ≤ 6 ∧ 0 ≤ (me c).toInt ∧ (me c).toInt ≤ 6
def TYS (ty : Nat → Int32) : Prop := ∀ k : Nat, 0 ≤ (ty k).toInt ∧ (ty k).toInt ≤ 12
def OBS (ob n : Int) (co : Nat → Int32) : Prop := ∀ o : Nat, (o : Int) < ob → 0 ≤ (co o).toInt ∧ (co o).toInt < n
/-- reals below t and from 60 on are finite -/
def FINS (kd : Nat → Int32) (rl : Nat → UInt64) (t : Int) : Prop := ∀ p : Nat, p < 980 → ((p : Int) < t ∨ 60 ≤ p) → (kd p).toInt = 3 → FN (rl p)
/-- one cell has got another value -/
def Cell1 (kd kd' : Nat → Int32) (av av' : Nat → Int64) (rl rl' : Nat → UInt64) (p : Nat) (K : Int → Int64 → UInt64 → Prop) : Prop := ∃ (k : Int32) (v : Int64) (r : UInt64), kd' = upd kd p k ∧ av' = vp_updL av p v ∧ rl' = vf_upd rl p r ∧ K k.toInt v r
theorem vf_eq {f : Nat → UInt64} {k : Nat} {v : UInt64} : vf_upd f k v k = v := by simp [vf_upd]
theorem vf_ne {f : Nat → UInt64} {k j : Nat} {v : UInt64} (h : ¬ j = k) : vf_upd f k v j = f j := by simp [vf_upd, h]
def LENF (x : Int64) : Int32 := Int64.toInt32 (x >>> (Int32.toInt64 (56 : Int32) &&& 63))
theorem LENF_le (x : Int64) : -128 ≤ (LENF x).toInt ∧ (LENF x).toInt ≤ 127 := by
  have h : (x >>> (Int32.toInt64 (56 : Int32) &&& 63)).toInt = x.toInt / 2 ^ 56 := by
    show (x >>> (Int32.toInt64 (56 : Int32) &&& 63)).toBitVec.toInt = _
    rw [Int64.toBitVec_shiftRight, BitVec.sshiftRight_eq', show ((Int32.toInt64 (56 : Int32) &&& 63).toBitVec.smod 64).toNat = 56 by decide +kernel, BitVec.toInt_sshiftRight, Int.shiftRight_eq_div_pow]
    rfl
  have u := x.toInt_lt; have v := x.le_toInt
  have k := z_l2i (x := LENF x) (y := x >>> (Int32.toInt64 (56 : Int32) &&& 63)) rfl (by omega) (by omega)
  omega
def BLS (f : Nat → Int32) : Prop := ∀ k : Nat, (f k).toInt = 0 ∨ (f k).toInt = 1
