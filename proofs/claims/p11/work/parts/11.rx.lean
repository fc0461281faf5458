/-! ===== the fields that an object has; steps up ===== -/
def parZ (pa : Nat → Int32) (x : Int) : Int := if 0 ≤ x then (pa x.toNat).toInt else x
def upn (pa : Nat → Int32) : Nat → Int → Int
  | 0, x => x
  | n + 1, x => parZ pa (upn pa n x)
def OWN (fi fn : Nat → Int32) (x : Int) (n : Int32) : Prop := ∃ k : Nat, (k : Int) < (fi x.toNat).toInt ∧ fn (6 * x.toNat + k) = n
def NOWN (fn : Nat → Int32) (x k : Int) (n : Int32) : Prop := ∀ j : Nat, (j : Int) < k → ¬ fn (6 * x.toNat + j) = n
def HASF (pa fi fn : Nat → Int32) (x : Int) (n : Int32) : Prop := ∃ m : Nat, 0 ≤ upn pa m x ∧ OWN fi fn (upn pa m x) n
def SCAN (pa fi fn : Nat → Int32) (x c : Int) (n : Int32) : Prop := ∃ m : Nat, upn pa m x = c ∧ ∀ j : Nat, j < m → 0 ≤ upn pa j x ∧ ¬ OWN fi fn (upn pa j x) n
theorem SCAN.start {pa fi fn : Nat → Int32} {x c : Int} {n : Int32} (e : c = x) : SCAN pa fi fn x c n := ⟨0, e.symm, fun j h => absurd h (by omega)⟩
theorem SCAN.hit {pa fi fn : Nat → Int32} {x c : Int} {n : Int32} (h : SCAN pa fi fn x c n) (h0 : 0 ≤ c) {k : Nat} (hk : (k : Int) < (fi c.toNat).toInt) (e : fn (6 * c.toNat + k) = n) : HASF pa fi fn x n := by
  obtain ⟨m, rfl, -⟩ := h
  exact ⟨m, h0, k, hk, e⟩
theorem SCAN.next {pa fi fn : Nat → Int32} {x c c' k : Int} {n : Int32} (h : SCAN pa fi fn x c n) (h0 : 0 ≤ c) (hn : NOWN fn c k n) (hk : (fi c.toNat).toInt ≤ k) (e : c' = (pa c.toNat).toInt) : SCAN pa fi fn x c' n := by
  obtain ⟨m, rfl, hj⟩ := h
  refine ⟨m + 1, ?_, fun j h => ?_⟩
  · rw [e]; show parZ pa (upn pa m x) = _; rw [parZ, if_pos h0]
  · by_cases em : j = m
    · subst em; exact ⟨h0, fun ⟨i, h1, h2⟩ => hn i (by omega) h2⟩
    · exact hj j (by omega)
theorem upn_neg {pa : Nat → Int32} {x : Int} {m : Nat} (h : upn pa m x < 0) (d : Nat) : upn pa (m + d) x = upn pa m x := by
  induction d with
  | zero => rfl
  | succ d ih => show parZ pa (upn pa (m + d) x) = _; rw [ih, parZ, if_neg (by omega)]
theorem SCAN.miss {pa fi fn : Nat → Int32} {x c : Int} {n : Int32} (h : SCAN pa fi fn x c n) (h0 : c < 0) : ¬ HASF pa fi fn x n := by
  obtain ⟨m, rfl, hj⟩ := h
  rintro ⟨i, h1, h2⟩
  by_cases e : i < m
  · exact (hj i e).2 h2
  · have := upn_neg (pa := pa) h0 (i - m)
    rw [show m + (i - m) = i by omega] at this
    omega
theorem NOWN.zero {fn : Nat → Int32} {x k : Int} {n : Int32} (h : k ≤ 0) : NOWN fn x k n := fun j hj => absurd hj (by omega)
theorem NOWN.step {fn : Nat → Int32} {x k k' : Int} {n : Int32} (h : NOWN fn x k n) (h0 : 0 ≤ k) (e : k' = k + 1) (hn : ¬ fn (6 * x.toNat + k.toNat) = n) : NOWN fn x k' n := fun j hj => by
  by_cases em : (j : Int) = k
  · rw [show j = k.toNat by omega]; exact hn
  · exact h j (by omega)
/-- the value in cell p has a field n -/
def FLD (kd : Nat → Int32) (av : Nat → Int64) (co pa fi fn : Nat → Int32) (p : Nat) (n : Int32) : Prop := 8 ≤ (kd p).toInt ∧ HASF pa fi fn (co (av p).toInt.toNat).toInt n
theorem z_rem30 {x y : Int32} (e : y = x - x / 30 * 30) (h : 0 ≤ x.toInt) (h2 : x.toInt < 2000) : y.toInt = x.toInt % 30 := by
  have q : (30 : Int32).toInt = 30 := by decide +kernel
  have d : (x / 30).toInt = x.toInt / 30 := by
    rw [Int32.toInt_div, q, Int.tdiv_eq_ediv_of_nonneg h]
    exact Int.bmod_eq_of_le (by omega) (by omega)
  have m : (x / 30 * 30).toInt = x.toInt / 30 * 30 := by
    rw [Int32.toInt_mul, q, d]
    exact Int.bmod_eq_of_le (by omega) (by omega)
  rw [e, Int32.toInt_sub, m]
  rw [Int.bmod_eq_of_le (by omega) (by omega)]
  omega
/-! ===== good values ===== -/
def GV (n ob fl : Int) (k : Int) (v : Int64) (r : UInt64) : Prop := ((0 ≤ k ∧ k ≤ 4) ∨ (8 ≤ k ∧ k < 8 + n ∧ 0 ≤ v.toInt ∧ v.toInt < ob)) ∧ (fl = 0 → k = 3 → FN r)
theorem GV.ka {n ob fl k : Int} {v : Int64} {r : UInt64} (h : 1 ≤ k ∧ k ≤ 4 ∧ (k = 3 → FN r)) : GV n ob fl k v r := ⟨Or.inl ⟨by omega, h.2.1⟩, fun _ => h.2.2⟩
theorem GV.cell {kd : Nat → Int32} {av : Nat → Int64} {rl : Nat → UInt64} {n ob fl t : Int} {p : Nat} (hv : VALS kd av n ob) (hf : FINS kd rl t) (hp : p < 980) (h : (p : Int) < t ∨ 60 ≤ p) : GV n ob fl (kd p).toInt (av p) (rl p) := ⟨hv p hp, fun _ hk => hf p hp h hk⟩
theorem VALS.gv {kd kd' : Nat → Int32} {av av' : Nat → Int64} {rl rl' : Nat → UInt64} {p : Nat} {n ob fl : Int} (hv : VALS kd av n ob) (h : Cell1 kd kd' av av' rl rl' p (GV n ob fl)) : VALS kd' av' n ob := by
  obtain ⟨k, v, r, rfl, rfl, -, h1, -⟩ := h
  exact hv.up h1
theorem FINS.gv {kd kd' : Nat → Int32} {av av' : Nat → Int64} {rl rl' : Nat → UInt64} {p : Nat} {n ob fl t : Int} (hf : FINS kd rl t) (h : Cell1 kd kd' av av' rl rl' p (GV n ob fl)) (e : fl = 0) : FINS kd' rl' t := by
  obtain ⟨k, v, r, rfl, -, rfl, -, h2⟩ := h
  exact hf.up (h2 e) (Or.inl (Int.le_refl _))
/-- a write below 60 leaves the other cells' reals as they were -/
theorem FINS.low {kd kd' : Nat → Int32} {av av' : Nat → Int64} {rl rl' : Nat → UInt64} {p : Nat} {K : Int → Int64 → UInt64 → Prop} {t : Int} (hf : FINS kd rl t) (ht : t ≤ p) (hp : p < 60) (h : Cell1 kd kd' av av' rl rl' p K) : FINS kd' rl' t := by
  obtain ⟨k, v, r, rfl, -, rfl, -⟩ := h
  intro q hq hr hk
  have e : ¬ q = p := by omega
  rw [upd_ne e] at hk; rw [vf_ne e]; exact hf q hq hr hk
theorem Cell1.ne {kd kd' : Nat → Int32} {av av' : Nat → Int64} {rl rl' : Nat → UInt64} {p q : Nat} {K : Int → Int64 → UInt64 → Prop} (h : Cell1 kd kd' av av' rl rl' p K) (e : ¬ q = p) : kd' q = kd q ∧ av' q = av q ∧ rl' q = rl q := by
  obtain ⟨k, v, r, rfl, rfl, rfl, -⟩ := h
  exact ⟨upd_ne e, updL_ne e, vf_ne e⟩
