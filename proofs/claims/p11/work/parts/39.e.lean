theorem CC.cs {p : Program} {s : State} {m : MethodId} {args : Array Value} {meth : Method} {c : Code} {cc : ByteArray} {maxL : Nat} {ret : Option FieldType} {own nm : String} {D : va_G} {cy : Nat → ClassId} {sz0 : Nat} {sa : Nat → Nat} {A : Nat → Prop} (C : CC p s m args meth c cc maxL ret own nm D cy sz0 sa A) : va_Z "java/lang/String" "COMPACT_STRINGS" "Z" (.int 1) A s s.heap := C.en.2.2.1.1.narrow C.f
theorem z_u16 (x : Int32) : 0 ≤ ((x.toUInt32 % 65536).toInt32).toInt ∧ ((x.toUInt32 % 65536).toInt32).toInt ≤ 65535 := by
  have h : (x.toUInt32 % 65536).toNat < 65536 := by
    rw [UInt32.toNat_mod]; exact Nat.mod_lt _ (by decide)
  have e : ((x.toUInt32 % 65536).toInt32).toInt = ((x.toUInt32 % 65536).toNat : Int) := by
    show (x.toUInt32 % 65536).toBitVec.toInt = _
    rw [BitVec.toInt_eq_toNat_of_lt (by show 2 * (x.toUInt32 % 65536).toNat < 2 ^ 32; omega)]
    rfl
  rw [e]; omega
theorem sok_len {p : Program} {s : State} {m : MethodId} {args : Array Value} {meth : Method} {c : Code} {cc : ByteArray} {maxL : Nat} {ret : Option FieldType} {own nm : String} {D : va_G} {cy : Nat → ClassId} {sz0 : Nat} {sa : Nat → Nat} {A : Nat → Prop} {P : PL} {a : Nat} (C : CC p s m args meth c cc maxL ret own nm D cy sz0 sa A) (hP : PV sa P) (h : SOK P sa a) : sLen P sa a ≤ 100 := by
  unfold sLen
  rcases h with h | ⟨h, h2⟩
  · obtain ⟨⟨b, h1, h2, h3⟩, -⟩ := hP.t7 h
    rw [if_pos h, h1]; exact Nat.le_trans h3 (by decide)
  · rw [if_neg h]; exact Nat.le_trans (kst C h2).1 (by decide)
theorem narc {x : Int32} (h : 0 ≤ x.toInt ∧ x.toInt ≤ 65535) : narrow .char (.int x) = .int x := by
  obtain ⟨n, hn, e⟩ : ∃ n : Nat, n ≤ 65535 ∧ x = nI n := by
    refine ⟨x.toInt.toNat, by omega, Int32.toInt_inj.mp ?_⟩
    rw [nI_toInt (by omega)]; omega
  rw [e]; exact (pk_charN (q := n) (by omega)).1
theorem z_ng {x : Int32} (h : -2147483648 < x.toInt) : (-x).toInt = -x.toInt := by
  have h2 := Int32.toInt_lt x
  have e : -x = 0 - x := by simp
  have z : (0 : Int32).toInt = 0 := by decide +kernel
  rw [e, z_sub (by omega) (by omega)]; omega
theorem dg_1 {w : Nat} (h1 : 0 ≤ w) (h2 : w < 10) : sb_dg w = 1 := by
  unfold sb_dg
  (repeat' split) <;> omega
theorem dg_2 {w : Nat} (h1 : 10 ≤ w) (h2 : w < 100) : sb_dg w = 2 := by
  unfold sb_dg
  (repeat' split) <;> omega
theorem dg_3 {w : Nat} (h1 : 100 ≤ w) (h2 : w < 1000) : sb_dg w = 3 := by
  unfold sb_dg
  (repeat' split) <;> omega
theorem dg_4 {w : Nat} (h1 : 1000 ≤ w) (h2 : w < 10000) : sb_dg w = 4 := by
  unfold sb_dg
  (repeat' split) <;> omega
theorem dg_5 {w : Nat} (h1 : 10000 ≤ w) (h2 : w < 100000) : sb_dg w = 5 := by
  unfold sb_dg
  (repeat' split) <;> omega
theorem dg_6 {w : Nat} (h1 : 100000 ≤ w) (h2 : w < 1000000) : sb_dg w = 6 := by
  unfold sb_dg
  (repeat' split) <;> omega
theorem dg_7 {w : Nat} (h1 : 1000000 ≤ w) (h2 : w < 10000000) : sb_dg w = 7 := by
  unfold sb_dg
  (repeat' split) <;> omega
theorem dg_8 {w : Nat} (h1 : 10000000 ≤ w) (h2 : w < 100000000) : sb_dg w = 8 := by
  unfold sb_dg
  (repeat' split) <;> omega
theorem dg_9 {w : Nat} (h1 : 100000000 ≤ w) (h2 : w < 1000000000) : sb_dg w = 9 := by
  unfold sb_dg
  (repeat' split) <;> omega
theorem dg_10 {w : Nat} (h1 : 1000000000 ≤ w) : sb_dg w = 10 := by
  unfold sb_dg
  (repeat' split) <;> omega
theorem dg_spec (w : Nat) : 1 ≤ sb_dg w ∧ sb_dg w ≤ 10 ∧ (10 ≤ w → 2 ≤ sb_dg w) ∧ (w < 10 → sb_dg w = 1) := by
  have h := sb_dg_in w
  refine ⟨h.1, h.2, fun h1 => ?_, fun h1 => ?_⟩ <;> (unfold sb_dg; (repeat' split) <;> omega)
theorem dg_step {i q : Int} (hi : i ≤ -100) (hi2 : -2147483648 ≤ i) (hq : q = -((-i) / 100)) : sb_dg i.natAbs = sb_dg q.natAbs + 2 := by
  have e : q.natAbs = i.natAbs / 100 := by omega
  rw [e]
  by_cases h : i.natAbs < 2 ^ 31
  · exact sb_dg100 (by omega) h
  · have e2 : i.natAbs = 2147483648 := by omega
    rw [e2]; decide
theorem SBS.rf {P : PL} : SBS P P := fun _ _ => ⟨rfl, rfl⟩
theorem SBS.trans {P P' P2 : PL} (e : EX P P') (h : SBS P P') (h2 : SBS P' P2) : SBS P P2 := fun a ha => by
  have z := h2 a (e.T ha (by decide))
  exact ⟨z.1.trans (h a ha).1, z.2.trans (h a ha).2⟩
theorem SBS.cnt {P P' : PL} {a : Nat} (h : SBS P P') (ht : oT P a = 12) : (oI P' 25 a).toInt = (oI P 25 a).toInt := by rw [(h a ht).1]
theorem SBS.len {P P' : PL} {a : Nat} {sa : Nat → Nat} (h : SBS P P') (ht : oT P a = 12) (e : EX P P') (hP : PV sa P) : sbL P' a = sbL P a := by
  obtain ⟨b, b1, b2, b0, -⟩ := hP.sb ht
  rw [b0]; unfold sbL
  rw [(h a ht).2, b1]; exact e.L b2 (by decide)
theorem z_dv100 {x : Int32} (h : x.toInt ≤ 0) : (x / 100).toInt = -((-x.toInt) / 100) := by
  rw [Int32.toInt_div_of_ne_right _ _ (by decide), show (100 : Int32).toInt = 100 from by decide +kernel]
  obtain ⟨n, hn⟩ : ∃ n : Int, x.toInt = -n := ⟨-x.toInt, by omega⟩
  rw [hn, Int.neg_neg, Int.neg_tdiv, Int.tdiv_eq_ediv_of_nonneg (by omega)]
def ngd (x : Int) : Nat := if x < 0 then 1 else 0
theorem ngd_spec (x : Int) : (x < 0 → ngd x = 1) ∧ (0 ≤ x → ngd x = 0) := by
  unfold ngd
  constructor <;> (intro h; split <;> omega)
theorem i32_in (x : Int32) : -2147483648 ≤ x.toInt ∧ x.toInt ≤ 2147483647 := by
  have h1 := Int32.le_toInt x
  have h2 := Int32.toInt_lt x
  omega
theorem fin_SL {P : PL} {sa : Nat → Nat} {q b n m : Nat} (hr : oT P q = 27) (h1 : oR P 11 q = some b) (h2 : oT P b = 8) (h3 : oL P b = n) : SL (sC (sT P q 7) q m) sa q n := Or.inl ⟨fin_T, b, h1, fin_nt (by omega) (nt_s h2) (by decide) b rfl, h3⟩
theorem SBS.newP {P : PL} {q t : Nat} (h0 : oT P q = 0) : SBS P (newP P q t) := fun x hx => by
  have ne : ¬ x = q := fun e => by rw [e, h0] at hx; exact absurd hx (by decide)
  exact ⟨upd_ne ne, vu_ne ne⟩
def L9 (f : Nat → Int32) : Prop := ∀ j, 0 ≤ (f j).toInt ∧ (f j).toInt ≤ 126
theorem l9_upd {f : Nat → Int32} {i : Nat} {v : Int32} (h : L9 f) (hv : 0 ≤ v.toInt ∧ v.toInt ≤ 126) : L9 (upd f i v) := fun j => by
  by_cases e : j = i
  · subst e; rw [upd_eq]; exact hv
  · rw [upd_ne e]; exact h j
/-- what a token costs: at, where it ends -/
def qg1 (a r : Int) : Nat := if r ≤ a then 40 else (3 * (r - a)).toNat
def qg2 (a r : Int) : Nat := if r ≤ a then 2800 else (17 * (r - a)).toNat
theorem qg_spec (a r : Int) : (r ≤ a → qg1 a r = 40 ∧ qg2 a r = 2800) ∧ (a < r → qg1 a r = (3 * (r - a)).toNat ∧ qg2 a r = (17 * (r - a)).toNat) := by
  unfold qg1 qg2
  constructor <;> intro h
  · rw [if_pos h, if_pos h]; exact ⟨rfl, rfl⟩
  · rw [if_neg (by omega), if_neg (by omega)]; exact ⟨rfl, rfl⟩
