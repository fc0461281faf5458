/-! ===== the class: what texts, bytes and builders say ===== -/
def kcS (i : Nat) : List Int := (kcI i).map Int32.toInt
/-- the constants: none of the pool; lengths; bytes -/
def KZ (P : PL) (sa : Nat → Nat) : Prop := (∀ i, KI i → oT P (sa i) = 0 ∧ oT P (sa (1001 + 2 * sa i)) = 0 ∧ sa (1000 + 2 * sa i) = (kcI i).length) ∧ ∀ i j, KI i → KI j → sa (1001 + 2 * sa i) = sa (1001 + 2 * sa j) → kcI i = kcI j
/-- characters a text may have -/
def CHS (s : List Int) : Prop := ∀ c ∈ s, 0 ≤ c ∧ c < 128
/-- bytes of an array -/
def PFX (P : PL) (b : Nat) (s : List Int) : Prop := ∀ k : Nat, k < s.length → (oB P b k).toInt = s.getD k 0
/-- a text's characters -/
def TXq (P : PL) (sa : Nat → Nat) (c : Nat) (s : List Int) : Prop :=
  (oT P c = 7 ∧ ∃ b, oR P 11 c = some b ∧ oT P b = 8 ∧ oL P b = s.length ∧ PFX P b s) ∨ (∃ i, KI i ∧ c = sa i ∧ s = kcS i)
/-- an array's bytes -/
def BTX (P : PL) (sa : Nat → Nat) (b : Nat) (s : List Int) : Prop :=
  (oT P b = 8 ∧ oL P b = s.length ∧ PFX P b s) ∨ (∃ i, KI i ∧ b = sa (1001 + 2 * sa i) ∧ s = kcS i)
/-- a builder's characters, and how many -/
def SBP (P : PL) (a : Nat) (s : List Int) : Prop := ∃ b, oR P 12 a = some b ∧ PFX P b s
def SBX (P : PL) (a : Nat) (s : List Int) : Prop := (oI P 25 a).toInt = s.length ∧ SBP P a s
/-- an array that no builder writes to -/
def NB (P : PL) (b : Nat) : Prop := ∀ x, oT P x = 12 → ¬ oR P 12 x = some b
section TXs
variable {p : Program} {l : Launch} {e : Env} {R : Room} {s0 : State} {m : MethodId} {args : Array Value} {below : List Frame} {meth : Method} {c : Code} {H : Heap}
variable {cc : ByteArray} {A : Nat → Prop} {D : va_G} {cy : Nat → ClassId} {sz0 : Nat} {sa : Nat → Nat} {ad : Nat → Nat} {κ : KS} {maxL : Nat} {ret : Option FieldType} {own nm : String}
variable {P P' P2 : PL} {a b t k n i j q : Nat} {s s' : List Int} {x : Int32} {cp : Prop}
theorem kcS_len : (kcS i).length = (kcI i).length := by unfold kcS; rw [List.length_map]
theorem kcS_get : (kcS i).getD k 0 = ((kcI i).getD k 0).toInt := by
  unfold kcS
  rw [List.getD_eq_getElem?_getD, List.getD_eq_getElem?_getD, List.getElem?_map]
  cases (kcI i)[k]? with
  | none => show (0 : Int) = (0 : Int32).toInt; decide
  | some v => rfl
theorem kcS_ok (h : KI i) : CHS (kcS i) := by
  rcases h with rfl | rfl | rfl | rfl <;> (unfold CHS; decide +kernel)
theorem KZ.mk9 (C : CC p s0 m args meth c cc maxL ret own nm D cy sz0 sa A) (hP : CH D cy ad A κ H) : KZ κ.2.2.2.2 sa := by
  refine ⟨fun i hi => ⟨kc_0 C hP hi.kc, kc_v C hP hi.kc, (C.n.1 i hi).1⟩, fun i j hi hj e => ?_⟩
  obtain ⟨c1, a1, -, -, n1, l1, a2, -⟩ := ((C.n.1 i hi).2.1 0 (by decide)).2.2.2
  obtain ⟨c2, b1, -, -, n2, l2, b2, -⟩ := ((C.n.1 j hj).2.1 0 (by decide)).2.2.2
  have a1 : s0.heap[sa (1001 + 2 * sa i)]? = some c1 := a1
  have b1 : s0.heap[sa (1001 + 2 * sa j)]? = some c2 := b1
  rw [← e, a1] at b1
  have e9 := Option.some.inj b1
  subst e9
  have l1 : c1.slots.size.toInt32 = Int32.ofNat (kcI i).length := l1
  have l2 : c1.slots.size.toInt32 = Int32.ofNat (kcI j).length := l2
  have u1 := (kcI_ok hi).1
  have u2 := (kcI_ok hj).1
  have l3 := congrArg Int32.toInt (l1.symm.trans l2)
  rw [Int32.toInt_ofNat_of_lt (by omega), Int32.toInt_ofNat_of_lt (by omega)] at l3
  refine List.ext_getElem (by omega) (fun k h1 h2 => ?_)
  have a3 : c1.slots[k]? = some (.int ((kcI i).getD k 0)) := a2 k h1
  have b3 : c1.slots[k]? = some (.int ((kcI j).getD k 0)) := b2 k h2
  have g := Value.int.inj (Option.some.inj (a3.symm.trans b3))
  rw [List.getD_eq_getElem?_getD, List.getD_eq_getElem?_getD, List.getElem?_eq_getElem h1, List.getElem?_eq_getElem h2] at g
  exact g
theorem BYR.tx9 (h : BTX P sa b s) (g : BYR P sa b k x) (hk : k < s.length) : x.toInt = s.getD k 0 := by
  rcases h with ⟨h1, h2, h3⟩ | ⟨i, h1, h2, h3⟩
  · rw [g.1 (by rw [h1])]; exact h3 k hk
  · subst h3
    rw [kcS_len] at hk
    rw [kcS_get, (g.2 i h1 h2).2 hk]
theorem BTX.len9 (kz : KZ P sa) (hb : BOK P sa b n) (h : BTX P sa b s) : n = s.length := by
  rcases hb with ⟨b1, b2, -⟩ | ⟨c, b1, b2, b3⟩
  · rcases h with ⟨_, h2, _⟩ | ⟨i, h1, h2, _⟩
    · omega
    · have z := (kz.1 i h1).2.1
      rw [← h2] at z
      omega
  · obtain ⟨i0, hi0, rfl⟩ := b1.ix
    rcases h with ⟨h1, _⟩ | ⟨i, h1, h2, h3⟩
    · have z := (kz.1 i0 hi0).2.1
      rw [← b2, h1] at z
      exact absurd z (by decide)
    · rw [h3, kcS_len, ← kz.2 i0 i hi0 h1 (b2.symm.trans h2), b3]
      exact (kz.1 i0 hi0).2.2
theorem TXq.b9 (kz : KZ P sa) (h : TXq P sa a s) : BTX P sa (sVal P sa a) s := by
  rcases h with ⟨h1, b, h2, h3, h4, h5⟩ | ⟨i, h1, h2, h3⟩
  · unfold sVal
    rw [if_pos h1, h2]
    exact Or.inl ⟨h3, h4, h5⟩
  · subst h2
    unfold sVal
    rw [if_neg (by rw [(kz.1 i h1).1]; decide)]
    exact Or.inr ⟨i, h1, rfl, h3⟩
theorem TXq.len9 (kz : KZ P sa) (hs : SL P sa a n) (h : TXq P sa a s) : n = s.length := by
  rcases h with ⟨h1, b, h2, h3, h4, h5⟩ | ⟨i, h1, h2, h3⟩
  · rcases hs with ⟨_, b2, s1, s2, s3⟩ | ⟨s1, s2⟩
    · rw [h2] at s1
      have := Option.some.inj s1
      subst this
      omega
    · obtain ⟨i, hi, rfl⟩ := s1.ix
      rw [(kz.1 i hi).1] at h1
      exact absurd h1 (by decide)
  · subst h2
    rcases hs with ⟨s0, _⟩ | ⟨_, s2⟩
    · rw [(kz.1 i h1).1] at s0
      exact absurd s0 (by decide)
    · rw [s2, h3, kcS_len]; exact (kz.1 i h1).2.2
theorem TXq.ex9 (h : TXq P sa a s) (e : EX P P') (g : KPx cp P P') : TXq P' sa a s := by
  rcases h with ⟨h1, b, h2, h3, h4, h5⟩ | h
  · obtain ⟨g1, g2, g3, g4⟩ := g.2.1 a b h1 h2
    exact Or.inl ⟨g1, b, g2, e.T h3 (by decide), g3.trans h4, fun k hk => by rw [g4]; exact h5 k hk⟩
  · exact Or.inr h
theorem q_ext {s t : List Int} (hl : s.length = t.length) (h : ∀ k : Nat, k < s.length → s.getD k 0 = t.getD k 0) : s = t := by
  refine List.ext_getElem hl (fun k h1 h2 => ?_)
  have g := h k h1
  rw [List.getD_eq_getElem?_getD, List.getD_eq_getElem?_getD, List.getElem?_eq_getElem h1, List.getElem?_eq_getElem h2] at g
  exact g
theorem TXq.fun9 (kz : KZ P sa) (h : TXq P sa a s) (g : TXq P sa a s') : s = s' := by
  rcases h with ⟨h1, b, h2, h3, h4, h5⟩ | ⟨i, h1, h2, h3⟩
  · rcases g with ⟨g1, b2, g2, g3, g4, g5⟩ | ⟨i, g1, g2, g3⟩
    · rw [h2] at g2
      have := Option.some.inj g2
      subst this
      exact q_ext (by omega) (fun k hk => (h5 k hk).symm.trans (g5 k (by omega)))
    · rw [g2, (kz.1 i g1).1] at h1
      exact absurd h1 (by decide)
  · rcases g with ⟨g1, _⟩ | ⟨j, g1, g2, g3⟩
    · rw [h2, (kz.1 i h1).1] at g1
      exact absurd g1 (by decide)
    · rw [h3, g3]
      unfold kcS
      rw [kz.2 i j h1 g1 (by rw [← h2, ← g2])]
theorem PFX.nil9 : PFX P b [] := fun k hk => absurd hk (Nat.not_lt_zero _)
theorem PFX.app9 (h : PFX P b s) (hk : ∀ k : Nat, k < s.length → oB P' q k = oB P b k) (hn : ∀ k : Nat, k < s'.length → (oB P' q (s.length + k)).toInt = s'.getD k 0) : PFX P' q (s ++ s') := fun k hl => by
  by_cases c : k < s.length
  · rw [hk k c, h k c, List.getD_eq_getElem?_getD, List.getD_eq_getElem?_getD, List.getElem?_append_left c]
  · rw [List.length_append] at hl
    have z := hn (k - s.length) (by omega)
    rw [show s.length + (k - s.length) = k by omega] at z
    rw [z, List.getD_eq_getElem?_getD, List.getD_eq_getElem?_getD, List.getElem?_append_right (by omega)]
theorem q_u8 : ∀ n : Fin 128, ((Int32.ofNat n.val &&& 255).toUInt32 % 65536).toInt32 = Int32.ofNat n.val := by decide +kernel
theorem q_u8x {y z : Int32} (h0 : 0 ≤ x.toInt) (h1 : x.toInt < 128) (ey : y = x &&& 255) (ez : z = (y.toUInt32 % 65536).toInt32) : z = x := by
  obtain ⟨n, hn, rfl⟩ : ∃ n : Nat, n < 128 ∧ x = Int32.ofNat n := ⟨x.toInt.toNat, by omega, Int32.toInt_inj.mp (by rw [Int32.toInt_ofNat_of_lt (by omega)]; omega)⟩
  rw [ez, ey]; exact q_u8 ⟨n, hn⟩
theorem q_b8 : ∀ n : Fin 128, vp_nar .byte (Int32.ofNat n.val) = Int32.ofNat n.val := by decide +kernel
theorem q_b8x (h0 : 0 ≤ x.toInt) (h1 : x.toInt < 128) : vp_nar .byte x = x := by
  obtain ⟨n, hn, rfl⟩ : ∃ n : Nat, n < 128 ∧ x = Int32.ofNat n := ⟨x.toInt.toNat, by omega, Int32.toInt_inj.mp (by rw [Int32.toInt_ofNat_of_lt (by omega)]; omega)⟩
  exact q_b8 ⟨n, hn⟩
theorem CHS.get9 (h : CHS s) : 0 ≤ s.getD k 0 ∧ s.getD k 0 < 128 := q_gb h
theorem NB.newB9 {f : Nat → Int32} (hP : PV sa P) (h0 : oT P q = 0) : NB (newB P q n f) q := fun x hx e => by
  have nx : ¬ x = q := fun e9 => by
    rw [e9, newB_T, if_pos rfl] at hx
    exact absurd hx (by decide)
  rw [newB_T, if_neg nx] at hx
  have e : oR P 12 x = some q := (vu_ne nx).symm.trans e
  obtain ⟨b, b1, b2, _⟩ := hP.sb hx
  rw [e] at b1
  rw [← Option.some.inj b1, h0] at b2
  exact absurd b2 (by decide)
end TXs
/-! ===== the class: digits, bytes written ===== -/
theorem q_i8 : ∀ n : Fin 128, (Int32.ofNat n.val).toInt8.toInt32 = Int32.ofNat n.val := by decide +kernel
theorem q_i8x {x y : Int32} (h0 : 0 ≤ x.toInt) (h1 : x.toInt < 128) (e : y = x.toInt8.toInt32) : y = x := by
  obtain ⟨n, hn, rfl⟩ : ∃ n : Nat, n < 128 ∧ x = Int32.ofNat n := ⟨x.toInt.toNat, by omega, Int32.toInt_inj.mp (by rw [Int32.toInt_ofNat_of_lt (by omega)]; omega)⟩
  rw [e]; exact q_i8 ⟨n, hn⟩
theorem q_oB {P : PL} {b : Nat} {f : Nat → Int32} : oB (sB P b f) b = f := vu_eq
theorem sb_dg10 {n : Nat} (h : 10 ≤ n) (h2 : n < 10000000000) : sb_dg n = sb_dg (n / 10) + 1 := by
  unfold sb_dg
  (repeat' split) <;> omega
theorem qDg_l9 : ∀ (f n : Nat), n ≤ f → n < 10000000000 → (qDg n).length = sb_dg n
  | 0, n, h, _ => by
    obtain rfl : n = 0 := by omega
    rfl
  | f + 1, n, h, h2 => by
    by_cases c : n < 10
    · rw [qDg_one c, dg_1 (Nat.zero_le _) c]; rfl
    · have e : n = 10 * (n / 10) + n % 10 := by omega
      rw [sb_dg10 (by omega) h2, ← qDg_l9 f (n / 10) (by omega) (by omega)]
      conv => lhs; rw [e]
      rw [qDg_more (Nat.mod_lt _ (by decide)) (by omega) (by omega), List.length_append]; rfl
theorem qDg_len9 {n : Nat} (h : n < 10000000000) : (qDg n).length = sb_dg n := qDg_l9 n n (Nat.le_refl _) h
theorem qDec_len9 {v : Int} (h : v.natAbs < 10000000000) : (qDec v).length = sb_dg v.natAbs + ngd v := by
  unfold qDec ngd
  rw [List.length_append, qDg_len9 h]
  split
  · show 1 + _ = _; omega
  · show 0 + _ = _; omega
theorem qDg_two9 {n : Nat} (h : 100 ≤ n) (h2 : n < 10000000000) : qDg n = qDg (n / 100) ++ [48 + ((n % 100 / 10 : Nat) : Int), 48 + ((n % 100 % 10 : Nat) : Int)] := by
  have e : n = 10 * (10 * (n / 100) + n % 100 / 10) + n % 100 % 10 := by omega
  conv => lhs; rw [e]
  rw [qDg_more (by omega) (by omega) (by omega), qDg_more (by omega) (by omega) (by omega), List.append_assoc]; rfl
theorem qDg_20 {n : Nat} (h : 10 ≤ n) (h2 : n < 100) : qDg n = [48 + ((n / 10 : Nat) : Int), 48 + ((n % 10 : Nat) : Int)] := by
  have e : n = 10 * (n / 10) + n % 10 := by omega
  conv => lhs; rw [e]
  rw [qDg_more (by omega) (by omega) (by omega), qDg_one (by omega)]; rfl
/-- the digits that have been written: from p on, up to e -/
def GCH (P0 P : PL) (b : Nat) (v i p e : Int) : Prop := ∃ t : List Int, (t.length : Int) = e - p ∧ qDg v.natAbs = qDg i.natAbs ++ t ∧ (∀ k : Nat, k < t.length → (oB P b (p.toNat + k)).toInt = t.getD k 0) ∧ ∀ k : Nat, (k : Int) < p → oB P b k = oB P0 b k
section GCs
variable {P0 P P' : PL} {b x y : Nat} {v i i2 p p2 e : Int} {s : List Int} {c d m : Int32} {f : Nat → Int32}
theorem GCH.start9 (h : i.natAbs = v.natAbs) (hp : p = e) : GCH P0 P0 b v i p e := ⟨[], by show ((0 : Nat) : Int) = _; omega, by rw [List.append_nil, h], fun k hk => absurd hk (Nat.not_lt_zero _), fun _ _ => rfl⟩
theorem GCH.step9 (h : GCH P0 P b v i p e) (hi : i ≤ -100) (hi2 : -2147483648 ≤ i) (hq : i2.natAbs = i.natAbs / 100) (hp2 : p2 = p - 2) (h0 : 0 ≤ p2) (hx : (x : Int) = p - 1) (hy : (y : Int) = p - 2) (hc : c.toInt = 48 + ((i.natAbs % 100 % 10 : Nat) : Int)) (hd : d.toInt = 48 + ((i.natAbs % 100 / 10 : Nat) : Int)) (hf : oB P' b = upd (upd (oB P b) x c) y d) : GCH P0 P' b v i2 p2 e := by
  obtain ⟨t, h1, h2, h3, h4⟩ := h
  refine ⟨d.toInt :: c.toInt :: t, ?_, ?_, fun k hk => ?_, fun k hk => ?_⟩
  · show ((t.length + 1 + 1 : Nat) : Int) = _; omega
  · rw [h2, qDg_two9 (by omega) (by omega), hq, List.append_assoc, hc, hd]; rfl
  · rw [hf]
    have hk : k < t.length + 1 + 1 := hk
    match k, hk with
    | 0, _ => rw [show p2.toNat + 0 = y by omega, upd_eq]; rfl
    | 1, _ => rw [show p2.toNat + 1 = x by omega, upd_ne (by omega), upd_eq]; rfl
    | k + 2, hk =>
      rw [upd_ne (by omega), upd_ne (by omega), show p2.toNat + (k + 2) = p.toNat + k by omega]
      exact h3 k (by omega)
  · rw [hf, upd_ne (by omega), upd_ne (by omega)]; exact h4 k (by omega)
/-- one digit left -/
theorem GCH.one9 (h : GCH P0 P b v i p e) (hi : i ≤ 0) (hi2 : -10 < i) (hp2 : p2 = p - 1) (h0 : 0 ≤ p2) (hx : (x : Int) = p - 1) (hc : c.toInt = 48 + ((i.natAbs % 10 : Nat) : Int)) (hf : f = upd (oB P b) x c) : (∃ t : List Int, (t.length : Int) = e - p2 ∧ qDg v.natAbs = t ∧ (∀ k : Nat, k < t.length → (f (p2.toNat + k)).toInt = t.getD k 0) ∧ ∀ k : Nat, (k : Int) < p2 → f k = oB P0 b k) := by
  obtain ⟨t, h1, h2, h3, h4⟩ := h
  subst hf
  refine ⟨c.toInt :: t, ?_, ?_, fun k hk => ?_, fun k hk => ?_⟩
  · show ((t.length + 1 : Nat) : Int) = _; omega
  · rw [h2, qDg_one (by omega), hc, show i.natAbs % 10 = i.natAbs by omega]; rfl
  · have hk : k < t.length + 1 := hk
    match k, hk with
    | 0, _ => rw [show p2.toNat + 0 = x by omega, upd_eq]; rfl
    | k + 1, hk =>
      rw [upd_ne (by omega), show p2.toNat + (k + 1) = p.toNat + k by omega]
      exact h3 k (by omega)
  · rw [upd_ne (by omega)]; exact h4 k (by omega)
/-- two digits left -/
theorem GCH.two9 (h : GCH P0 P b v i p e) (hi : i ≤ -10) (hi2 : -100 < i) (hp2 : p2 = p - 2) (h0 : 0 ≤ p2) (hx : (x : Int) = p - 1) (hy : (y : Int) = p - 2) (hc : c.toInt = 48 + ((i.natAbs % 10 : Nat) : Int)) (hd : d.toInt = 48 + ((i.natAbs / 10 : Nat) : Int)) (hf : f = upd (upd (oB P b) x c) y d) : (∃ t : List Int, (t.length : Int) = e - p2 ∧ qDg v.natAbs = t ∧ (∀ k : Nat, k < t.length → (f (p2.toNat + k)).toInt = t.getD k 0) ∧ ∀ k : Nat, (k : Int) < p2 → f k = oB P0 b k) := by
  obtain ⟨t, h1, h2, h3, h4⟩ := h
  subst hf
  refine ⟨d.toInt :: c.toInt :: t, ?_, ?_, fun k hk => ?_, fun k hk => ?_⟩
  · show ((t.length + 1 + 1 : Nat) : Int) = _; omega
  · rw [h2, qDg_20 (by omega) (by omega), hc, hd]; rfl
  · have hk : k < t.length + 1 + 1 := hk
    match k, hk with
    | 0, _ => rw [show p2.toNat + 0 = y by omega, upd_eq]; rfl
    | 1, _ => rw [show p2.toNat + 1 = x by omega, upd_ne (by omega), upd_eq]; rfl
    | k + 2, hk =>
      rw [upd_ne (by omega), upd_ne (by omega), show p2.toNat + (k + 2) = p.toNat + k by omega]
      exact h3 k (by omega)
  · rw [upd_ne (by omega), upd_ne (by omega)]; exact h4 k (by omega)
/-- no sign -/
theorem GCH.pos9 (h : ∃ t : List Int, (t.length : Int) = e - p ∧ qDg v.natAbs = t ∧ (∀ k : Nat, k < t.length → (f (p.toNat + k)).toInt = t.getD k 0) ∧ ∀ k : Nat, (k : Int) < p → f k = oB P0 b k) (hf : oB P b = f) (hv : 0 ≤ v) (hs : PFX P0 b s) (hl : e = s.length + (qDec v).length) : PFX P b (s ++ qDec v) := by
  obtain ⟨t, h1, h2, h3, h4⟩ := h
  have e1 : qDec v = t := by unfold qDec; rw [if_neg (by omega), List.nil_append, h2]
  rw [e1] at hl ⊢
  refine hs.app9 (fun k hk => ?_) (fun k hk => ?_)
  · rw [hf]; exact h4 k (by omega)
  · rw [hf, show s.length + k = p.toNat + k by omega]; exact h3 k hk
/-- a sign -/
theorem GCH.neg9 (h : ∃ t : List Int, (t.length : Int) = e - p ∧ qDg v.natAbs = t ∧ (∀ k : Nat, k < t.length → (f (p.toNat + k)).toInt = t.getD k 0) ∧ ∀ k : Nat, (k : Int) < p → f k = oB P0 b k) (hf : oB P b = upd f x m) (hx : (x : Int) = p - 1) (hm : m.toInt = 45) (hv : v < 0) (hs : PFX P0 b s) (hl : e = s.length + (qDec v).length) : PFX P b (s ++ qDec v) := by
  obtain ⟨t, h1, h2, h3, h4⟩ := h
  have e1 : qDec v = 45 :: t := by unfold qDec; rw [if_pos hv, h2]; rfl
  rw [e1] at hl ⊢
  have hl : e = s.length + ((t.length + 1 : Nat) : Int) := hl
  refine hs.app9 (fun k hk => ?_) (fun k hk => ?_)
  · rw [hf, upd_ne (by omega)]; exact h4 k (by omega)
  · rw [hf]
    have hk : k < t.length + 1 := hk
    match k, hk with
    | 0, _ => rw [show s.length + 0 = x by omega, upd_eq, hm]; rfl
    | k + 1, hk =>
      rw [upd_ne (by omega), show s.length + (k + 1) = p.toNat + k by omega]
      exact h3 k (by omega)
end GCs
