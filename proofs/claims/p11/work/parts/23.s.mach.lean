/-! ===== the machine: what a program's code does ===== -/
/-- variables: names, how many, values -/
abbrev QVS : Type := (Nat → Int32) × Nat × (Nat → QV)
/-- stack (its top first), variables, the objects' fields -/
abbrev QS : Type := List QV × QVS × (Nat → Nat → QV)
def qUp (g : Nat → QV) (k : Nat) (w : QV) : Nat → QV := fun j => if j = k then w else g j
def qFUp (fl : Nat → Nat → QV) (o f : Nat) (w : QV) : Nat → Nat → QV := fun i j => if i = o ∧ j = f then w else fl i j
def qVFind (vs : QVS) (nm : Int32) : Option Nat := qFst (fun k => decide (vs.1 k = nm)) vs.2.1
def qVGet (vs : QVS) (nm : Int32) : QV := match qVFind vs nm with
  | some k => vs.2.2 k
  | none => qNull
def qVSet (vs : QVS) (nm : Int32) (w : QV) : Option QVS := match qVFind vs nm with
  | some k => some (vs.1, vs.2.1, qUp vs.2.2 k w)
  | none => if vs.2.1 < 12 then some (upd vs.1 vs.2.1 nm, vs.2.1 + 1, qUp vs.2.2 vs.2.1 w) else none
/-- the characters of a packed text of at most eight -/
def qTxt (v : Int) : List Int := (List.range (v / 72057594037927936).toNat).map (fun i => v / 128 ^ i % 128)
def qLit (s v : Int) : QV :=
  if s = 1 then qInt (Int32.ofInt v) else if s ≤ 4 then qReal (FP.ddiv (FP.l2d (Int64.ofInt v)) (qUnit s)) else if s = 5 then qText (qTxt v)
  else if s = 6 then qBool true else if s = 7 then qBool false else qNull
/-- an outcome becomes the top -/
def qTop (o : QO) (st : List QV) (r : QVS × (Nat → Nat → QV)) : QS ⊕ Int := match o with
  | .inl v => .inl (v :: st, r)
  | .inr f => .inr f
def qRoot (H : QT) (root : Int) : QV := if root < 0 then qNull else qObj H root.toNat
def qDo2 (H : QT) (s v : Int) (x y : QV) (st : List QV) (r : QVS × (Nat → Nat → QV)) : QS ⊕ Int :=
  if s = 40 then (match qFld H y v with
    | none => .inr 0
    | some f => (match qFit H x (H 3 f) with
      | .inr e => .inr e
      | .inl w => .inl (w :: st, r.1, qFUp r.2 y.2.1.toNat f w)))
  else if s ≤ 20 then qTop (qReck y x s) st r else qTop (qComp y x s) st r
def qDo1 (H : QT) (s v : Int) (x : QV) (st : List QV) (r : QVS × (Nat → Nat → QV)) : QS ⊕ Int :=
  if s = 11 ∨ s = 12 then qTop (qProp H r.2 x v (decide (s = 12))) st r
  else if s = 13 then (if x.1 = 0 then .inr 4 else .inl (x :: st, r))
  else if s = 30 then qTop (qNeg x) st r
  else if s = 31 then qTop (qNot x) st r
  else if s = 34 then (if x.1 = 1 then .inl (x :: st, r) else .inr 1)
  else if s = 38 then (match qVSet r.1 (Int32.ofInt v) x with
    | some vs => .inl (x :: st, vs, r.2)
    | none => .inr 11)
  else if s = 39 then (if x.1 = 0 then .inr 4 else if qFld H x v = none then .inr 5 else .inl (x :: st, r))
  else match st with
    | [] => .inr 0
    | y :: st => qDo2 H s v x y st r
/-- an instruction that doesn't jump; root: the root's value -/
def qDo (H : QT) (root : QV) (s v : Int) (S : QS) : QS ⊕ Int :=
  if s ≤ 8 then .inl (qLit s v :: S.1, S.2)
  else if s = 9 then .inl (qVGet S.2.1 (Int32.ofInt v) :: S.1, S.2)
  else if s = 10 then .inl (root :: S.1, S.2)
  else if s = 15 then (if S.1.length < (v % 4).toNat + 1 then .inr 0 else qTop (qCall H S.2.2 (S.1.getD (v % 4).toNat qNull) (v / 4) (S.1.take (v % 4).toNat).reverse) (S.1.drop ((v % 4).toNat + 1)) S.2)
  else match S.1 with
    | [] => .inr 0
    | x :: st => qDo1 H s v x st S.2
def qIsJ (s : Int) : Bool := decide (s = 36 ∨ s = 14 ∨ s = 32 ∨ s = 33 ∨ s = 35 ∨ s = 37)
/-- an instruction that may jump: the state then, and whether it does -/
def qJmp (s : Int) (S : QS) : (QS × Bool) ⊕ Int :=
  if s = 36 then .inl (S, true)
  else match S.1 with
    | [] => .inr 0
    | x :: st =>
      if s = 14 then .inl (S, decide (x.1 = 0))
      else if s = 37 then (if qEmpty x then .inl ((st, S.2), false) else .inl (S, true))
      else if ¬ x.1 = 1 then .inr 1
      else if s = 35 then .inl ((st, S.2), decide (x.2.1 = 0))
      else if x.2.1 = (if s = 33 then 1 else 0) then .inl (S, true) else .inl ((st, S.2), false)
/-- what may stand in a code -/
def QIN (s v : Int) : Prop := (s = 5 → ∃ t : List Int, t.length ≤ 8 ∧ (∀ c ∈ t, 0 ≤ c ∧ c < 128) ∧ v = qPkA t) ∧ (¬ s = 5 → -2147483648 ≤ v ∧ v < 2147483648)
-- ---- the reference's cells
def QSK (H : QT) (ob : Int) (m : QM) : List QV → Prop
  | [] => True
  | v :: t => QAT H ob m t.length v ∧ QSK H ob m t
def QVR (H : QT) (ob : Int) (m : QM) (f : Nat → Int32) (n : Int) (vs : QVS) : Prop :=
  n = vs.2.1 ∧ vs.2.1 ≤ 12 ∧ (∀ j : Nat, j < vs.2.1 → f j = vs.1 j ∧ QAT H ob m (64 + j) (vs.2.2 j)) ∧ ∀ i j : Nat, i < vs.2.1 → j < vs.2.1 → vs.1 i = vs.1 j → i = j
def QSTO (H : QT) (ob : Int) (m : QM) (f : Nat → Int32) (n : Int) (r : QVS × (Nat → Nat → QV)) : Prop := QVR H ob m f n r.1 ∧ QFL H ob m r.2
def QCS (H : QT) (ob : Int) (m : QM) (f : Nat → Int32) (n top : Int) (S : QS) : Prop := top = S.1.length ∧ QSK H ob m S.1 ∧ QSTO H ob m f n S.2
/-- an instruction's outcome, in the reference's cells -/
def QDR (H : QT) (ob : Int) (m : QM) (f : Nat → Int32) (n top fl : Int) (r : QVS × (Nat → Nat → QV)) (o : QS ⊕ Int) : Prop := match o with
  | .inl S => fl = 0 ∧ QCS H ob m f n top S
  | .inr e => fl = e ∧ 1 ≤ e ∧ e ≤ 11 ∧ QSTO H ob m f n r
section QMA
variable {H : QT} {ob fl fl2 top top2 n n2 s v r lo hi : Int} {m m' m2 : QM} {p q i k : Nat} {w x y : QV} {st : List QV} {S : QS} {out : QO} {f f2 : Nat → Int32} {nm : Int32} {vs : QVS} {R : QVS × (Nat → Nat → QV)} {root : QV} {z : Int64}
-- literals
theorem q_pk8 : ∀ i : Nat, i < 8 → (128 : Int) ^ i * 128 ^ (8 - i) = 72057594037927936
  | 0, _ => by decide
  | 1, _ => by decide
  | 2, _ => by decide
  | 3, _ => by decide
  | 4, _ => by decide
  | 5, _ => by decide
  | 6, _ => by decide
  | 7, _ => by decide
  | n + 8, h => absurd h (by omega)
theorem q_txt {t : List Int} (hl : t.length ≤ 8) (hc : ∀ c ∈ t, 0 ≤ c ∧ c < 128) : qTxt (qPkA t) = t := by
  have b := qPkA_b hc
  have e : qPkA t / 72057594037927936 = (t.length : Int) := by unfold qPkA; omega
  have tk := qPkA_take hl
  unfold qTxt
  rw [e, Int.toNat_natCast]
  refine List.ext_getElem (by rw [List.length_map, List.length_range]) (fun i h1 h2 => ?_)
  rw [List.getElem_map, List.getElem_range]
  have g := qPk_get t i hc
  rw [List.getD_eq_getElem?_getD, List.getElem?_eq_getElem h2] at g
  have g : qPk t / 128 ^ i % 128 = t[i] := g
  rw [← g]
  unfold qPkA
  rw [tk]
  have hp : (0 : Int) < 128 ^ i := Int.pow_pos (by decide)
  have h8 : i < 8 := by omega
  have e8 : (8 - i) = (7 - i) + 1 := by omega
  have q8 := q_pk8 i h8
  rw [e8, Int.pow_succ] at q8
  rw [show (t.length : Int) * 72057594037927936 + qPk t = qPk t + 128 ^ i * ((t.length : Int) * 128 ^ (7 - i) * 128) by rw [← q8, Int.mul_left_comm, Int.mul_assoc (t.length : Int), Int.add_comm], Int.add_mul_ediv_left _ _ (by omega)]
  omega
-- variables
theorem QVR.find9 (h : QVR H ob m f n vs) (hk : (k : Int) < n) (e : f k = nm) : qVFind vs nm = some k := by
  obtain ⟨h1, h2, h3, h4⟩ := h
  have hk : k < vs.2.1 := by omega
  refine qFst_some (decide_eq_true ((h3 k hk).1.symm.trans e)) (fun j hj => decide_eq_false (fun z => ?_)) _ hk
  have := h4 j k (by omega) hk (z.trans (e.symm.trans (h3 k hk).1))
  omega
theorem QVR.miss9 (h : QVR H ob m f n vs) (e : ∀ k : Nat, (k : Int) < n → ¬ f k = nm) : qVFind vs nm = none := by
  obtain ⟨h1, h2, h3, h4⟩ := h
  exact qFst_none _ (fun j hj => decide_eq_false (fun z => e j (by omega) ((h3 j hj).1.trans z)))
theorem QX.vr9 (h : QVR H ob m f n vs) (g : QXR m m' lo hi) (hh : hi ≤ 64 ∨ 80 ≤ lo) : QVR H ob m' f n vs :=
  ⟨h.1, h.2.1, fun j hj => ⟨(h.2.2.1 j hj).1, g.at (by have := h.2.1; omega) (h.2.2.1 j hj).2⟩, h.2.2.2⟩
theorem QVR.put9 (h : QVR H ob m f n vs) (g : QPF f f2 n n2 nm r) (hr : 0 ≤ r) (hw : QW H ob m m' r.toNat w) : ∃ v2, qVSet vs nm w = some v2 ∧ QVR H ob m' f2 n2 v2 := by
  have h0 := h
  obtain ⟨h1, h2, h3, h4⟩ := h
  rcases g with ⟨a1, a2, k, a3, a4, a5⟩ | ⟨a1, a2, a3, a4, a5⟩ | ⟨_, _, _, _, a5⟩
  · subst a1 a2
    have e := h0.find9 a3 a4
    refine ⟨(vs.1, vs.2.1, qUp vs.2.2 k w), by unfold qVSet; rw [e], h1, h2, fun j hj => ⟨(h3 j hj).1, ?_⟩, h4⟩
    show QAT H ob m' (64 + j) (if j = k then w else vs.2.2 j)
    by_cases c : j = k
    · rw [if_pos c, show 64 + j = r.toNat by omega]; exact hw.at
    · rw [if_neg c]; exact hw.ne (by omega) (h3 j hj).2
  · have e := h0.miss9 a1
    refine ⟨(upd vs.1 vs.2.1 nm, vs.2.1 + 1, qUp vs.2.2 vs.2.1 w), by unfold qVSet; rw [e]; exact if_pos (by omega), ?_, ?_, fun j hj => ?_, fun i j hi hj => ?_⟩
    · show n2 = ((vs.2.1 + 1 : Nat) : Int); omega
    · show vs.2.1 + 1 ≤ 12; omega
    · have hj : j < vs.2.1 + 1 := hj
      show f2 j = upd vs.1 vs.2.1 nm j ∧ QAT H ob m' (64 + j) (if j = vs.2.1 then w else vs.2.2 j)
      rw [a4, show n.toNat = vs.2.1 by omega]
      by_cases c : j = vs.2.1
      · rw [if_pos c, c, upd_eq, upd_eq, show 64 + vs.2.1 = r.toNat by omega]; exact ⟨rfl, hw.at⟩
      · rw [if_neg c, upd_ne c, upd_ne c]
        have z := h3 j (by omega)
        exact ⟨z.1, hw.ne (by omega) z.2⟩
    · have hi : i < vs.2.1 + 1 := hi
      have hj : j < vs.2.1 + 1 := hj
      show upd vs.1 vs.2.1 nm i = upd vs.1 vs.2.1 nm j → i = j
      have key : ∀ j : Nat, j < vs.2.1 → ¬ vs.1 j = nm := fun j hj z => a1 j (by omega) ((h3 j hj).1.trans z)
      by_cases c : i = vs.2.1
      · by_cases d : j = vs.2.1
        · intro _; omega
        · rw [c, upd_eq, upd_ne d]; intro z; exact absurd z.symm (key j (by omega))
      · by_cases d : j = vs.2.1
        · rw [d, upd_eq, upd_ne c]; intro z; exact absurd z (key i (by omega))
        · rw [upd_ne c, upd_ne d]; exact h4 i j (by omega) (by omega)
  · omega
theorem QVR.full9 (h : QVR H ob m f n vs) (g : QPF f f2 n n2 nm r) (hr : r < 0) : qVSet vs nm w = none ∧ f2 = f ∧ n2 = n := by
  rcases g with ⟨_, _, k, _, _, a5⟩ | ⟨_, _, _, _, a5⟩ | ⟨a1, a2, a3, a4, a5⟩
  · omega
  · have := h.1; omega
  · refine ⟨?_, a4, a3⟩
    unfold qVSet
    rw [h.miss9 a1]
    exact if_neg (by have := h.1; omega)
-- stacks
theorem QSK.xr9 : ∀ {st : List QV}, QSK H ob m st → QXR m m' lo hi → ((st.length : Int) ≤ lo) → QSK H ob m' st
  | [], _, _, _ => trivial
  | v :: t, h, g, hl => by
    have hl : ((t.length + 1 : Nat) : Int) ≤ lo := hl
    exact ⟨g.at (by omega) h.1, QSK.xr9 h.2 g (by omega)⟩
theorem QSK.drop9 : ∀ {st : List QV} (k : Nat), QSK H ob m st → QSK H ob m (st.drop k)
  | _, 0, h => h
  | [], k + 1, h => h
  | _ :: t, k + 1, h => QSK.drop9 (st := t) k h.2
theorem QSK.get9 : ∀ {st : List QV} (k : Nat), QSK H ob m st → k < st.length → QAT H ob m (st.length - 1 - k) (st.getD k qNull)
  | [], k, _, h => absurd h (Nat.not_lt_zero _)
  | v :: t, 0, h, _ => h.1
  | v :: t, k + 1, h, hk => by
    have z := QSK.get9 k h.2 (Nat.lt_of_succ_lt_succ hk)
    have e : (v :: t).length - 1 - (k + 1) = t.length - 1 - k := by rw [List.length_cons]; omega
    rw [e]; exact z
theorem QSTO.xr9 (h : QSTO H ob m f n R) (g : QXR m m' lo hi) (hh : hi ≤ 64) : QSTO H ob m' f n R := ⟨QX.vr9 h.1 g (Or.inl hh), g.fls (by omega) h.2⟩
theorem QCS.cons9 (h : QCS H ob m f n top S) (h1 : 1 ≤ top) : ∃ x st, S = (x :: st, S.2) ∧ (st.length : Int) = top - 1 ∧ QAT H ob m (top - 1).toNat x ∧ QSK H ob m st := by
  obtain ⟨a, b, c⟩ := h
  obtain ⟨st, R⟩ := S
  cases st with
  | nil => have a : top = ((0 : Nat) : Int) := a; omega
  | cons x st =>
    have a : top = ((st.length + 1 : Nat) : Int) := a
    have b1 : QAT H ob m st.length x := b.1
    refine ⟨x, st, rfl, by omega, ?_, b.2⟩
    rw [show (top - 1).toNat = st.length by omega]; exact b1
theorem QDR.fail (h : QSTO H ob m f n R) {e : Int} (h0 : fl = e) (h1 : 1 ≤ e) (h2 : e ≤ 11) : QDR H ob m f n top fl R (.inr e) := ⟨h0, h1, h2, h⟩
theorem QDR.ok (h : QCS H ob m f n top S) (h0 : fl = 0) : QDR H ob m f n top fl R (.inl S) := ⟨h0, h⟩
/-- an outcome at the place of the new top -/
theorem QDR.at9 (hs : QSK H ob m st) (hR : QSTO H ob m f n R) (hl : (st.length : Int) = p) (h6 : (p : Int) < 62) (hx : QXR m m' lo hi) (hlo : (p : Int) ≤ lo) (hhi : hi ≤ 64) (ht : top = p + 1) (h0 : match out with | .inl v => fl = 0 ∧ QAT H ob m' p v | .inr e => fl = e ∧ 1 ≤ e ∧ e ≤ 11) : QDR H ob m' f n top fl R (qTop out st R) := by
  cases out with
  | inl v =>
    refine ⟨h0.1, ?_, ⟨?_, hs.xr9 hx (by omega)⟩, hR.xr9 hx hhi⟩
    · show top = ((st.length + 1 : Nat) : Int); omega
    · rw [show st.length = p by omega]; exact h0.2
  | inr e => exact ⟨h0.1, h0.2.1, h0.2.2, hR.xr9 hx hhi⟩
theorem QRES.at9 (g : QRES H ob m m' p fl out) (hs : QSK H ob m st) (hR : QSTO H ob m f n R) (hl : (st.length : Int) = p) (h6 : (p : Int) < 62) (ht : top = p + 1) : QDR H ob m' f n top fl R (qTop out st R) := by
  have r := g.rx (lo := p) (hi := p + 1) (Int.le_refl _) (by omega)
  refine QDR.at9 hs hR hl h6 r.1 (Int.le_refl _) (by omega) ht ?_
  cases out with
  | inl v => exact r.2
  | inr e => exact r.2
theorem QW.push9 (g : QW H ob m m' top.toNat w) (h : QCS H ob m f n top S) (h6 : top < 62) (ht : top2 = top + 1) (h0 : fl = 0) : QDR H ob m' f n top2 fl S.2 (.inl (w :: S.1, S.2)) := by
  have hl := h.1
  have x := g.ex.xr (lo := top) (hi := top + 1) (by omega) (by omega)
  refine ⟨h0, ?_, ⟨?_, h.2.1.xr9 x (by omega)⟩, h.2.2.xr9 x (by omega)⟩
  · show top2 = ((S.1.length + 1 : Nat) : Int); omega
  · rw [show S.1.length = top.toNat by omega]; exact g.at
theorem qDo_load (h : s ≤ 8) : qDo H root s v S = .inl (qLit s v :: S.1, S.2) := by unfold qDo; rw [if_pos h]
theorem qDo_var (h : s = 9) : qDo H root s v S = .inl (qVGet S.2.1 (Int32.ofInt v) :: S.1, S.2) := by unfold qDo; rw [if_neg (by omega), if_pos h]
theorem qDo_root (h : s = 10) : qDo H root s v S = .inl (root :: S.1, S.2) := by unfold qDo; rw [if_neg (by omega), if_neg (by omega), if_pos h]
theorem qDo_one (h : 11 ≤ s) (h15 : ¬ s = 15) (e : S = (x :: st, R)) : qDo H root s v S = qDo1 H s v x st R := by
  subst e
  unfold qDo
  rw [if_neg (by omega), if_neg (by omega), if_neg (by omega), if_neg h15]
theorem qDo1_two (h : s = 40 ∨ (16 ≤ s ∧ s ≤ 26)) : qDo1 H s v x (y :: st) R = qDo2 H s v x y st R := by
  unfold qDo1
  rw [if_neg (by omega), if_neg (by omega), if_neg (by omega), if_neg (by omega), if_neg (by omega), if_neg (by omega), if_neg (by omega)]
-- what each instruction does
theorem QDR.prop (h : QCS H ob m f n top S) (h1 : 1 ≤ top) (h6 : top ≤ 60) (hs : s = 11 ∨ s = 12) (ht : top2 = top) (g : ∀ x : QV, QAT H ob m (top - 1).toNat x → QFL H ob m S.2.2 → QRES H ob m m' (top - 1).toNat fl (qProp H S.2.2 x v (decide (s = 12)))) : QDR H ob m' f n top2 fl S.2 (qDo H root s v S) := by
  obtain ⟨x, st, e, l, a, b⟩ := h.cons9 h1
  rw [qDo_one (by omega) (by omega) e]
  unfold qDo1
  rw [if_pos hs]
  exact (g x a h.2.2.2).at9 b h.2.2 (by omega) (by omega) (by omega)
theorem QDR.need (h : QCS H ob m f n top S) (h1 : 1 ≤ top) (hs : s = 13) (ht : top2 = top) (hf : fl = if (m.1 (top - 1).toNat).toInt = 0 then 4 else 0) : QDR H ob m f n top2 fl S.2 (qDo H root s v S) := by
  obtain ⟨x, st, e, l, a, b⟩ := h.cons9 h1
  rw [qDo_one (by omega) (by omega) e]
  unfold qDo1
  rw [if_neg (by omega), if_pos hs]
  have k := a.kd
  by_cases c : x.1 = 0
  · rw [if_pos c]; exact QDR.fail h.2.2 (by rw [hf, if_pos (by omega)]) (by decide) (by decide)
  · rw [if_neg c]
    rw [← e]
    exact QDR.ok (ht ▸ h) (by rw [hf, if_neg (by omega)])
theorem QDR.bool (h : QCS H ob m f n top S) (h1 : 1 ≤ top) (hs : s = 34) (ht : top2 = top) (hf : fl = if (m.1 (top - 1).toNat).toInt = 1 then 0 else 1) : QDR H ob m f n top2 fl S.2 (qDo H root s v S) := by
  obtain ⟨x, st, e, l, a, b⟩ := h.cons9 h1
  rw [qDo_one (by omega) (by omega) e]
  unfold qDo1
  rw [if_neg (by omega), if_neg (by omega), if_neg (by omega), if_neg (by omega), if_pos hs]
  have k := a.kd
  by_cases c : x.1 = 1
  · rw [if_pos c, ← e]
    exact QDR.ok (ht ▸ h) (by rw [hf, if_pos (by omega)])
  · rw [if_neg c]; exact QDR.fail h.2.2 (by rw [hf, if_neg (by omega)]) (by decide) (by decide)
theorem QDR.aim (h : QCS H ob m f n top S) (h1 : 1 ≤ top) (hs : s = 39) (ht : top2 = top) (g : ∀ x : QV, QAT H ob m (top - 1).toNat x → fl = if x.1 = 0 then 4 else if qFld H x v = none then 5 else 0) : QDR H ob m f n top2 fl S.2 (qDo H root s v S) := by
  obtain ⟨x, st, e, l, a, b⟩ := h.cons9 h1
  rw [qDo_one (by omega) (by omega) e]
  unfold qDo1
  rw [if_neg (by omega), if_neg (by omega), if_neg (by omega), if_neg (by omega), if_neg (by omega), if_neg (by omega), if_pos hs]
  have g := g x a
  by_cases c : x.1 = 0
  · rw [if_pos c] at g ⊢; exact QDR.fail h.2.2 g (by decide) (by decide)
  · rw [if_neg c] at g ⊢
    by_cases d : qFld H x v = none
    · rw [if_pos d] at g ⊢; exact QDR.fail h.2.2 g (by decide) (by decide)
    · rw [if_neg d] at g ⊢; rw [← e]; exact QDR.ok (ht ▸ h) g
theorem QDR.unary (h : QCS H ob m f n top S) (h1 : 1 ≤ top) (h6 : top ≤ 60) (hs : s = 30 ∨ s = 31) (ht : top2 = top) (g : ∀ x : QV, QAT H ob m (top - 1).toNat x → QRES H ob m m' (top - 1).toNat fl (if s = 31 then qNot x else qNeg x)) : QDR H ob m' f n top2 fl S.2 (qDo H root s v S) := by
  obtain ⟨x, st, e, l, a, b⟩ := h.cons9 h1
  rw [qDo_one (by omega) (by omega) e]
  have g := g x a
  unfold qDo1
  rw [if_neg (by omega), if_neg (by omega)]
  by_cases c : s = 31
  · rw [if_pos c] at g; rw [if_neg (by omega), if_pos c]; exact g.at9 b h.2.2 (by omega) (by omega) (by omega)
  · rw [if_neg c] at g; rw [if_pos (by omega)]; exact g.at9 b h.2.2 (by omega) (by omega) (by omega)
theorem QDR.two (h : QCS H ob m f n top S) (h1 : 2 ≤ top) (h6 : top ≤ 60) (hs : 16 ≤ s ∧ s ≤ 26) (ht : top2 = top - 1) (g : ∀ x y : QV, QAT H ob m (top - 1).toNat x → QAT H ob m (top - 2).toNat y → QRES H ob m m' (top - 2).toNat fl (if s ≤ 20 then qReck y x s else qComp y x s)) : QDR H ob m' f n top2 fl S.2 (qDo H root s v S) := by
  obtain ⟨x, st, e, l, a, b⟩ := h.cons9 (by omega)
  rw [qDo_one (by omega) (by omega) e]
  cases st with
  | nil => have l : ((0 : Nat) : Int) = top - 1 := l; omega
  | cons y st =>
    have l : ((st.length + 1 : Nat) : Int) = top - 1 := l
    have b1 : QAT H ob m st.length y := b.1
    rw [show st.length = (top - 2).toNat by omega] at b1
    have g := g x y a b1
    rw [qDo1_two (Or.inr hs)]
    unfold qDo2
    rw [if_neg (by omega)]
    by_cases c : s ≤ 20
    · rw [if_pos c] at g ⊢; exact g.at9 b.2 h.2.2 (by omega) (by omega) (by omega)
    · rw [if_neg c] at g ⊢; exact g.at9 b.2 h.2.2 (by omega) (by omega) (by omega)
theorem QSK.args9 : ∀ (k : Nat) {st : List QV}, QSK H ob m st → k ≤ st.length → QAG H ob m (st.length - k) (st.take k).reverse
  | 0, _, _, _ => fun j hj => absurd hj (Nat.not_lt_zero _)
  | k + 1, [], _, h => absurd h (Nat.not_succ_le_zero _)
  | k + 1, v :: t, hs, h => fun j hj => by
    have h : k ≤ t.length := Nat.le_of_succ_le_succ h
    have e : (List.take (k + 1) (v :: t)).reverse = (t.take k).reverse ++ [v] := by rw [List.take_succ_cons, List.reverse_cons]
    have ln : (t.take k).reverse.length = k := by rw [List.length_reverse, List.length_take]; omega
    rw [e] at hj ⊢
    have hj : j < k + 1 := by rw [List.length_append, ln] at hj; exact hj
    rw [show (v :: t).length - (k + 1) = t.length - k by rw [List.length_cons]; omega]
    by_cases c : j = k
    · rw [q_gr (by omega), ln, c, Nat.sub_self, show t.length - k + k = t.length by omega]; exact hs.1
    · rw [q_gl (by omega)]
      exact QSK.args9 k hs.2 h j (by omega)
theorem QDR.call (h : QCS H ob m f n top S) (h0 : 0 ≤ v) (hv : v % 4 ≤ 2) (h1 : 1 + v % 4 ≤ top) (h6 : top ≤ 60) (hs : s = 15) (ht : top2 = top - v % 4) (g : ∀ (o : QV) (as : List QV), QAT H ob m (top - v % 4 - 1).toNat o → QAG H ob m (top - v % 4).toNat as → (as.length : Int) = v % 4 → as.length ≤ 2 → QFL H ob m S.2.2 → QRX H ob m m' (top - v % 4 - 1) (top - v % 4 + 2) (top - v % 4 - 1).toNat fl (qCall H S.2.2 o (v / 4) as)) : QDR H ob m' f n top2 fl S.2 (qDo H root s v S) := by
  unfold qDo
  have hl := h.1
  rw [if_neg (by omega), if_neg (by omega), if_neg (by omega), if_pos hs, if_neg (by omega)]
  have a := h.2.1.get9 (v % 4).toNat (by omega)
  have b := h.2.1.args9 (v % 4).toNat (by omega)
  rw [show S.1.length - 1 - (v % 4).toNat = (top - v % 4 - 1).toNat by omega] at a
  rw [show S.1.length - (v % 4).toNat = (top - v % 4).toNat by omega] at b
  have ln : (S.1.take (v % 4).toNat).reverse.length = (v % 4).toNat := by rw [List.length_reverse, List.length_take]; omega
  have g := g _ _ a b (by rw [ln]; omega) (by rw [ln]; omega) h.2.2.2
  refine QDR.at9 (p := (top - v % 4 - 1).toNat) (h.2.1.drop9 _) h.2.2 (by rw [List.length_drop]; omega) (by omega) g.1 (by omega) (by omega) (by omega) ?_
  have g2 := g.2
  generalize qCall H S.2.2 (S.1.getD (v % 4).toNat qNull) (v / 4) (S.1.take (v % 4).toNat).reverse = out at g2 ⊢
  cases out with
  | inl v => exact g2
  | inr e => exact g2
end QMA
