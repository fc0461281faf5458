/-! ===== what a program means: values, and what is done to them ===== -/
/-- a value: kind, number, characters, bits of a double -/
abbrev QV : Type := Int × Int × List Int × UInt64
/-- an outcome: a value, or a failure -/
abbrev QO : Type := QV ⊕ Int
/-- the tables: 0 parent 1 fields 2 their names 3 their types 4 methods 5 their names 6 one 7 two 8 action 9 number 10 converters 11 the objects' classes -/
abbrev QT : Type := Nat → Nat → Int
def qNull : QV := (0, 0, [], 0)
def qBool (b : Bool) : QV := (1, (if b then 1 else 0), [], 0)
def qInt (n : Int32) : QV := (2, n.toInt, [], 0)
def qReal (r : UInt64) : QV := (3, 0, [], r)
def qText (s : List Int) : QV := (4, 0, s, 0)
def qObj (H : QT) (o : Nat) : QV := (8 + H 11 o, (o : Int), [], 0)
/-- what values there are -/
def QOK (H : QT) (ob : Int) (v : QV) : Prop := v = qNull ∨ (∃ b, v = qBool b) ∨ (∃ n, v = qInt n) ∨ (∃ r, FN r ∧ v = qReal r) ∨ (∃ s : List Int, s.length ≤ 16 ∧ (∀ c ∈ s, 0 ≤ c ∧ c < 128) ∧ v = qText s) ∨ (∃ o : Nat, ((o : Int) < ob ∧ o < 30) ∧ 0 ≤ H 11 o ∧ H 11 o < 5 ∧ v = qObj H o)
-- ---- the classes above a class
def qAncF (H : QT) : Nat → Int → List Nat
  | 0, _ => []
  | f + 1, c => if c < 0 then [] else c.toNat :: qAncF H f (H 0 c.toNat)
def qAnc (H : QT) (c : Int) : List Nat := qAncF H 6 c
def QPA (H : QT) (n : Int) : Prop := ∀ c : Nat, (c : Int) < n → -1 ≤ H 0 c ∧ H 0 c < c
theorem qAncF_eq {H : QT} {n : Int} (h : QPA H n) : ∀ (f g : Nat) (c : Int), c < n → c < f → c < g → qAncF H f c = qAncF H g c
  | 0, 0, c, _, _, _ => rfl
  | 0, g + 1, c, _, hf, _ => by
    show [] = if c < 0 then [] else _
    rw [if_pos (by omega)]
  | f + 1, 0, c, _, _, hg => by
    show (if c < 0 then [] else _) = []
    rw [if_pos (by omega)]
  | f + 1, g + 1, c, hn, hf, hg => by
    show (if c < 0 then [] else c.toNat :: qAncF H f (H 0 c.toNat)) = if c < 0 then [] else c.toNat :: qAncF H g (H 0 c.toNat)
    by_cases q : c < 0
    · rw [if_pos q, if_pos q]
    · have z := h c.toNat (by omega)
      rw [if_neg q, if_neg q, qAncF_eq h f g (H 0 c.toNat) (by omega) (by omega) (by omega)]
theorem qAnc_neg {H : QT} {c : Int} (h : c < 0) : qAnc H c = [] := by
  show (if c < 0 then [] else _) = []
  rw [if_pos h]
theorem qAnc_cons {H : QT} {c n : Int} (h : QPA H n) (h0 : 0 ≤ c) (hn : c < n) (h5 : n ≤ 5) : qAnc H c = c.toNat :: qAnc H (H 0 c.toNat) := by
  have z := h c.toNat (by omega)
  show (if c < 0 then [] else c.toNat :: qAncF H 5 (H 0 c.toNat)) = _
  rw [if_neg (by omega), qAncF_eq h 5 6 (H 0 c.toNat) (by omega) (by omega) (by omega)]; rfl
/-- how many steps up to a class; -1: it isn't there -/
def qSteps : List Nat → Int → Int
  | [], _ => -1
  | x :: t, u => if (x : Int) = u then 0 else if qSteps t u < 0 then -1 else qSteps t u + 1
theorem qSteps_b : ∀ (l : List Nat) (u : Int), -1 ≤ qSteps l u
  | [], u => by show (-1 : Int) ≤ -1; omega
  | x :: t, u => by
    have := qSteps_b t u
    show -1 ≤ if (x : Int) = u then 0 else if qSteps t u < 0 then -1 else qSteps t u + 1
    (repeat' split) <;> omega
/-- the first that keeps p -/
def qFst (p : Nat → Bool) : Nat → Option Nat
  | 0 => none
  | n + 1 => match qFst p n with
    | some k => some k
    | none => if p n then some n else none
theorem qFst_none {p : Nat → Bool} : ∀ n : Nat, (∀ j : Nat, j < n → p j = false) → qFst p n = none
  | 0, _ => rfl
  | n + 1, h => by
    show (match qFst p n with | some k => some k | none => if p n then some n else none) = none
    rw [qFst_none n (fun j hj => h j (by omega))]
    show (if p n then some n else none) = none
    rw [h n (by omega)]; rfl
theorem qFst_some {p : Nat → Bool} {k : Nat} (hk : p k = true) (hl : ∀ j : Nat, j < k → p j = false) : ∀ n : Nat, k < n → qFst p n = some k
  | 0, h => absurd h (Nat.not_lt_zero _)
  | n + 1, h => by
    show (match qFst p n with | some k => some k | none => if p n then some n else none) = some k
    by_cases e : k = n
    · subst e
      rw [qFst_none k hl]
      show (if p k then some k else none) = some k
      rw [hk]; rfl
    · rw [qFst_some hk hl n (by omega)]
/-- a class's own field of that name -/
def qOwn (H : QT) (c : Nat) (n : Int) : Option Nat := qFst (fun k => decide (H 2 (6 * c + k) = n)) (H 1 c).toNat
def qFldL (H : QT) : List Nat → Int → Option Nat
  | [], _ => none
  | c :: t, n => match qOwn H c n with
    | some k => some (6 * c + k)
    | none => qFldL H t n
/-- the nearest field of that name: its slot -/
def qFld (H : QT) (v : QV) (n : Int) : Option Nat := if v.1 < 8 then none else qFldL H (qAnc H (v.1 - 8)) n
-- ---- numbers
def qNum (v : QV) : Bool := decide (v.1 = 2 ∨ v.1 = 3)
def qRe (v : QV) : UInt64 := if v.1 = 3 then v.2.2.2 else FP.i2d (Int32.ofInt v.2.1)
def qIn (v : QV) : Int32 := if v.1 = 3 then FP.d2i v.2.2.2 else Int32.ofInt v.2.1
def qEq (x y : UInt64) : Bool := decide ((Op.cmpValue (FP.dcmp x y) .l).toInt = 0)
def qLt (x y : UInt64) : Bool := decide ((Op.cmpValue (FP.dcmp x y) .g).toInt < 0)
def qLe (x y : UInt64) : Bool := decide ((Op.cmpValue (FP.dcmp x y) .g).toInt ≤ 0)
def qGt (x y : UInt64) : Bool := decide (0 < (Op.cmpValue (FP.dcmp x y) .l).toInt)
def qGe (x y : UInt64) : Bool := decide (0 ≤ (Op.cmpValue (FP.dcmp x y) .l).toInt)
-- ---- texts
/-- the digits of a number -/
def qDgF : Nat → Nat → List Int
  | 0, _ => []
  | f + 1, n => if n < 10 then [48 + (n : Int)] else qDgF f (n / 10) ++ [48 + ((n % 10 : Nat) : Int)]
def qDg (n : Nat) : List Int := qDgF 20 n
def qDec (v : Int) : List Int := (if v < 0 then [45] else []) ++ qDg v.natAbs
def qSpl (v : QV) : List Int :=
  if v.1 = 4 then v.2.2.1 else if v.1 = 2 then qDec v.2.1 else if v.1 = 3 then qDec (FP.d2i v.2.2.2).toInt
  else if v.1 = 1 then (if v.2.1 = 1 then [116, 114, 117, 101] else [102, 97, 108, 115, 101])
  else if v.1 = 0 then [110, 117, 108, 108] else 111 :: qDec v.2.1
/-- what a row of digits says -/
def qVal (s : List Int) : Int := s.foldl (fun a c => 10 * a + (c - 48)) 0
def qDigs (s : List Int) : Bool := s.all (fun c => decide (48 ≤ c ∧ c ≤ 57))
def qToI (s : List Int) : Option Int :=
  if s.head? = some 45 then (if 1 ≤ s.tail.length ∧ s.tail.length ≤ 9 ∧ qDigs s.tail = true then some (-qVal s.tail) else none)
  else (if 1 ≤ s.length ∧ s.length ≤ 9 ∧ qDigs s = true then some (qVal s) else none)
-- ---- conversions
def qFits (H : QT) (v : QV) (t : Int) : Bool := decide (t = 5 ∨ v.1 = t ∨ (v.1 = 0 ∧ (t = 4 ∨ 8 ≤ t)) ∨ (8 ≤ v.1 ∧ 8 ≤ t ∧ 0 < qSteps (qAnc H (v.1 - 8)) (t - 8)))
def qThere (H : QT) (i t : Int) : Bool := decide (¬ H 10 (5 * i + t).toNat = 0)
def qReach (H : QT) (v : QV) (t : Int) : Bool := decide (t ≤ 4) && (qThere H 5 t || (if 8 ≤ v.1 then (qAnc H (v.1 - 8)).any (fun c => qThere H (8 + c) t) else decide (¬ v.1 = 0) && qThere H v.1 t))
def qCvI (v : QV) : Option Int := if v.1 = 4 then qToI v.2.2.1 else some (qIn v).toInt
def qCvB (v : QV) : QO :=
  if v.1 = 4 then (if v.2.2.1 = [116, 114, 117, 101] then .inl (qBool true) else if v.2.2.1 = [102, 97, 108, 115, 101] then .inl (qBool false) else .inr 10)
  else .inl (qBool (if v.1 = 3 then !(qEq v.2.2.2 FP.dconst0) else decide (8 ≤ v.1 ∨ ¬ v.2.1 = 0)))
def qConv (v : QV) (t : Int) : QO :=
  if t = 4 then .inl (qText (qSpl v)) else if t = 1 then qCvB v
  else if t = 2 then (match qCvI v with | some n => .inl (qInt (Int32.ofInt n)) | none => .inr 10)
  else if v.1 = 3 then .inl v else (match qCvI v with | some n => .inl (qReal (FP.i2d (Int32.ofInt n))) | none => .inr 10)
def qFit (H : QT) (v : QV) (t : Int) : QO := if qFits H v t then .inl v else if qReach H v t then qConv v t else .inr 6
-- ---- signs
def qJoins (v : QV) : Bool := decide (v.1 = 4 ∨ v.1 = 2 ∨ v.1 = 1 ∨ v.1 = 0)
def qInts (x y : Int32) (s : Int) : QO :=
  if 19 ≤ s ∧ y = 0 then .inr 2
  else .inl (qInt (if s = 16 then x + y else if s = 17 then x - y else if s = 18 then x * y else if s = 19 then x / y else x - x / y * y))
def qOp (x y : UInt64) (s : Int) : UInt64 := if s = 16 then FP.dadd x y else if s = 17 then FP.dsub x y else if s = 18 then FP.dmul x y else FP.ddiv x y
def qReals (x y : UInt64) (s : Int) : QO :=
  if s = 19 ∧ qEq y FP.dconst0 = true then .inr 2
  else if qGt (qOp x y s) 4786511204640096256 || qLt (qOp x y s) 14009883241494872064 then .inr 3 else .inl (qReal (qOp x y s))
def qReck (v w : QV) (s : Int) : QO :=
  if s = 16 ∧ qJoins v = true ∧ qJoins w = true ∧ (v.1 = 4 ∨ w.1 = 4) then (if (qSpl v ++ qSpl w).length ≤ 16 then .inl (qText (qSpl v ++ qSpl w)) else .inr 9)
  else if qNum v = false ∨ qNum w = false ∨ (s = 20 ∧ (v.1 = 3 ∨ w.1 = 3)) then .inr 1
  else if v.1 = 3 ∨ w.1 = 3 then qReals (qRe v) (qRe w) s else qInts (Int32.ofInt v.2.1) (Int32.ofInt w.2.1) s
def qSame (v w : QV) : Bool := if qNum v && qNum w then qEq (qRe v) (qRe w) else decide (v.1 = w.1 ∧ v.2.1 = w.2.1 ∧ v.2.2.1 = w.2.2.1)
def qComp (v w : QV) (s : Int) : QO :=
  if 25 ≤ s then .inl (qBool (qSame v w == decide (s = 25)))
  else if qNum v = false ∨ qNum w = false then .inr 1
  else .inl (qBool (if s = 21 then qLt (qRe v) (qRe w) else if s = 22 then qGt (qRe v) (qRe w) else if s = 23 then qLe (qRe v) (qRe w) else qGe (qRe v) (qRe w)))
def qNeg (v : QV) : QO := if v.1 = 2 then .inl (qInt (-Int32.ofInt v.2.1)) else if v.1 = 3 then .inl (qReal (FP.dneg v.2.2.2)) else .inr 1
def qNot (v : QV) : QO := if v.1 = 1 then .inl (qBool (decide (v.2.1 = 0))) else .inr 1
def qProp (H : QT) (fl : Nat → Nat → QV) (v : QV) (n : Int) (soft : Bool) : QO :=
  if v.1 = 0 then (if soft then .inl v else .inr 4)
  else if v.1 = 4 ∧ n = 8897 then .inl (qInt (Int32.ofNat v.2.2.1.length))
  else match qFld H v n with
    | some f => .inl (fl v.2.1.toNat f)
    | none => .inr 5
-- ---- which method a call means
def qCnt (x y : Int) : Int := if x = 0 then 0 else if y = 0 then 1 else 2
/-- the methods in their order: the nearest class first -/
def qMeth (H : QT) (l : List Nat) : List Nat := l.flatMap (fun c => List.range' (6 * c) (H 4 c).toNat)
/-- a method like m stands among them -/
def qHid (H : QT) (n : Int) (m : Nat) (p : List Nat) : Bool := p.any (fun j => decide (H 5 j = n ∧ H 6 j = H 6 m ∧ H 7 j = H 7 m))
def qLike (H : QT) (n k : Int) (m : Nat) : Bool := decide (H 5 m = n ∧ qCnt (H 6 m) (H 7 m) = k)
/-- the candidates: hidden ones left out -/
def qCands (H : QT) (n k : Int) : List Nat → List Nat → List Nat
  | _, [] => []
  | seen, m :: t => if qLike H n k m && !(qHid H n m seen) then m :: qCands H n k (seen ++ [m]) t else qCands H n k (seen ++ [m]) t
def qWei (H : QT) (v : QV) (t : Int) : Int := if v.1 = t ∨ v.1 = 0 then 0 else if t = 5 then 16 else 2 * qSteps (qAnc H (v.1 - 8)) (t - 8)
/-- how the arguments suit a method: -1 exactly, closely by their weight, 1000 by converters, 2000 not -/
def qSuit (H : QT) (m : Nat) (as : List QV) : Int :=
  let ts := [H 6 m, H 7 m]
  let zs := as.zip ts
  if zs.all (fun z => decide (z.1.1 = z.2)) then -1
  else if zs.all (fun z => qFits H z.1 z.2) then (zs.map (fun z => qWei H z.1 z.2)).foldl (· + ·) 0
  else if zs.all (fun z => qFits H z.1 z.2 || qReach H z.1 z.2) then 1000 else 2000
/-- best, its suit, how many by converters -/
def qBest (H : QT) (as : List QV) : List Nat → Int × Int × Int → Int × Int × Int
  | [], b => b
  | m :: t, b => qBest H as t (if qSuit H m as < b.2.1 then ((m : Int), qSuit H m as, b.2.2 + if qSuit H m as = 1000 then 1 else 0) else (b.1, b.2.1, b.2.2 + if qSuit H m as = 1000 then 1 else 0))
def qFind (H : QT) (c n : Int) (as : List QV) : Nat ⊕ Int :=
  let b := qBest H as (qCands H n as.length [] (qMeth H (qAnc H c))) (-1, 2000, 0)
  if b.2.1 = 2000 then .inr 8 else if b.2.1 = 1000 ∧ 1 < b.2.2 then .inr 7 else .inl b.1.toNat
def qFitL (H : QT) : List QV → List Int → List QV ⊕ Int
  | v :: vs, t :: ts => match qFit H v t with
    | .inr f => .inr f
    | .inl w => (match qFitL H vs ts with | .inr f => .inr f | .inl ws => .inl (w :: ws))
  | _, _ => .inl []
def qAct (H : QT) (fl : Nat → Nat → QV) (m : Nat) (o : QV) (as : List QV) : QO :=
  if H 8 m = 0 then .inl (qInt (Int32.ofInt (H 9 m)))
  else if H 8 m = 1 ∨ H 8 m = 2 then .inl (as.getD (H 8 m - 1).toNat qNull)
  else if H 8 m = 3 then (if as.length < 2 then .inr 1 else qReck (as.getD 0 qNull) (as.getD 1 qNull) 16)
  else if H 8 m = 5 then (match qFld H o (H 9 m) with | some f => .inl (fl o.2.1.toNat f) | none => .inr 5)
  else .inl o
def qCall (H : QT) (fl : Nat → Nat → QV) (o : QV) (n : Int) (as : List QV) : QO :=
  if o.1 < 8 then .inr 5
  else match qFind H (o.1 - 8) n as with
    | .inr f => .inr f
    | .inl m => (match qFitL H as [H 6 m, H 7 m] with | .inr f => .inr f | .inl ws => qAct H fl m o ws)
