/-! ===== the class: how much a heap holds; counters made tight ===== -/
def SLT (H : Heap) : Nat := H.foldl (fun n c => n + c.slots.size) 0
section TI
variable {p : Program} {l : Launch} {e : Env} {R : Room} {s : State} {m : MethodId} {args : Array Value} {below : List Frame} {meth : Method} {c : Code} {H : Heap} {locs : List Loc} {cells slots : Nat} {Q : State → Prop} {g : JFrame}
theorem used_SLT {T : State} (h : T.slotsTrue = true) : T.slotsUsed = SLT T.heap := by
  have h1 : (T.slotsUsed == T.heap.foldl (fun n c => n + c.slots.size) 0) = true := h
  exact eq_of_beq h1
theorem stand_SLT {T : State} (X : Stand p l e R s m args below meth c T locs cells slots) : SLT T.heap = SLT s.heap + ((T.heap.toList.drop s.heap.size).map (·.slots.size)).sum := by
  have h4 : T.slotsUsed = s.slotsUsed + ((T.heap.toList.drop s.heap.size).map (·.slots.size)).sum := X.same.2.2.2.1
  have h0 : s.slotsTrue = true := by
    have h := X.room
    simp only [State.hasRoom, Bool.and_eq_true] at h
    exact h.2
  rw [← used_SLT X.book, ← used_SLT h0]; exact h4
/-- what the counters say of the heap -/
theorem W.know (h : H.size ≤ s.heap.size + cells → SLT H ≤ SLT s.heap + slots → W p l e R s m args below meth c H locs cells slots Q g) : W p l e R s m args below meth c H locs cells slots Q g := fun T hT X => by
  subst hT
  refine h X.heapSize ?_ T rfl X
  have h5 : ((T.heap.toList.drop s.heap.size).map (·.slots.size)).sum ≤ slots := X.same.2.2.2.2.1
  rw [stand_SLT X]
  exact Nat.add_le_add_left h5 _
/-- the counters by what the heap holds -/
theorem W.tight {k n : Nat} (h1 : H.size ≤ s.heap.size + k) (h2 : SLT H ≤ SLT s.heap + n) (kk : W p l e R s m args below meth c H locs k n Q g) : W p l e R s m args below meth c H locs cells slots Q g := fun T hT X => by
  subst hT
  refine kk T rfl { X with same := ?_ }
  obtain ⟨a1, a2, a3, a4, a5, a6⟩ := X.same
  refine ⟨a1, a2, h1, a4, ?_, a6⟩
  have := stand_SLT X
  show ((T.heap.toList.drop s.heap.size).map (·.slots.size)).sum ≤ n
  omega
end TI
/-! ===== the class's state: a pool of objects, by tags and fields; one object of each other class ===== -/
abbrev PL : Type := (Nat → Nat) × (Nat → Nat → Int32) × (Nat → Nat → Option Nat) × (Nat → UInt64) × (Nat → Nat → Option Nat) × (Nat → Nat → Int32) × (Nat → Nat) × (Nat → Nat)
abbrev oT (P : PL) : Nat → Nat := P.1
abbrev oI (P : PL) : Nat → Nat → Int32 := P.2.1
abbrev oR (P : PL) : Nat → Nat → Option Nat := P.2.2.1
abbrev oD (P : PL) : Nat → UInt64 := P.2.2.2.1
abbrev oA (P : PL) : Nat → Nat → Option Nat := P.2.2.2.2.1
abbrev oB (P : PL) : Nat → Nat → Int32 := P.2.2.2.2.2.1
abbrev oL (P : PL) : Nat → Nat := P.2.2.2.2.2.2.1
abbrev oC (P : PL) : Nat → Nat := P.2.2.2.2.2.2.2
def sT (P : PL) (a t : Nat) : PL := (va_up P.1 a t, P.2)
def sI (P : PL) (k a : Nat) (v : Int32) : PL := (P.1, va_up P.2.1 k (upd (P.2.1 k) a v), P.2.2)
def sR (P : PL) (k a : Nat) (v : Option Nat) : PL := (P.1, P.2.1, va_up P.2.2.1 k (va_up (P.2.2.1 k) a v), P.2.2.2)
def sD (P : PL) (a : Nat) (v : UInt64) : PL := (P.1, P.2.1, P.2.2.1, vf_upd P.2.2.2.1 a v, P.2.2.2.2)
def sA (P : PL) (a : Nat) (f : Nat → Option Nat) : PL := (P.1, P.2.1, P.2.2.1, P.2.2.2.1, va_up P.2.2.2.2.1 a f, P.2.2.2.2.2)
def sB (P : PL) (a : Nat) (f : Nat → Int32) : PL := (P.1, P.2.1, P.2.2.1, P.2.2.2.1, P.2.2.2.2.1, va_up P.2.2.2.2.2.1 a f, P.2.2.2.2.2.2)
def sL (P : PL) (a n : Nat) : PL := (P.1, P.2.1, P.2.2.1, P.2.2.2.1, P.2.2.2.2.1, P.2.2.2.2.2.1, va_up P.2.2.2.2.2.2.1 a n, P.2.2.2.2.2.2.2)
def sC (P : PL) (a n : Nat) : PL := (P.1, P.2.1, P.2.2.1, P.2.2.2.1, P.2.2.2.2.1, P.2.2.2.2.2.1, P.2.2.2.2.2.2.1, va_up P.2.2.2.2.2.2.2 a n)
theorem vu_eq {α : Type} {f : Nat → α} {k : Nat} {v : α} : va_up f k v k = v := by simp [va_up]
theorem vu_ne {α : Type} {f : Nat → α} {k j : Nat} {v : α} (h : ¬ j = k) : va_up f k v j = f j := by simp [va_up, h]
/-- an object's cell, by its tag -/
def cofT (cy : Nat → ClassId) (P : PL) (a : Nat) : Nat → va_E
  | 1 => .inr (12, [.int (oI P 0 a), .int (oI P 1 a), .double (oD P a), va_rf (oR P 0 a), va_rf (oR P 1 a)])
  | 2 => .inr (7, [.int (oI P 2 a), .int (oI P 3 a), va_rf (oR P 2 a), va_rf (oR P 3 a), va_rf (oR P 4 a), va_rf (oR P 5 a), .int (oI P 4 a), .int (oI P 5 a)])
  | 3 => .inr (3, [.int (oI P 6 a), .int (oI P 7 a), va_rf (oR P 6 a), va_rf (oR P 7 a), .int (oI P 8 a), va_rf (oR P 8 a), .int (oI P 9 a)])
  | 4 => .inr (4, [.int (oI P 10 a), .int (oI P 11 a), .int (oI P 12 a)])
  | 5 => .inr (9, [.int (oI P 13 a), .int (oI P 14 a), .int (oI P 15 a), .int (oI P 16 a), .int (oI P 17 a), .int (oI P 18 a)])
  | 6 => .inr (11, [.int (oI P 19 a), va_rf (oR P 9 a), va_rf (oR P 10 a)])
  | 7 => .inr (0, [va_rf (oR P 11 a), .int (oI P 20 a), .int (oI P 21 a), .int (oI P 22 a)])
  | 9 => .inl (cy 6, 30, .inr (.inr (.inr (.inr (oA P a)))))
  | 10 => .inl (cy 10, 6, .inr (.inr (.inr (.inr (oA P a)))))
  | 11 => .inl (cy 9, 6, .inr (.inr (.inr (.inr (oA P a)))))
  | 12 => .inr (1, [va_rf (oR P 12 a), .int (oI P 23 a), .int (oI P 24 a), .int (oI P 25 a)])
  | _ => .inl (cy 5, oL P a, .inl (oB P a))
def cof (cy : Nat → ClassId) (P : PL) (a : Nat) : va_E := cofT cy P a (oT P a % 20)
theorem cof_of {cy : Nat → ClassId} {P : PL} {a t : Nat} (h : oT P a % 20 = t) : cof cy P a = cofT cy P a t := by unfold cof; rw [h]
def LIVE (t : Nat) : Prop := ¬ t = 0
abbrev KS : Type := (Nat → Int32) × (Nat → Option Nat) × (Nat → Nat → Int32) × (Nat → Nat → Option Nat) × PL
def tI (κ : KS) (k : Nat) (v : Int32) : KS := (upd κ.1 k v, κ.2)
def tR (κ : KS) (k : Nat) (v : Option Nat) : KS := (κ.1, va_up κ.2.1 k v, κ.2.2)
def tA (κ : KS) (k : Nat) (f : Nat → Int32) : KS := (κ.1, κ.2.1, va_up κ.2.2.1 k f, κ.2.2.2)
def tQ (κ : KS) (k : Nat) (f : Nat → Option Nat) : KS := (κ.1, κ.2.1, κ.2.2.1, va_up κ.2.2.2.1 k f, κ.2.2.2.2)
def tP (κ : KS) (P : PL) : KS := (κ.1, κ.2.1, κ.2.2.1, κ.2.2.2.1, P)
def MWc (cy : Nat → ClassId) (ad : Nat → Nat) (κ : KS) : va_W := [
  (ad 0, .inr (13, [.ref (ad 1), .ref (ad 3), .ref (ad 6), .int (κ.1 0), .ref (ad 7), .int (κ.1 1), .ref (ad 8), .int (κ.1 2), va_rf (κ.2.1 0)])),
  (ad 1, .inr (8, [.ref (ad 2), .int (κ.1 3), .int (κ.1 4), .int (κ.1 5)])),
  (ad 2, .inr (6, [.ref (ad 9), .int (κ.1 6), .ref (ad 10), .ref (ad 11), .ref (ad 12), .ref (ad 13), .int (κ.1 7), .ref (ad 18)])),
  (ad 3, .inr (10, [.ref (ad 20), .ref (ad 4), .ref (ad 5), .ref (ad 16), .ref (ad 17), .int (κ.1 8), va_rf (κ.2.1 1), .int (κ.1 9)])),
  (ad 4, .inr (2, [.ref (ad 14), .ref (ad 19)])),
  (ad 5, .inr (5, [.ref (ad 15), .int (κ.1 10), .int (κ.1 11)])),
  (ad 6, .inl (cy 7, 40, .inr (.inr (.inr (.inr (κ.2.2.2.1 6)))))),
  (ad 7, .inl (cy 8, 5, .inr (.inr (.inr (.inr (κ.2.2.2.1 7)))))),
  (ad 8, .inl (cy 6, 30, .inr (.inr (.inr (.inr (κ.2.2.2.1 8)))))),
  (ad 9, .inl (cy 4, 40, .inl (κ.2.2.1 9))),
  (ad 10, .inl (cy 0, 41, .inl (κ.2.2.1 10))),
  (ad 11, .inl (cy 0, 41, .inl (κ.2.2.1 11))),
  (ad 12, .inl (cy 0, 41, .inl (κ.2.2.1 12))),
  (ad 13, .inl (cy 6, 41, .inr (.inr (.inr (.inr (κ.2.2.2.1 13)))))),
  (ad 14, .inl (cy 2, 65, .inl (κ.2.2.1 14))),
  (ad 15, .inl (cy 9, 30, .inr (.inr (.inr (.inr (κ.2.2.2.1 15)))))),
  (ad 16, .inl (cy 0, 12, .inl (κ.2.2.1 16))),
  (ad 17, .inl (cy 6, 12, .inr (.inr (.inr (.inr (κ.2.2.2.1 17))))))]
def WLc (cy : Nat → ClassId) (ad : Nat → Nat) (κ : KS) (L : List Nat) : va_W := MWc cy ad κ ++ va_pl L (cof cy κ.2.2.2.2)
/-- the class's world: what lies in the heap, apart, all of it in A -/
def CH (D : va_G) (cy : Nat → ClassId) (ad : Nat → Nat) (A : Nat → Prop) (κ : KS) (H : Heap) : Prop := ∃ L : List Nat, va_P D vwCl (WLc cy ad κ L) H ∧ va_D A (WLc cy ad κ L) ∧ ∀ a, a ∈ L ↔ ¬ oT κ.2.2.2.2 a = 0
section CHS
variable {D : va_G} {cy : Nat → ClassId} {ad : Nat → Nat} {A : Nat → Prop} {κ κ' : KS} {H H1 : Heap} {L : List Nat}
theorem WL_at {a t k : Nat} (hk : (WLc cy ad κ L)[k]? = some (a, cof cy κ.2.2.2.2 a)) (ht : oT κ.2.2.2.2 a % 20 = t) : (WLc cy ad κ L)[k]? = some (a, cofT cy κ.2.2.2.2 a t) := by
  rw [hk, cof_of ht]
theorem WL_in {a : Nat} (h : a ∈ L) : ∃ k : Nat, (WLc cy ad κ L)[k]? = some (a, cof cy κ.2.2.2.2 a) := va_pl_get h
theorem WL_s {k : Nat} {q : Nat × va_E} (hk : (MWc cy ad κ)[k]? = some q) : (WLc cy ad κ L)[k]? = some q := by
  unfold WLc
  rw [List.getElem?_append_left (List.getElem?_eq_some_iff.mp hk).1]; exact hk
theorem MWc_len : (MWc cy ad κ).length = 18 := rfl
/-- one object's cell has been written -/
theorem CH.setP {a k : Nat} {e : va_E} (hD : va_D A (WLc cy ad κ L)) (hL : ∀ a, a ∈ L ↔ ¬ oT κ.2.2.2.2 a = 0) (ha : a ∈ L) (hk : (WLc cy ad κ L)[k]? = some (a, cof cy κ.2.2.2.2 a)) (hP1 : va_P D vwCl ((WLc cy ad κ L).set k (a, e)) H1)
    (hD1 : va_D A ((WLc cy ad κ L).set k (a, e))) (hM : MWc cy ad κ' = MWc cy ad κ) (hT : ∀ b, (oT κ'.2.2.2.2 b = 0) = (oT κ.2.2.2.2 b = 0)) (hc : ∀ b, va_up (cof cy κ.2.2.2.2) a e b = cof cy κ'.2.2.2.2 b) : CH D cy ad A κ' H1 := by
  have e1 : (WLc cy ad κ L).set k (a, e) = WLc cy ad κ' L := by
    unfold WLc at *
    rw [va_pl_set hD ha hk, hM, va_pl_congr hc]
  rw [e1] at hP1 hD1
  exact ⟨L, hP1, hD1, fun b => by rw [hL b, hT b]⟩
/-- a cell of the single ones has been written -/
theorem CH.setS {k : Nat} {q : Nat × va_E} (hL : ∀ a, a ∈ L ↔ ¬ oT κ.2.2.2.2 a = 0) (hk : k < 18) (hP1 : va_P D vwCl ((WLc cy ad κ L).set k q) H1)
    (hD1 : va_D A ((WLc cy ad κ L).set k q)) (hM : (MWc cy ad κ).set k q = MWc cy ad κ') (hT : κ'.2.2.2.2 = κ.2.2.2.2) : CH D cy ad A κ' H1 := by
  have e1 : (WLc cy ad κ L).set k q = WLc cy ad κ' L := by
    unfold WLc
    rw [List.set_append_left _ _ (by rw [MWc_len]; exact hk), hM, hT]
  rw [e1] at hP1 hD1
  exact ⟨L, hP1, hD1, fun b => by rw [hL b, hT]⟩
/-- a new cell -/
theorem CH.push {q : Nat} {e : va_E} (hL : ∀ a, a ∈ L ↔ ¬ oT κ.2.2.2.2 a = 0) (hP1 : va_P D vwCl (WLc cy ad κ L ++ [(q, e)]) H1) (hD1 : va_D A (WLc cy ad κ L ++ [(q, e)])) (hM : MWc cy ad κ' = MWc cy ad κ)
    (hT : ∀ b, ¬ oT κ'.2.2.2.2 b = 0 ↔ ¬ oT κ.2.2.2.2 b = 0 ∨ b = q) (hc : oT κ.2.2.2.2 q = 0 → ∀ b, va_up (cof cy κ.2.2.2.2) q e b = cof cy κ'.2.2.2.2 b) : oT κ.2.2.2.2 q = 0 ∧ CH D cy ad A κ' H1 := by
  have hq : q ∉ L := by
    unfold WLc at hD1
    exact va_pl_fresh2 hD1
  have h0 : oT κ.2.2.2.2 q = 0 := by
    by_cases h : oT κ.2.2.2.2 q = 0
    · exact h
    · exact absurd ((hL q).mpr h) hq
  have e1 : WLc cy ad κ L ++ [(q, e)] = WLc cy ad κ' (L ++ [q]) := by
    unfold WLc
    rw [List.append_assoc, va_pl_push hq, hM, va_pl_congr (hc h0)]
  rw [e1] at hP1 hD1
  refine ⟨h0, L ++ [q], hP1, hD1, fun b => ?_⟩
  rw [hT b, List.mem_append, hL b, List.mem_singleton]
theorem CH.retag {P : PL} (hC : CH D cy ad A κ H) (hT : ∀ b, (oT P b = 0) = (oT κ.2.2.2.2 b = 0)) (hc : ∀ b, cof cy κ.2.2.2.2 b = cof cy P b) : CH D cy ad A (tP κ P) H := by
  obtain ⟨L, h1, h2, h3⟩ := hC
  have e1 : WLc cy ad κ L = WLc cy ad (tP κ P) L := by
    unfold WLc
    rw [va_pl_congr hc]; rfl
  exact ⟨L, by rw [← e1]; exact h1, by rw [← e1]; exact h2, fun b => by rw [h3 b]; exact (by rw [show oT (tP κ P).2.2.2.2 b = oT P b from rfl, hT b])⟩
end CHS
