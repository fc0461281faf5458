/-! ===== the class: more rows ===== -/
section CKs
variable {p : Program} {l : Launch} {e : Env} {R : Room} {s : State} {m : MethodId} {args : Array Value} {below : List Frame} {meth : Method} {c : Code} {H : Heap} {locs : List Loc} {cells slots : Nat} {Q : State → Prop}
variable {cc : ByteArray} {pc : Nat} {ls : Array Slot} {rest : List Value} {A : Nat → Prop} {D : va_G} {cy : Nat → ClassId} {sz0 : Nat} {sa : Nat → Nat} {ad : Nat → Nat} {κ : KS} {maxL : Nat} {ret : Option FieldType} {own nm : String}
theorem sok_bok {P : PL} {a : Nat} (h : PV sa P) (ht : SOK P sa a) : BOK P sa (sVal P sa a) (sLen P sa a) := by
  rcases ht with ht | ⟨hn, hk⟩
  · obtain ⟨⟨b, b1, b2, b3⟩, -⟩ := h.t7 ht
    unfold sVal sLen
    rw [if_pos ht, if_pos ht, b1]
    exact Or.inl ⟨by show oT P b % 20 = 8; rw [b2], rfl, (h.t8 b2).2⟩
  · unfold sVal sLen
    rw [if_neg hn, if_neg hn]
    exact Or.inr ⟨a, hk, rfl, rfl⟩
theorem bok_8 {P : PL} {a : Nat} (h : PV sa P) (ht : oT P a = 8) : BOK P sa a (oL P a) := Or.inl ⟨by rw [ht], rfl, (h.t8 ht).2⟩
theorem c_srecv (C : CC p s m args meth c cc maxL ret own nm D cy sz0 sa A) (hP : CH D cy ad A κ H) (hS : va_S A s.heap H locs) {a : Nat} (ht : SOK κ.2.2.2.2 sa a) : ∃ cell : Cell, H[a]? = some cell ∧ cell.vm.isStatics = false ∧ s.vm.findClass RJ0 = some cell.cls := by
  rcases ht with ht | ⟨hn, hk⟩
  · exact hP.recvP (t := 7) (ci := 0) C.K (t20 ht) (by decide) rfl rfl
  · obtain ⟨-, b, -, h3⟩ := kst C hk
    exact vk_recv (i := 0) h3 (by decide) hS
theorem CH.cong {κ' : KS} (hP : CH D cy ad A κ H) (e0 : κ'.1 0 = κ.1 0) (e1 : κ'.1 1 = κ.1 1) (e2 : κ'.1 2 = κ.1 2) (e3 : κ'.1 3 = κ.1 3) (e4 : κ'.1 4 = κ.1 4) (e5 : κ'.1 5 = κ.1 5) (e6 : κ'.1 6 = κ.1 6) (e7 : κ'.1 7 = κ.1 7) (e8 : κ'.1 8 = κ.1 8) (e9 : κ'.1 9 = κ.1 9) (e10 : κ'.1 10 = κ.1 10) (e11 : κ'.1 11 = κ.1 11)
    (r0 : κ'.2.1 0 = κ.2.1 0) (r1 : κ'.2.1 1 = κ.2.1 1) (a9 : κ'.2.2.1 9 = κ.2.2.1 9) (a10 : κ'.2.2.1 10 = κ.2.2.1 10) (a11 : κ'.2.2.1 11 = κ.2.2.1 11) (a12 : κ'.2.2.1 12 = κ.2.2.1 12) (a14 : κ'.2.2.1 14 = κ.2.2.1 14) (a16 : κ'.2.2.1 16 = κ.2.2.1 16)
    (q6 : κ'.2.2.2.1 6 = κ.2.2.2.1 6) (q7 : κ'.2.2.2.1 7 = κ.2.2.2.1 7) (q8 : κ'.2.2.2.1 8 = κ.2.2.2.1 8) (q13 : κ'.2.2.2.1 13 = κ.2.2.2.1 13) (q15 : κ'.2.2.2.1 15 = κ.2.2.2.1 15) (q17 : κ'.2.2.2.1 17 = κ.2.2.2.1 17) (eP : κ'.2.2.2.2 = κ.2.2.2.2) : CH D cy ad A κ' H := by
  have e : MWc cy ad κ' = MWc cy ad κ := by
    unfold MWc
    rw [e0, e1, e2, e3, e4, e5, e6, e7, e8, e9, e10, e11, r0, r1, a9, a10, a11, a12, a14, a16, q6, q7, q8, q13, q15, q17]
  obtain ⟨L, h1, h2, h3⟩ := hP
  have ew : WLc cy ad κ' L = WLc cy ad κ L := by unfold WLc; rw [e, eP]
  exact ⟨L, by rw [ew]; exact h1, by rw [ew]; exact h2, fun a => by rw [eP]; exact h3 a⟩
end CKs
