/-! ===== the class: lengths of texts, builders, bytes ===== -/
def SL (P : PL) (sa : Nat → Nat) (c n : Nat) : Prop := (oT P c = 7 ∧ ∃ b, oR P 11 c = some b ∧ oT P b = 8 ∧ oL P b = n) ∨ (KC sa c ∧ n = sa (1000 + 2 * c))
def sbL (P : PL) (a : Nat) : Nat := oL P ((oR P 12 a).getD 0)
def gr1 (n : Int) : Nat := if n ≤ 16 then 0 else 1
def gr70 (n : Int) : Nat := if n ≤ 16 then 0 else 70
theorem gr_spec (n : Int) : gr1 n ≤ 1 ∧ gr70 n ≤ 70 ∧ (n ≤ 16 → gr1 n = 0 ∧ gr70 n = 0) ∧ (16 < n → gr1 n = 1 ∧ gr70 n = 70) := by
  unfold gr1 gr70
  by_cases h : n ≤ 16
  · rw [if_pos h, if_pos h]; omega
  · rw [if_neg h, if_neg h]; omega
def SBS (P P' : PL) : Prop := ∀ a : Nat, oT P a = 12 → oI P' 25 a = oI P 25 a ∧ oR P' 12 a = oR P 12 a
section SLs
variable {p : Program} {l : Launch} {e : Env} {R : Room} {s : State} {m : MethodId} {args : Array Value} {below : List Frame} {meth : Method} {c : Code} {H : Heap} {locs : List Loc} {cells slots : Nat} {Q : State → Prop}
variable {cc : ByteArray} {pc : Nat} {ls : Array Slot} {rest : List Value} {A : Nat → Prop} {D : va_G} {cy : Nat → ClassId} {sz0 : Nat} {sa : Nat → Nat} {ad : Nat → Nat} {κ : KS} {maxL : Nat} {ret : Option FieldType} {own nm : String}
variable {P P' P2 : PL} {a b t k n : Nat}
theorem kc_0 (C : CC p s m args meth c cc maxL ret own nm D cy sz0 sa A) (hP : CH D cy ad A κ H) {c0 : Nat} (h : KC sa c0) : oT κ.2.2.2.2 c0 = 0 := by
  obtain ⟨-, b, -, h3⟩ := kst C h
  obtain ⟨cell, -, -, -, hA⟩ := (h3.1 0 (by decide)).1
  obtain ⟨L, -, h2, h4⟩ := hP
  by_cases e : oT κ.2.2.2.2 c0 = 0
  · exact e
  · obtain ⟨q, hq⟩ := WL_in (cy := cy) (ad := ad) (κ := κ) ((h4 c0).mpr e)
    exact absurd (h2.2 q _ hq) hA
theorem SL.sok (h : SL P sa a n) : SOK P sa a := by
  rcases h with ⟨h, -⟩ | ⟨h, -⟩
  · exact Or.inl h
  · exact SOK.any h
theorem SL.len (h : SL κ.2.2.2.2 sa a n) (C : CC p s m args meth c cc maxL ret own nm D cy sz0 sa A) (hP : CH D cy ad A κ H) : sLen κ.2.2.2.2 sa a = n := by
  unfold sLen
  rcases h with ⟨h, b, h1, h2, h3⟩ | ⟨h, h1⟩
  · rw [if_pos h, h1]; exact h3
  · rw [if_neg (by rw [kc_0 C hP h]; decide), h1]
theorem SOK.sl (h : SOK P sa a) (hP : PV sa P) (C : CC p s m args meth c cc maxL ret own nm D cy sz0 sa A) : ∃ n, SL P sa a n ∧ n ≤ 40 := by
  rcases h with h | ⟨-, h⟩
  · obtain ⟨⟨b, h1, h2, h3⟩, -⟩ := hP.t7 h
    exact ⟨_, Or.inl ⟨h, b, h1, h2, rfl⟩, h3⟩
  · exact ⟨_, Or.inr ⟨h, rfl⟩, Nat.le_trans (kst C h).1 (by decide)⟩
theorem EX.SL (h : EX P P') (hs : SL P sa a n) : SL P' sa a n := by
  rcases hs with ⟨hs, b, h1, h2, h3⟩ | hs
  · exact Or.inl ⟨h.T hs (by decide), b, (h.R hs (by decide) (by decide)).trans h1, h.T h2 (by decide), (h.L h2 (by decide)).trans h3⟩
  · exact Or.inr hs
theorem c_gsq (C : CC p s m args meth c cc maxL ret own nm D cy sz0 sa A) (hS : va_S A s.heap H locs) {cl f d : String} {idx : Nat} (h : vx_Zq cl f d A s s.heap) (hw : Cond.fieldLink own idx cl f d ∈ GWc) (hdg : decode cc pc = .ok (.getstatic idx, 3)) (kk : ∀ o : Option Nat, W p l e R s m args below meth c H locs cells slots Q (F0 m (pc + 3) ls (va_rf o :: rest))) : W p l e R s m args below meth c H locs cells slots Q (F0 m pc ls rest) := by
  rcases h.1 with h | ⟨t, h⟩
  · exact va_gets (v := .null) C.x C.b h hS C.o (C.w _ hw) (fun _ h9 => h9) hdg (kk none)
  · exact va_gets (v := .ref t) C.x C.b h hS C.o (C.w _ hw) (fun _ h9 => h9) hdg (kk (some t))
theorem bok_le (C : CC p s m args meth c cc maxL ret own nm D cy sz0 sa A) (hP : PV sa P) (h : oT P b % 20 = 8 → oT P b = 8) (hb : BOK P sa b n) : n ≤ 1000 := hb.le C (fun e => Nat.le_trans (hP.t8 (h e)).1 (by decide))
theorem EX.stB {f : Nat → Int32} : EX P (sB P a f) := fun x h0 _ => ⟨rfl, rfl, rfl, fun _ _ => rfl, fun _ _ => rfl, rfl, fun _ => rfl⟩
theorem PV.stB {f : Nat → Int32} (hP : PV sa P) (h : oT P a = 8) (hf : B8 f) : PV sa (sB P a f) := hP.upd (q := a) (fun _ => rfl) (fun _ => rfl) (fun _ => rfl) (fun b ne => SM.sB ne) (by
  have e : oT (sB P a f) a = 8 := h
  have z := (hP.t8 h).1
  unfold PVat
  rw [e, show oB (sB P a f) a = f from vu_eq]
  refine ⟨?_, ?_, ?_, ?_, ?_, fun _ => ⟨z, hf⟩, ?_, ?_, ?_, ?_⟩ <;> (intro e; exact absurd e (by decide))) (fun _ _ _ => rfl)
theorem b8_upd {f : Nat → Int32} {x : Int32} (h : B8 f) : B8 (upd f k (vp_nar .byte x)) := sb_fitU h (by exact pk_fb _)
theorem pv_stBu {x : Int32} (hP : PV sa P) (h : oT P a = 8) : PV sa (sB P a (upd (oB P a) k (vp_nar .byte x))) := hP.stB h (b8_upd (hP.t8 h).2)
/-- a builder's three changes -/
theorem EX.st12 {v : Option Nat} : EX P (sR P 12 a v) := fun x h0 _ => ⟨rfl, rfl, rfl, fun _ _ => rfl, fun j hj => sR_nk hj, rfl, fun _ => rfl⟩
theorem EX.stV {v : Int32} (hk : k = 24 ∨ k = 25) : EX P (sI P k a v) := fun x h0 _ => by
  refine ⟨rfl, rfl, rfl, fun j hj => sI_nk (fun e => ?_), fun _ _ => rfl, rfl, fun _ => rfl⟩
  subst e; rcases hk with h | h <;> (subst h; exact hj (by decide))
theorem PV.st24 {v : Int32} (hP : PV sa P) (h : oT P a = 12) : PV sa (sI P 24 a v) := hP.upd (q := a) (fun _ => rfl) (fun _ => rfl) (fun _ => rfl) (fun b ne => SM.sI ne) (by
  have e : oT (sI P 24 a v) a = 12 := h
  obtain ⟨⟨b, b1, b2, b3, b4⟩, h2, h3⟩ := hP.t12 h
  unfold PVat
  rw [e]
  refine ⟨?_, ?_, ?_, ?_, ?_, ?_, ?_, ?_, ?_, fun _ => ⟨⟨b, b1, b2, b3, by rw [sI_nk (by decide)]; exact b4⟩, by rw [sI_nk (by decide)]; exact h2, by rw [sI_nk (by decide)]; exact h3⟩⟩ <;> (intro e; exact absurd e (by decide))) (fun _ _ _ => rfl)
theorem PV.sb (hP : PV sa P) (h : oT P a = 12) : ∃ b, oR P 12 a = some b ∧ oT P b = 8 ∧ sbL P a = oL P b ∧ (oL P b = 16 ∨ oL P b = 34 ∨ oL P b = 70) ∧ (oI P 25 a).toInt ≤ oL P b ∧ 0 ≤ (oI P 25 a).toInt ∧ oI P 23 a = 0 := by
  obtain ⟨⟨b, b1, b2, b3, b4⟩, h2, h3⟩ := hP.t12 h
  exact ⟨b, b1, b2, by unfold sbL; rw [b1]; rfl, b3, b4, h3, h2⟩
theorem PV.st25 {v : Int32} (hP : PV sa P) (h : oT P a = 12) (hv : 0 ≤ v.toInt ∧ v.toInt ≤ sbL P a) : PV sa (sI P 25 a v) := hP.upd (q := a) (fun _ => rfl) (fun _ => rfl) (fun _ => rfl) (fun b ne => SM.sI ne) (by
  have e : oT (sI P 25 a v) a = 12 := h
  obtain ⟨b, b1, b2, b0, b3, b4, h3, h2⟩ := hP.sb h
  rw [b0] at hv
  unfold PVat
  rw [e]
  refine ⟨?_, ?_, ?_, ?_, ?_, ?_, ?_, ?_, ?_, fun _ => ⟨⟨b, b1, b2, b3, by rw [sI_eq]; exact hv.2⟩, by rw [sI_nk (by decide)]; exact h2, by rw [sI_eq]; exact hv.1⟩⟩ <;> (intro e; exact absurd e (by decide))) (fun _ _ _ => rfl)
theorem PV.st12 (hP : PV sa P) (h : oT P a = 12) (hb : oT P b = 8) (hl : oL P b = 16 ∨ oL P b = 34 ∨ oL P b = 70) (hc : (oI P 25 a).toInt ≤ oL P b) (hns : NS P b) : PV sa (sR P 12 a (some b)) := by
  refine ⟨fun x => ?_, fun x b2 hx hb2 c hc2 e => ?_⟩
  · by_cases ne : x = a
    · subst ne
      have e : oT (sR P 12 x (some b)) x = 12 := h
      obtain ⟨-, h2, h3⟩ := hP.t12 h
      unfold PVat
      rw [e]
      refine ⟨?_, ?_, ?_, ?_, ?_, ?_, ?_, ?_, ?_, fun _ => ⟨⟨b, sR_eq, hb, hl, hc⟩, h2, h3⟩⟩ <;> (intro e; exact absurd e (by decide))
    · exact (hP.1 x).keep (SM.sR ne) (fun b _ _ => ⟨rfl, rfl, rfl⟩)
  · have e : oR P 11 c = some b2 := (show oR (sR P 12 a (some b)) 11 c = oR P 11 c from sR_nk (by decide)) ▸ e
    by_cases ne : x = a
    · subst ne
      have e2 : some b = some b2 := sR_eq.symm.trans hb2
      rw [← Option.some.inj e2] at e
      exact hns c hc2 e
    · have e2 : oR P 12 x = some b2 := (sR_ne ne).symm.trans hb2
      exact hP.2 x b2 hx e2 c hc2 e
theorem SBS.newB {q : Nat} {f : Nat → Int32} (h0 : oT P q = 0) : SBS P (newB P q n f) := fun x hx => by
  have ne : ¬ x = q := fun e => by rw [e, h0] at hx; exact absurd hx (by decide)
  exact ⟨upd_ne ne, vu_ne ne⟩
theorem sbL_st {v : Nat} : sbL (sR P 12 a (some v)) a = oL P v := by unfold sbL; rw [sR_eq]; rfl
end SLs
section CASTB
variable {p : Program} {l : Launch} {e : Env} {R : Room} {s : State} {m : MethodId} {args : Array Value} {below : List Frame} {meth : Method} {c : Code} {H : Heap} {locs : List Loc} {cells slots : Nat} {Q : State → Prop}
variable {cc : ByteArray} {pc : Nat} {ls : Array Slot} {rest : List Value} {A : Nat → Prop} {D : va_G} {cy : Nat → ClassId} {sz0 : Nat} {sa : Nat → Nat} {ad : Nat → Nat} {κ : KS} {maxL : Nat} {ret : Option FieldType} {own nm : String}
theorem c_castB (C : CC p s m args meth c cc maxL ret own nm D cy sz0 sa A) (hP : CH D cy ad A κ H) {a idx : Nat} (ht : oT κ.2.2.2.2 a % 20 = 8) (hw : Cond.classLink own idx "[B" ∈ GWc) (hdg : decode cc pc = .ok (.checkcast idx, 3)) (kk : W p l e R s m args below meth c H locs cells slots Q (F0 m (pc + 3) ls (.ref a :: rest))) : W p l e R s m args below meth c H locs cells slots Q (F0 m pc ls (.ref a :: rest)) := by
  obtain ⟨L, h1, h2, h3⟩ := hP
  obtain ⟨q0, hq⟩ := WL_in (cy := cy) (ad := ad) (κ := κ) (tag_in h3 ht (by decide))
  have hra : va_RA s (cy 5) .byte := (C.K.2 5 _ rfl).2
  have hnm : s.vm.findClass "[B" = some (cy 5) := by
    have h2 := hra
    unfold va_RA at h2
    simpa [FieldType.toString] using h2
  exact va_castA C.x C.b C.o (C.w _ hw) h1 q0 (WL_at hq ht) hnm hdg kk
end CASTB
