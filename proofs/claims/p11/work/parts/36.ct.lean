/-! ===== the class: texts, of the pool or constant ===== -/
/-- a text; its bytes; how many -/
def SOK (P : PL) (sa : Nat → Nat) (c : Nat) : Prop := oT P c = 7 ∨ (¬ oT P c = 7 ∧ KC sa c)
def sVal (P : PL) (sa : Nat → Nat) (c : Nat) : Nat := if oT P c = 7 then (oR P 11 c).getD 0 else sa (1001 + 2 * c)
def sLen (P : PL) (sa : Nat → Nat) (c : Nat) : Nat := if oT P c = 7 then oL P ((oR P 11 c).getD 0) else sa (1000 + 2 * c)
/-- n bytes at b that may be read -/
def BOK (P : PL) (sa : Nat → Nat) (b n : Nat) : Prop := (oT P b % 20 = 8 ∧ oL P b = n ∧ ∀ j, fits .byte (.int (oB P b j)) = true) ∨ ∃ c, KC sa c ∧ b = sa (1001 + 2 * c) ∧ n = sa (1000 + 2 * c)
section CT
variable {p : Program} {l : Launch} {e : Env} {R : Room} {s : State} {m : MethodId} {args : Array Value} {below : List Frame} {meth : Method} {c : Code} {H : Heap} {locs : List Loc} {cells slots : Nat} {Q : State → Prop}
variable {cc : ByteArray} {pc : Nat} {ls : Array Slot} {rest : List Value} {A : Nat → Prop} {D : va_G} {cy : Nat → ClassId} {sz0 : Nat} {sa : Nat → Nat} {ad : Nat → Nat} {κ : KS} {maxL : Nat} {ret : Option FieldType} {own nm : String}
theorem kst (C : CC p s m args meth c cc maxL ret own nm D cy sz0 sa A) {c0 : Nat} (h : KC sa c0) : sa (1000 + 2 * c0) ≤ 8 ∧ ∃ b : List Int32, (∀ j, fits .byte (.int (b.getD j 0)) = true) ∧ vk_S 1 [sa (1000 + 2 * c0)] [b] (fun _ => c0) (fun _ => sa (1001 + 2 * c0)) A s s.heap := by
  obtain ⟨i, hi, rfl⟩ := h.ix
  obtain ⟨h1, h3⟩ := C.n.1 i hi
  rw [h1]
  exact ⟨(kcI_ok hi).1, kcI i, (kcI_ok hi).2, h3.narrow C.f⟩
/-- a constant's bytes lie outside of the pool -/
theorem kc_v (C : CC p s m args meth c cc maxL ret own nm D cy sz0 sa A) (hP : CH D cy ad A κ H) {c0 : Nat} (h : KC sa c0) : oT κ.2.2.2.2 (sa (1001 + 2 * c0)) = 0 := by
  obtain ⟨-, b, -, h3⟩ := kst C h
  obtain ⟨cell, -, -, -, -, -, -, hA⟩ := (h3.1 0 (by decide)).2.2.2
  obtain ⟨L, -, h2, h4⟩ := hP
  by_cases e : oT κ.2.2.2.2 (sa (1001 + 2 * c0)) = 0
  · exact e
  · obtain ⟨q, hq⟩ := WL_in (cy := cy) (ad := ad) (κ := κ) ((h4 _).mpr e)
    exact absurd (h2.2 q _ hq) hA
/-- what a byte that is read is -/
def BYR (P : PL) (sa : Nat → Nat) (a k : Nat) (x : Int32) : Prop := (oT P a % 20 = 8 → x = oB P a k) ∧ ∀ i, KI i → a = sa (1001 + 2 * sa i) → ¬ oT P a % 20 = 8 ∧ (k < (kcI i).length → x = (kcI i).getD k 0)
theorem byr_p (C : CC p s m args meth c cc maxL ret own nm D cy sz0 sa A) (hP : CH D cy ad A κ H) {a k : Nat} {x : Int32} (h1 : oT κ.2.2.2.2 a % 20 = 8) (e : x = oB κ.2.2.2.2 a k) : BYR κ.2.2.2.2 sa a k x := by
  refine ⟨fun _ => e, fun i hi ha => ?_⟩
  have z := kc_v C hP (sa := sa) hi.kc
  rw [← ha] at z
  rw [z] at h1
  exact absurd h1 (by decide)
theorem byr_c (C : CC p s m args meth c cc maxL ret own nm D cy sz0 sa A) (hP : CH D cy ad A κ H) {i0 k : Nat} (hi0 : KI i0) (hk : k < (kcI i0).length) : BYR κ.2.2.2.2 sa (sa (1001 + 2 * sa i0)) k ((kcI i0).getD k 0) := by
  have z := kc_v C hP (sa := sa) hi0.kc
  refine ⟨fun h => ?_, fun i hi ha => ⟨fun h => ?_, fun h => ?_⟩⟩
  · rw [z] at h; exact absurd h (by decide)
  · rw [z] at h; exact absurd h (by decide)
  · obtain ⟨c1, a1, -, -, -, -, a2, -⟩ := ((C.n.1 i0 hi0).2.1 0 (by decide)).2.2.2
    obtain ⟨c2, b1, -, -, -, -, b2, -⟩ := ((C.n.1 i hi).2.1 0 (by decide)).2.2.2
    have a1 : s.heap[sa (1001 + 2 * sa i0)]? = some c1 := a1
    have b1 : s.heap[sa (1001 + 2 * sa i)]? = some c2 := b1
    rw [← ha, a1] at b1
    have e := Option.some.inj b1
    subst e
    have a3 : c1.slots[k]? = some (.int ((kcI i0).getD k 0)) := a2 k hk
    have b3 : c1.slots[k]? = some (.int ((kcI i).getD k 0)) := b2 k h
    have e := Option.some.inj (a3.symm.trans b3)
    exact Value.int.inj e
theorem BOK.le (C : CC p s m args meth c cc maxL ret own nm D cy sz0 sa A) {P : PL} {b n : Nat} (h : BOK P sa b n) (hL : oT P b % 20 = 8 → oL P b ≤ 1000) : n ≤ 1000 := by
  rcases h with ⟨h1, h2, -⟩ | ⟨c0, h1, h2, h3⟩
  · rw [← h2]; exact hL h1
  · rw [h3]; exact Nat.le_trans (kst C h1).1 (by decide)
/-- a text's bytes -/
theorem ct_val (C : CC p s m args meth c cc maxL ret own nm D cy sz0 sa A) (hP : CH D cy ad A κ H) (hS : va_S A s.heap H locs) {a : Nat} (ht : SOK κ.2.2.2.2 sa a) (hv : oT κ.2.2.2.2 a = 7 → ∃ b, oR κ.2.2.2.2 11 a = some b) {idx : Nat} (hwd : Cond.fieldLink own idx "java/lang/String" "value" "[B" ∈ GWc) (hdg : decode cc pc = .ok (.getfield idx, 3)) (kk : W p l e R s m args below meth c H locs cells slots Q (F0 m (pc + 3) ls (.ref (sVal κ.2.2.2.2 sa a) :: rest))) : W p l e R s m args below meth c H locs cells slots Q (F0 m (pc) ls (.ref a :: rest)) := by
  rcases ht with ht | ⟨hn, hk⟩
  · obtain ⟨b, hb⟩ := hv ht
    refine pg_J0_0 (v := some b) C hP (by rw [ht]) hb hwd hdg ?_
    have e : sVal κ.2.2.2.2 sa a = b := by unfold sVal; rw [if_pos ht, hb]; rfl
    rw [← e]; exact kk
  · obtain ⟨-, b, -, h3⟩ := kst C hk
    have e : sVal κ.2.2.2.2 sa a = sa (1001 + 2 * a) := by unfold sVal; rw [if_neg hn]
    rw [e] at kk
    exact vk_getf C.x C.b (h3.1 0 (by decide)).2.2.1 hS C.o (C.w _ hwd) (fun _ h9 => h9) hdg kk
theorem ct_coder (C : CC p s m args meth c cc maxL ret own nm D cy sz0 sa A) (hP : CH D cy ad A κ H) (hS : va_S A s.heap H locs) {a : Nat} (ht : SOK κ.2.2.2.2 sa a) (hv : oT κ.2.2.2.2 a = 7 → oI κ.2.2.2.2 20 a = 0) {idx : Nat} (hwd : Cond.fieldLink own idx "java/lang/String" "coder" "B" ∈ GWc) (hdg : decode cc pc = .ok (.getfield idx, 3)) (kk : W p l e R s m args below meth c H locs cells slots Q (F0 m (pc + 3) ls (.int 0 :: rest))) : W p l e R s m args below meth c H locs cells slots Q (F0 m (pc) ls (.ref a :: rest)) := by
  rcases ht with ht | ⟨hn, hk⟩
  · exact pg_J0_1 (v := 0) C hP (by rw [ht]) (hv ht) hwd hdg kk
  · obtain ⟨-, b, -, h3⟩ := kst C hk
    exact vk_getf C.x C.b (h3.1 0 (by decide)).2.1 hS C.o (C.w _ hwd) (fun _ h9 => h9) hdg kk
theorem ct_len (C : CC p s m args meth c cc maxL ret own nm D cy sz0 sa A) (hP : CH D cy ad A κ H) (hS : va_S A s.heap H locs) {a n : Nat} (ht : BOK κ.2.2.2.2 sa a n) (hdg : decode cc pc = .ok (.arraylength, 1)) (kk : ∀ x : Int32, x = Int32.ofNat n → W p l e R s m args below meth c H locs cells slots Q (F0 m (pc + 1) ls (.int x :: rest))) : W p l e R s m args below meth c H locs cells slots Q (F0 m (pc) ls (.ref a :: rest)) := by
  rcases ht with ⟨h1, h2, -⟩ | ⟨c0, h1, h2, h3⟩
  · exact pl_8 C hP h1 h2 hdg kk
  · obtain ⟨-, b, -, h4⟩ := kst C h1
    subst h2 h3
    exact va_tlen C.x C.b (h4.1 0 (by decide)).2.2.2 hS rfl hdg (kk _ rfl)
theorem ct_ld (C : CC p s m args meth c cc maxL ret own nm D cy sz0 sa A) (hP : CH D cy ad A κ H) (hS : va_S A s.heap H locs) {a n : Nat} (ht : BOK κ.2.2.2.2 sa a n) {i : Int32} (hin : vp_in i n) (hdg : decode cc pc = .ok (.baload, 1)) (kk : ∀ x : Int32, fits .byte (.int x) = true → BYR κ.2.2.2.2 sa a i.toNatClampNeg x → W p l e R s m args below meth c H locs cells slots Q (F0 m (pc + 1) ls (.int x :: rest))) : W p l e R s m args below meth c H locs cells slots Q (F0 m (pc) ls (.int i :: .ref a :: rest)) := by
  rcases ht with ⟨h1, h2, h4⟩ | ⟨c0, h1, h2, h3⟩
  · exact pa_8 C hP h1 h2 hin hdg (fun x e => kk x (by rw [e]; exact h4 _) (byr_p C hP h1 e))
  · obtain ⟨i0, hi0, rfl⟩ := h1.ix
    obtain ⟨q1, q2⟩ := C.n.1 i0 hi0
    rw [q1] at h3
    subst h2 h3
    exact va_tb C.x C.b ((q2.narrow C.f).1 0 (by decide)).2.2.2 hS hin rfl hdg (kk _ ((kcI_ok hi0).2 _) (byr_c C hP hi0 (by have z := vp_in_iff.mp hin; rw [clampN]; omega)))
/-- bytes that have been copied -/
def BCP (P : PL) (sa : Nat → Nat) (a0 a sp dp n : Nat) (f : Nat → Int32) : Prop := ∀ j : Nat, (dp ≤ j ∧ j < dp + n → BYR P sa a0 (sp + (j - dp)) (f j)) ∧ (¬ (dp ≤ j ∧ j < dp + n) → f j = oB P a j)
theorem ct_copy (C : CC p s m args meth c cc maxL ret own nm D cy sz0 sa A) (hP : CH D cy ad A κ H) (hS : va_S A s.heap H locs) (hl : ls.size = maxL) {a0 n0 a n1 idx : Nat} (ht0 : BOK κ.2.2.2.2 sa a0 n0) (ht : oT κ.2.2.2.2 a % 20 = 8) (hn : oL κ.2.2.2.2 a = n1) (hb : ∀ j, fits .byte (.int (oB κ.2.2.2.2 a j)) = true) {sp dp n : Int32} (g1 : 0 ≤ sp.toInt) (g2 : 0 ≤ dp.toInt) (g3 : 0 ≤ n.toInt) (g4 : sp.toInt + n.toInt ≤ n0) (g5 : dp.toInt + n.toInt ≤ n1)
    (hw : Cond.methodLink own idx arraycopyName ∈ GWc ∧ Cond.native arraycopyName ∈ GWc ∧ Cond.static arraycopyName ∈ GWc ∧ Cond.initialized "java/lang/System" ∈ GWc) (hR : 1 ≤ R.frames ∧ (rest.map fun v => v.category).sum + (nativeFrameWords "java/lang/System" "arraycopy" 5 + 11) ≤ R.locals) (hdg : decode cc pc = .ok (.invokestatic idx, 3))
    (kk : ∀ (H1 : Heap) (locs1 : List Loc) (f : Nat → Int32), (∀ j, fits .byte (.int (f j)) = true) → BCP κ.2.2.2.2 sa a0 a sp.toNatClampNeg dp.toNatClampNeg n.toNatClampNeg f → CH D cy ad A (tP κ (sB κ.2.2.2.2 a f)) H1 → va_S A s.heap H1 locs1 → W p l e R s m args below meth c H1 locs1 cells slots Q (F0 m (pc + 3) ls (rest))) : W p l e R s m args below meth c H locs cells slots Q (F0 m (pc) ls (.int n :: .int dp :: .ref a :: .int sp :: .ref a0 :: rest)) := by
  have z0 : (0 : Int32).toInt = 0 := by decide +kernel
  have k1 : ¬ sp < 0 := fun h => by have := z_lt h; omega
  have k2 : ¬ dp < 0 := fun h => by have := z_lt h; omega
  have k3 : ¬ n < 0 := fun h => by have := z_lt h; omega
  have k4 : sp.toNatClampNeg + n.toNatClampNeg ≤ n0 := by rw [clampN, clampN]; omega
  have k5 : dp.toNatClampNeg + n.toNatClampNeg ≤ n1 := by rw [clampN, clampN]; omega
  subst hn
  have hP0 := hP
  obtain ⟨L, h1, h2, h3⟩ := hP
  have hin9 := tag_in h3 ht (by decide)
  obtain ⟨q0, hq⟩ := WL_in (cy := cy) (ad := ad) (κ := κ) hin9
  have fin : ∀ (H1 : Heap) (locs1 : List Loc) (f : Nat → Int32), (∀ j, fits .byte (.int (f j)) = true) → BCP κ.2.2.2.2 sa a0 a sp.toNatClampNeg dp.toNatClampNeg n.toNatClampNeg f → va_P D vwCl ((WLc cy ad κ L).set q0 (a, .inl (cy 5, oL κ.2.2.2.2 a, .inl f))) H1 → va_D A ((WLc cy ad κ L).set q0 (a, .inl (cy 5, oL κ.2.2.2.2 a, .inl f))) → va_S A s.heap H1 locs1 → W p l e R s m args below meth c H1 locs1 cells slots Q (F0 m (pc + 3) ls (rest)) := fun H1 locs1 f hf hc p1 p2 p3 => kk H1 locs1 f hf hc (CH.setP h2 h3 hin9 hq p1 p2 rfl (fun b => rfl) (hc_of (P' := (sB κ.2.2.2.2 a f)) ht (fun b => rfl) (by unfold cofT; simp only []; rw [show oB (sB κ.2.2.2.2 a f) a = _ from vu_eq]; rfl) (fun b e t => cofT_ne (P := κ.2.2.2.2) (P' := (sB κ.2.2.2.2 a f)) (fun j => rfl) (fun j => rfl) rfl rfl (vu_ne e) rfl t))) p3
  rcases ht0 with ⟨d1, d2, d3⟩ | ⟨c0, d1, d2, d3⟩
  · obtain ⟨qs, hqs⟩ := WL_in (cy := cy) (ad := ad) (κ := κ) (tag_in h3 d1 (by decide))
    subst d2
    exact va_copyi C.x C.b (C.ml.trans hl.symm) C.o (C.w _ hw.1) (C.w _ hw.2.1) (C.w _ hw.2.2.1) (C.w _ hw.2.2.2) C.K h1 h2 hS qs q0 5 5 (WL_at hqs d1) (WL_at hq ht) rfl rfl rfl k1 k2 k3 k4 k5 (fun i _ => d3 _) hR.1 hR.2 hdg (fun H1 locs1 p1 p2 p3 => fin H1 locs1 _ (fun j => by unfold va_cpy; split; exact d3 _; exact hb _) (fun j => by unfold va_cpy; exact ⟨fun q => by rw [if_pos q]; exact byr_p C hP0 d1 rfl, fun q => by rw [if_neg q]⟩) p1 p2 p3)
  · obtain ⟨i0, hi0, rfl⟩ := d1.ix
    obtain ⟨q1, q2⟩ := C.n.1 i0 hi0
    rw [q1] at d3
    subst d2 d3
    exact vk_copyt C.x C.b (C.ml.trans hl.symm) C.o (C.w _ hw.1) (C.w _ hw.2.1) (C.w _ hw.2.2.1) (C.w _ hw.2.2.2) C.K h1 h2 hS ((q2.narrow C.f).1 0 (by decide)).2.2.2 q0 5 (WL_at hq ht) rfl k1 k2 k3 k4 k5 (fun i _ => (kcI_ok hi0).2 _) hR.1 hR.2 hdg (fun H1 locs1 p1 p2 p3 => fin H1 locs1 _ (fun j => by unfold va_cpy; split; exact (kcI_ok hi0).2 _; exact hb _) (fun j => by unfold va_cpy; exact ⟨fun q => by rw [if_pos q]; exact byr_c C hP0 hi0 (by omega), fun q => by rw [if_neg q]⟩) p1 p2 p3)
theorem ct_clone (C : CC p s m args meth c cc maxL ret own nm D cy sz0 sa A) (hP : CH D cy ad A κ H) (hS : va_S A s.heap H locs) (hl : ls.size = maxL) {a n idx : Nat} (ht : oT κ.2.2.2.2 a % 20 = 8) (hn : oL κ.2.2.2.2 a = n) (hb : ∀ j, fits .byte (.int (oB κ.2.2.2.2 a j)) = true)
    (hw : Cond.methodLink own idx ⟨"[B", "clone", "()Ljava/lang/Object;"⟩ ∈ GWc ∧ Cond.sameMethod "[B" "java/lang/Object" "clone" "()Ljava/lang/Object;" ∈ GWc ∧ Cond.native ⟨"java/lang/Object", "clone", "()Ljava/lang/Object;"⟩ ∈ GWc ∧ Cond.instanceMethod ⟨"java/lang/Object", "clone", "()Ljava/lang/Object;"⟩ ∈ GWc ∧ Cond.selects "[B" ⟨"[B", "clone", "()Ljava/lang/Object;"⟩ ⟨"java/lang/Object", "clone", "()Ljava/lang/Object;"⟩ ∈ GWc) (hR : 1 ≤ R.frames ∧ (rest.map fun v => v.category).sum + 14 ≤ R.locals) (hcR : cells + 1 ≤ R.cells ∧ slots + n ≤ R.slots) (hdg : decode cc pc = .ok (.invokevirtual idx, 3))
    (kk : ∀ (q : Nat) (H1 : Heap), oT κ.2.2.2.2 q = 0 → CH D cy ad A (tP κ (newB κ.2.2.2.2 q n (oB κ.2.2.2.2 a))) H1 → va_S A s.heap H1 locs → W p l e R s m args below meth c H1 locs (cells + 1) (slots + n) Q (F0 m (pc + 3) ls (.ref q :: rest))) : W p l e R s m args below meth c H locs cells slots Q (F0 m (pc) ls (.ref a :: rest)) := by
  subst hn
  obtain ⟨L, h1, h2, h3⟩ := hP
  obtain ⟨q0, hq⟩ := WL_in (cy := cy) (ad := ad) (κ := κ) (tag_in h3 ht (by decide))
  have hra : va_RA s (cy 5) .byte := (C.K.2 5 _ rfl).2
  refine va_clone C.x C.b (C.ml.trans hl.symm) C.o (C.w _ hw.1) (C.w _ hw.2.1) (C.w _ hw.2.2.1) (C.w _ hw.2.2.2.1) (C.w _ hw.2.2.2.2) C.t.2.2.2.2.1 C.K h1 h2 hS C.a q0 5 (WL_at hq ht) rfl hra (fun i v hv => ?_) hR.1 hR.2 hcR.1 hcR.2 hdg (fun q H1 k1 p1 p2 p3 => ?_)
  · have hi : i < oL κ.2.2.2.2 a := by
      have := (Array.getElem?_eq_some_iff.mp hv).1
      rw [show (vp_cell (cy 5) (oL κ.2.2.2.2 a, .inl (oB κ.2.2.2.2 a))).slots.size = oL κ.2.2.2.2 a from arrV_size _ _ _] at this
      exact this
    have := (arrV_read (cy 5) (fun j => .int (oB κ.2.2.2.2 a j)) hi).symm.trans hv
    rw [← Option.some.inj this]; exact hb i
  have z := CH.new (P' := newB κ.2.2.2.2 q (oL κ.2.2.2.2 a) (oB κ.2.2.2.2 a)) (t := 8) h3 p1 p2 (fun b => newB_T) (by decide) newB_at (fun b hb k => newB_ne hb k)
  exact kk q H1 z.1 z.2 p3
end CT
