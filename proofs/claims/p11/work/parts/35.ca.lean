/-! ===== the class: arrays, new cells ===== -/
def zP (P : PL) (q : Nat) : PL := (P.1, fun k => upd (P.2.1 k) q 0, fun k => va_up (P.2.2.1 k) q none, vf_upd P.2.2.2.1 q 0, va_up P.2.2.2.2.1 q (fun _ => none), va_up P.2.2.2.2.2.1 q (fun _ => 0), va_up P.2.2.2.2.2.2.1 q 0, va_up P.2.2.2.2.2.2.2 q 0)
def newP (P : PL) (q t : Nat) : PL := sT (zP P q) q t
def newB (P : PL) (q n : Nat) (f : Nat → Int32) : PL := sB (sL (newP P q 8) q n) q f
theorem newP_ne {cy : Nat → ClassId} {P : PL} {q t b : Nat} (h : ¬ b = q) (k : Nat) : cofT cy (newP P q t) b k = cofT cy P b k :=
  cofT_ne (P := P) (P' := newP P q t) (fun j => by show upd (P.2.1 j) q 0 b = _; rw [upd_ne h]) (fun j => by show va_up (P.2.2.1 j) q none b = _; rw [vu_ne h]) (by show vf_upd P.2.2.2.1 q 0 b = _; rw [vf_ne h]) (by show va_up P.2.2.2.2.1 q _ b = _; rw [vu_ne h]) (by show va_up P.2.2.2.2.2.1 q _ b = _; rw [vu_ne h]) (by show va_up P.2.2.2.2.2.2.1 q _ b = _; rw [vu_ne h]) k
theorem newP_T {P : PL} {q t b : Nat} : oT (newP P q t) b = if b = q then t else oT P b := rfl
theorem newP_zI {P : PL} {q t k : Nat} : oI (newP P q t) k q = 0 := by show upd (P.2.1 k) q 0 q = 0; rw [upd_eq]
theorem newP_zR {P : PL} {q t k : Nat} : oR (newP P q t) k q = none := by show va_up (P.2.2.1 k) q none q = _; rw [vu_eq]
theorem newP_zD {P : PL} {q t : Nat} : oD (newP P q t) q = 0 := by show vf_upd P.2.2.2.1 q 0 q = _; rw [vf_eq]
theorem newP_zA {P : PL} {q t : Nat} : oA (newP P q t) q = (fun _ => none) := by show va_up P.2.2.2.2.1 q _ q = _; rw [vu_eq]
section CA0
variable {D : va_G} {cy : Nat → ClassId} {ad : Nat → Nat} {A : Nat → Prop} {κ : KS} {H1 : Heap} {L : List Nat}
theorem CH.new {q t : Nat} {e : va_E} {P' : PL} (h3 : ∀ a, a ∈ L ↔ ¬ oT κ.2.2.2.2 a = 0) (p1 : va_P D vwCl (WLc cy ad κ L ++ [(q, e)]) H1) (p2 : va_D A (WLc cy ad κ L ++ [(q, e)])) (hT : ∀ b, oT P' b = if b = q then t else oT κ.2.2.2.2 b) (ht : ¬ t = 0) (he : cofT cy P' q (t % 20) = e) (hne : ∀ b, ¬ b = q → ∀ k, cofT cy P' b k = cofT cy κ.2.2.2.2 b k) : oT κ.2.2.2.2 q = 0 ∧ CH D cy ad A (tP κ P') H1 := by
  refine CH.push h3 p1 p2 rfl (fun b => ?_) (fun h0 b => ?_)
  · show ¬ oT P' b = 0 ↔ _
    rw [hT b]
    by_cases e9 : b = q
    · rw [if_pos e9]; exact ⟨fun _ => Or.inr e9, fun _ => ht⟩
    · rw [if_neg e9]; exact ⟨fun h => Or.inl h, fun h => h.resolve_right e9⟩
  · show _ = cof cy P' b
    by_cases e9 : b = q
    · subst e9
      rw [vu_eq]; unfold cof
      rw [hT, if_pos rfl, he]
    · rw [vu_ne e9]; unfold cof
      rw [hT, if_neg e9, hne b e9]
end CA0
theorem nar_b (x : Int32) : fits .byte (.int (vp_nar .byte x)) = true := by rw [vp_nar_byte]; exact pk_fb x
section CA
variable {p : Program} {l : Launch} {e : Env} {R : Room} {s : State} {m : MethodId} {args : Array Value} {below : List Frame} {meth : Method} {c : Code} {H : Heap} {locs : List Loc} {cells slots : Nat} {Q : State → Prop}
variable {cc : ByteArray} {pc : Nat} {ls : Array Slot} {rest : List Value} {A : Nat → Prop} {D : va_G} {cy : Nat → ClassId} {sz0 : Nat} {sa : Nat → Nat} {ad : Nat → Nat} {κ : KS} {maxL : Nat} {ret : Option FieldType} {own nm : String}
theorem ca_6 {f : Nat → Option Nat} (C : CC p s m args meth c cc maxL ret own nm D cy sz0 sa A) (hP : CH D cy ad A κ H) (hev : (κ.2.2.2.1 6) = f) {i : Int32} (hin : vp_in i 40) (hdg : decode cc pc = .ok (.aaload, 1)) (kk : ∀ x : Option Nat, x = f i.toNatClampNeg → W p l e R s m args below meth c H locs cells slots Q (F0 m (pc + 1) ls (va_rf x :: rest))) : W p l e R s m args below meth c H locs cells slots Q (F0 m (pc) ls (.int i :: .ref (ad 6) :: rest)) := by
  subst hev
  obtain ⟨L, h1, h2, h3⟩ := hP
  exact va_aldq (C := RX5) C.x C.b C.K h1 6 7 (WL_s rfl) rfl hin hdg (kk _ rfl)
theorem cl_6 (C : CC p s m args meth c cc maxL ret own nm D cy sz0 sa A) (hP : CH D cy ad A κ H) (hdg : decode cc pc = .ok (.arraylength, 1)) (kk : W p l e R s m args below meth c H locs cells slots Q (F0 m (pc + 1) ls (.int 40 :: rest))) : W p l e R s m args below meth c H locs cells slots Q (F0 m (pc) ls (.ref (ad 6) :: rest)) := by
  obtain ⟨L, h1, h2, h3⟩ := hP
  exact va_alen C.x C.b C.K h1 6 7 (WL_s rfl) rfl (v := 40) rfl hdg kk
theorem cw_st6 {f : Nat → Option Nat} (C : CC p s m args meth c cc maxL ret own nm D cy sz0 sa A) (hP : CH D cy ad A κ H) (hS : va_S A s.heap H locs) (hev : (κ.2.2.2.1 6) = f) {i : Int32} {v : Nat} (hv : oT κ.2.2.2.2 v % 20 = 2) (hin : vp_in i 40) (hdg : decode cc pc = .ok (.aastore, 1)) (kk : ∀ (H1 : Heap) (locs1 : List Loc), CH D cy ad A (tQ κ 6 (va_up f i.toNatClampNeg (some v))) H1 → va_S A s.heap H1 locs1 → W p l e R s m args below meth c H1 locs1 cells slots Q (F0 m (pc + 1) ls (rest))) : W p l e R s m args below meth c H locs cells slots Q (F0 m (pc) ls (.ref v :: .int i :: .ref (ad 6) :: rest)) := by
  subst hev
  obtain ⟨L, h1, h2, h3⟩ := hP
  obtain ⟨q9, hq9⟩ := WL_in (cy := cy) (ad := ad) (κ := κ) (tag_in h3 hv (by decide))
  exact va_astq (r := (RX5, TX5, 8)) C.x C.b C.K h1 h2 hS 6 7 q9 7 (WL_s rfl) rfl (WL_at hq9 hv) rfl hin hdg (fun H1 locs1 p1 p2 p3 => kk H1 locs1 (CH.setS h3 (by decide) p1 p2 rfl rfl) p3)
theorem cw_st6n {f : Nat → Option Nat} (C : CC p s m args meth c cc maxL ret own nm D cy sz0 sa A) (hP : CH D cy ad A κ H) (hS : va_S A s.heap H locs) (hev : (κ.2.2.2.1 6) = f) {i : Int32} (hin : vp_in i 40) (hdg : decode cc pc = .ok (.aastore, 1)) (kk : ∀ (H1 : Heap) (locs1 : List Loc), CH D cy ad A (tQ κ 6 (va_up f i.toNatClampNeg none)) H1 → va_S A s.heap H1 locs1 → W p l e R s m args below meth c H1 locs1 cells slots Q (F0 m (pc + 1) ls (rest))) : W p l e R s m args below meth c H locs cells slots Q (F0 m (pc) ls (.null :: .int i :: .ref (ad 6) :: rest)) := by
  subst hev
  obtain ⟨L, h1, h2, h3⟩ := hP
  exact va_astqN (C := RX5) C.x C.b C.K h1 h2 hS 6 7 (WL_s rfl) rfl hin hdg (fun H1 locs1 p1 p2 p3 => kk H1 locs1 (CH.setS h3 (by decide) p1 p2 rfl rfl) p3)
theorem ca_7 {f : Nat → Option Nat} (C : CC p s m args meth c cc maxL ret own nm D cy sz0 sa A) (hP : CH D cy ad A κ H) (hev : (κ.2.2.2.1 7) = f) {i : Int32} (hin : vp_in i 5) (hdg : decode cc pc = .ok (.aaload, 1)) (kk : ∀ x : Option Nat, x = f i.toNatClampNeg → W p l e R s m args below meth c H locs cells slots Q (F0 m (pc + 1) ls (va_rf x :: rest))) : W p l e R s m args below meth c H locs cells slots Q (F0 m (pc) ls (.int i :: .ref (ad 7) :: rest)) := by
  subst hev
  obtain ⟨L, h1, h2, h3⟩ := hP
  exact va_aldq (C := RX1) C.x C.b C.K h1 7 8 (WL_s rfl) rfl hin hdg (kk _ rfl)
theorem cl_7 (C : CC p s m args meth c cc maxL ret own nm D cy sz0 sa A) (hP : CH D cy ad A κ H) (hdg : decode cc pc = .ok (.arraylength, 1)) (kk : W p l e R s m args below meth c H locs cells slots Q (F0 m (pc + 1) ls (.int 5 :: rest))) : W p l e R s m args below meth c H locs cells slots Q (F0 m (pc) ls (.ref (ad 7) :: rest)) := by
  obtain ⟨L, h1, h2, h3⟩ := hP
  exact va_alen C.x C.b C.K h1 7 8 (WL_s rfl) rfl (v := 5) rfl hdg kk
theorem cw_st7 {f : Nat → Option Nat} (C : CC p s m args meth c cc maxL ret own nm D cy sz0 sa A) (hP : CH D cy ad A κ H) (hS : va_S A s.heap H locs) (hev : (κ.2.2.2.1 7) = f) {i : Int32} {v : Nat} (hv : oT κ.2.2.2.2 v % 20 = 3) (hin : vp_in i 5) (hdg : decode cc pc = .ok (.aastore, 1)) (kk : ∀ (H1 : Heap) (locs1 : List Loc), CH D cy ad A (tQ κ 7 (va_up f i.toNatClampNeg (some v))) H1 → va_S A s.heap H1 locs1 → W p l e R s m args below meth c H1 locs1 cells slots Q (F0 m (pc + 1) ls (rest))) : W p l e R s m args below meth c H locs cells slots Q (F0 m (pc) ls (.ref v :: .int i :: .ref (ad 7) :: rest)) := by
  subst hev
  obtain ⟨L, h1, h2, h3⟩ := hP
  obtain ⟨q9, hq9⟩ := WL_in (cy := cy) (ad := ad) (κ := κ) (tag_in h3 hv (by decide))
  exact va_astq (r := (RX1, TX1, 7)) C.x C.b C.K h1 h2 hS 7 8 q9 3 (WL_s rfl) rfl (WL_at hq9 hv) rfl hin hdg (fun H1 locs1 p1 p2 p3 => kk H1 locs1 (CH.setS h3 (by decide) p1 p2 rfl rfl) p3)
theorem cw_st7n {f : Nat → Option Nat} (C : CC p s m args meth c cc maxL ret own nm D cy sz0 sa A) (hP : CH D cy ad A κ H) (hS : va_S A s.heap H locs) (hev : (κ.2.2.2.1 7) = f) {i : Int32} (hin : vp_in i 5) (hdg : decode cc pc = .ok (.aastore, 1)) (kk : ∀ (H1 : Heap) (locs1 : List Loc), CH D cy ad A (tQ κ 7 (va_up f i.toNatClampNeg none)) H1 → va_S A s.heap H1 locs1 → W p l e R s m args below meth c H1 locs1 cells slots Q (F0 m (pc + 1) ls (rest))) : W p l e R s m args below meth c H locs cells slots Q (F0 m (pc) ls (.null :: .int i :: .ref (ad 7) :: rest)) := by
  subst hev
  obtain ⟨L, h1, h2, h3⟩ := hP
  exact va_astqN (C := RX1) C.x C.b C.K h1 h2 hS 7 8 (WL_s rfl) rfl hin hdg (fun H1 locs1 p1 p2 p3 => kk H1 locs1 (CH.setS h3 (by decide) p1 p2 rfl rfl) p3)
theorem ca_8 {f : Nat → Option Nat} (C : CC p s m args meth c cc maxL ret own nm D cy sz0 sa A) (hP : CH D cy ad A κ H) (hev : (κ.2.2.2.1 8) = f) {i : Int32} (hin : vp_in i 30) (hdg : decode cc pc = .ok (.aaload, 1)) (kk : ∀ x : Option Nat, x = f i.toNatClampNeg → W p l e R s m args below meth c H locs cells slots Q (F0 m (pc + 1) ls (va_rf x :: rest))) : W p l e R s m args below meth c H locs cells slots Q (F0 m (pc) ls (.int i :: .ref (ad 8) :: rest)) := by
  subst hev
  obtain ⟨L, h1, h2, h3⟩ := hP
  exact va_aldq (C := RX10) C.x C.b C.K h1 8 6 (WL_s rfl) rfl hin hdg (kk _ rfl)
theorem cl_8 (C : CC p s m args meth c cc maxL ret own nm D cy sz0 sa A) (hP : CH D cy ad A κ H) (hdg : decode cc pc = .ok (.arraylength, 1)) (kk : W p l e R s m args below meth c H locs cells slots Q (F0 m (pc + 1) ls (.int 30 :: rest))) : W p l e R s m args below meth c H locs cells slots Q (F0 m (pc) ls (.ref (ad 8) :: rest)) := by
  obtain ⟨L, h1, h2, h3⟩ := hP
  exact va_alen C.x C.b C.K h1 8 6 (WL_s rfl) rfl (v := 30) rfl hdg kk
theorem cw_st8 {f : Nat → Option Nat} (C : CC p s m args meth c cc maxL ret own nm D cy sz0 sa A) (hP : CH D cy ad A κ H) (hS : va_S A s.heap H locs) (hev : (κ.2.2.2.1 8) = f) {i : Int32} {v : Nat} (hv : oT κ.2.2.2.2 v % 20 = 1) (hin : vp_in i 30) (hdg : decode cc pc = .ok (.aastore, 1)) (kk : ∀ (H1 : Heap) (locs1 : List Loc), CH D cy ad A (tQ κ 8 (va_up f i.toNatClampNeg (some v))) H1 → va_S A s.heap H1 locs1 → W p l e R s m args below meth c H1 locs1 cells slots Q (F0 m (pc + 1) ls (rest))) : W p l e R s m args below meth c H locs cells slots Q (F0 m (pc) ls (.ref v :: .int i :: .ref (ad 8) :: rest)) := by
  subst hev
  obtain ⟨L, h1, h2, h3⟩ := hP
  obtain ⟨q9, hq9⟩ := WL_in (cy := cy) (ad := ad) (κ := κ) (tag_in h3 hv (by decide))
  exact va_astq (r := (RX10, TX10, 5)) C.x C.b C.K h1 h2 hS 8 6 q9 12 (WL_s rfl) rfl (WL_at hq9 hv) rfl hin hdg (fun H1 locs1 p1 p2 p3 => kk H1 locs1 (CH.setS h3 (by decide) p1 p2 rfl rfl) p3)
theorem cw_st8n {f : Nat → Option Nat} (C : CC p s m args meth c cc maxL ret own nm D cy sz0 sa A) (hP : CH D cy ad A κ H) (hS : va_S A s.heap H locs) (hev : (κ.2.2.2.1 8) = f) {i : Int32} (hin : vp_in i 30) (hdg : decode cc pc = .ok (.aastore, 1)) (kk : ∀ (H1 : Heap) (locs1 : List Loc), CH D cy ad A (tQ κ 8 (va_up f i.toNatClampNeg none)) H1 → va_S A s.heap H1 locs1 → W p l e R s m args below meth c H1 locs1 cells slots Q (F0 m (pc + 1) ls (rest))) : W p l e R s m args below meth c H locs cells slots Q (F0 m (pc) ls (.null :: .int i :: .ref (ad 8) :: rest)) := by
  subst hev
  obtain ⟨L, h1, h2, h3⟩ := hP
  exact va_astqN (C := RX10) C.x C.b C.K h1 h2 hS 8 6 (WL_s rfl) rfl hin hdg (fun H1 locs1 p1 p2 p3 => kk H1 locs1 (CH.setS h3 (by decide) p1 p2 rfl rfl) p3)
theorem ca_9 {f : Nat → Int32} (C : CC p s m args meth c cc maxL ret own nm D cy sz0 sa A) (hP : CH D cy ad A κ H) (hev : (κ.2.2.1 9) = f) {i : Int32} (hin : vp_in i 40) (hdg : decode cc pc = .ok (.caload, 1)) (kk : ∀ x : Int32, x = f i.toNatClampNeg → W p l e R s m args below meth c H locs cells slots Q (F0 m (pc + 1) ls (.int x :: rest))) : W p l e R s m args below meth c H locs cells slots Q (F0 m (pc) ls (.int i :: .ref (ad 9) :: rest)) := by
  subst hev
  obtain ⟨L, h1, h2, h3⟩ := hP
  exact va_cald C.x C.b C.K h1 9 4 (WL_s rfl) rfl hin hdg (kk _ rfl)
theorem cl_9 (C : CC p s m args meth c cc maxL ret own nm D cy sz0 sa A) (hP : CH D cy ad A κ H) (hdg : decode cc pc = .ok (.arraylength, 1)) (kk : W p l e R s m args below meth c H locs cells slots Q (F0 m (pc + 1) ls (.int 40 :: rest))) : W p l e R s m args below meth c H locs cells slots Q (F0 m (pc) ls (.ref (ad 9) :: rest)) := by
  obtain ⟨L, h1, h2, h3⟩ := hP
  exact va_alen C.x C.b C.K h1 9 4 (WL_s rfl) rfl (v := 40) rfl hdg kk
theorem cw_st9 {f : Nat → Int32} (C : CC p s m args meth c cc maxL ret own nm D cy sz0 sa A) (hP : CH D cy ad A κ H) (hS : va_S A s.heap H locs) (hev : (κ.2.2.1 9) = f) {i v : Int32} (hv : vp_nar .char v = v) (hin : vp_in i 40) (hdg : decode cc pc = .ok (.castore, 1)) (kk : ∀ (H1 : Heap) (locs1 : List Loc), CH D cy ad A (tA κ 9 (upd f i.toNatClampNeg v)) H1 → va_S A s.heap H1 locs1 → W p l e R s m args below meth c H1 locs1 cells slots Q (F0 m (pc + 1) ls (rest))) : W p l e R s m args below meth c H locs cells slots Q (F0 m (pc) ls (.int v :: .int i :: .ref (ad 9) :: rest)) := by
  subst hev
  obtain ⟨L, h1, h2, h3⟩ := hP
  exact va_cast C.x C.b C.K h1 h2 hS 9 4 (WL_s rfl) rfl hin hdg (fun H1 locs1 p1 p2 p3 => kk H1 locs1 (by rw [hv] at p1 p2; exact CH.setS h3 (by decide) p1 p2 rfl rfl) p3)
theorem ca_10 {f : Nat → Int32} (C : CC p s m args meth c cc maxL ret own nm D cy sz0 sa A) (hP : CH D cy ad A κ H) (hev : (κ.2.2.1 10) = f) {i : Int32} (hin : vp_in i 41) (hdg : decode cc pc = .ok (.iaload, 1)) (kk : ∀ x : Int32, x = f i.toNatClampNeg → W p l e R s m args below meth c H locs cells slots Q (F0 m (pc + 1) ls (.int x :: rest))) : W p l e R s m args below meth c H locs cells slots Q (F0 m (pc) ls (.int i :: .ref (ad 10) :: rest)) := by
  subst hev
  obtain ⟨L, h1, h2, h3⟩ := hP
  exact va_iald C.x C.b C.K h1 10 0 (WL_s rfl) rfl hin hdg (kk _ rfl)
theorem cl_10 (C : CC p s m args meth c cc maxL ret own nm D cy sz0 sa A) (hP : CH D cy ad A κ H) (hdg : decode cc pc = .ok (.arraylength, 1)) (kk : W p l e R s m args below meth c H locs cells slots Q (F0 m (pc + 1) ls (.int 41 :: rest))) : W p l e R s m args below meth c H locs cells slots Q (F0 m (pc) ls (.ref (ad 10) :: rest)) := by
  obtain ⟨L, h1, h2, h3⟩ := hP
  exact va_alen C.x C.b C.K h1 10 0 (WL_s rfl) rfl (v := 41) rfl hdg kk
theorem cw_st10 {f : Nat → Int32} (C : CC p s m args meth c cc maxL ret own nm D cy sz0 sa A) (hP : CH D cy ad A κ H) (hS : va_S A s.heap H locs) (hev : (κ.2.2.1 10) = f) {i v : Int32} (hin : vp_in i 41) (hdg : decode cc pc = .ok (.iastore, 1)) (kk : ∀ (H1 : Heap) (locs1 : List Loc), CH D cy ad A (tA κ 10 (upd f i.toNatClampNeg v)) H1 → va_S A s.heap H1 locs1 → W p l e R s m args below meth c H1 locs1 cells slots Q (F0 m (pc + 1) ls (rest))) : W p l e R s m args below meth c H locs cells slots Q (F0 m (pc) ls (.int v :: .int i :: .ref (ad 10) :: rest)) := by
  subst hev
  obtain ⟨L, h1, h2, h3⟩ := hP
  exact va_iast C.x C.b C.K h1 h2 hS 10 0 (WL_s rfl) rfl hin hdg (fun H1 locs1 p1 p2 p3 => kk H1 locs1 (CH.setS h3 (by decide) p1 p2 rfl rfl) p3)
theorem ca_11 {f : Nat → Int32} (C : CC p s m args meth c cc maxL ret own nm D cy sz0 sa A) (hP : CH D cy ad A κ H) (hev : (κ.2.2.1 11) = f) {i : Int32} (hin : vp_in i 41) (hdg : decode cc pc = .ok (.iaload, 1)) (kk : ∀ x : Int32, x = f i.toNatClampNeg → W p l e R s m args below meth c H locs cells slots Q (F0 m (pc + 1) ls (.int x :: rest))) : W p l e R s m args below meth c H locs cells slots Q (F0 m (pc) ls (.int i :: .ref (ad 11) :: rest)) := by
  subst hev
  obtain ⟨L, h1, h2, h3⟩ := hP
  exact va_iald C.x C.b C.K h1 11 0 (WL_s rfl) rfl hin hdg (kk _ rfl)
theorem cl_11 (C : CC p s m args meth c cc maxL ret own nm D cy sz0 sa A) (hP : CH D cy ad A κ H) (hdg : decode cc pc = .ok (.arraylength, 1)) (kk : W p l e R s m args below meth c H locs cells slots Q (F0 m (pc + 1) ls (.int 41 :: rest))) : W p l e R s m args below meth c H locs cells slots Q (F0 m (pc) ls (.ref (ad 11) :: rest)) := by
  obtain ⟨L, h1, h2, h3⟩ := hP
  exact va_alen C.x C.b C.K h1 11 0 (WL_s rfl) rfl (v := 41) rfl hdg kk
theorem cw_st11 {f : Nat → Int32} (C : CC p s m args meth c cc maxL ret own nm D cy sz0 sa A) (hP : CH D cy ad A κ H) (hS : va_S A s.heap H locs) (hev : (κ.2.2.1 11) = f) {i v : Int32} (hin : vp_in i 41) (hdg : decode cc pc = .ok (.iastore, 1)) (kk : ∀ (H1 : Heap) (locs1 : List Loc), CH D cy ad A (tA κ 11 (upd f i.toNatClampNeg v)) H1 → va_S A s.heap H1 locs1 → W p l e R s m args below meth c H1 locs1 cells slots Q (F0 m (pc + 1) ls (rest))) : W p l e R s m args below meth c H locs cells slots Q (F0 m (pc) ls (.int v :: .int i :: .ref (ad 11) :: rest)) := by
  subst hev
  obtain ⟨L, h1, h2, h3⟩ := hP
  exact va_iast C.x C.b C.K h1 h2 hS 11 0 (WL_s rfl) rfl hin hdg (fun H1 locs1 p1 p2 p3 => kk H1 locs1 (CH.setS h3 (by decide) p1 p2 rfl rfl) p3)
theorem ca_12 {f : Nat → Int32} (C : CC p s m args meth c cc maxL ret own nm D cy sz0 sa A) (hP : CH D cy ad A κ H) (hev : (κ.2.2.1 12) = f) {i : Int32} (hin : vp_in i 41) (hdg : decode cc pc = .ok (.iaload, 1)) (kk : ∀ x : Int32, x = f i.toNatClampNeg → W p l e R s m args below meth c H locs cells slots Q (F0 m (pc + 1) ls (.int x :: rest))) : W p l e R s m args below meth c H locs cells slots Q (F0 m (pc) ls (.int i :: .ref (ad 12) :: rest)) := by
  subst hev
  obtain ⟨L, h1, h2, h3⟩ := hP
  exact va_iald C.x C.b C.K h1 12 0 (WL_s rfl) rfl hin hdg (kk _ rfl)
theorem cl_12 (C : CC p s m args meth c cc maxL ret own nm D cy sz0 sa A) (hP : CH D cy ad A κ H) (hdg : decode cc pc = .ok (.arraylength, 1)) (kk : W p l e R s m args below meth c H locs cells slots Q (F0 m (pc + 1) ls (.int 41 :: rest))) : W p l e R s m args below meth c H locs cells slots Q (F0 m (pc) ls (.ref (ad 12) :: rest)) := by
  obtain ⟨L, h1, h2, h3⟩ := hP
  exact va_alen C.x C.b C.K h1 12 0 (WL_s rfl) rfl (v := 41) rfl hdg kk
theorem cw_st12 {f : Nat → Int32} (C : CC p s m args meth c cc maxL ret own nm D cy sz0 sa A) (hP : CH D cy ad A κ H) (hS : va_S A s.heap H locs) (hev : (κ.2.2.1 12) = f) {i v : Int32} (hin : vp_in i 41) (hdg : decode cc pc = .ok (.iastore, 1)) (kk : ∀ (H1 : Heap) (locs1 : List Loc), CH D cy ad A (tA κ 12 (upd f i.toNatClampNeg v)) H1 → va_S A s.heap H1 locs1 → W p l e R s m args below meth c H1 locs1 cells slots Q (F0 m (pc + 1) ls (rest))) : W p l e R s m args below meth c H locs cells slots Q (F0 m (pc) ls (.int v :: .int i :: .ref (ad 12) :: rest)) := by
  subst hev
  obtain ⟨L, h1, h2, h3⟩ := hP
  exact va_iast C.x C.b C.K h1 h2 hS 12 0 (WL_s rfl) rfl hin hdg (fun H1 locs1 p1 p2 p3 => kk H1 locs1 (CH.setS h3 (by decide) p1 p2 rfl rfl) p3)
theorem ca_13 {f : Nat → Option Nat} (C : CC p s m args meth c cc maxL ret own nm D cy sz0 sa A) (hP : CH D cy ad A κ H) (hev : (κ.2.2.2.1 13) = f) {i : Int32} (hin : vp_in i 41) (hdg : decode cc pc = .ok (.aaload, 1)) (kk : ∀ x : Option Nat, x = f i.toNatClampNeg → W p l e R s m args below meth c H locs cells slots Q (F0 m (pc + 1) ls (va_rf x :: rest))) : W p l e R s m args below meth c H locs cells slots Q (F0 m (pc) ls (.int i :: .ref (ad 13) :: rest)) := by
  subst hev
  obtain ⟨L, h1, h2, h3⟩ := hP
  exact va_aldq (C := RX10) C.x C.b C.K h1 13 6 (WL_s rfl) rfl hin hdg (kk _ rfl)
theorem cl_13 (C : CC p s m args meth c cc maxL ret own nm D cy sz0 sa A) (hP : CH D cy ad A κ H) (hdg : decode cc pc = .ok (.arraylength, 1)) (kk : W p l e R s m args below meth c H locs cells slots Q (F0 m (pc + 1) ls (.int 41 :: rest))) : W p l e R s m args below meth c H locs cells slots Q (F0 m (pc) ls (.ref (ad 13) :: rest)) := by
  obtain ⟨L, h1, h2, h3⟩ := hP
  exact va_alen C.x C.b C.K h1 13 6 (WL_s rfl) rfl (v := 41) rfl hdg kk
theorem cw_st13 {f : Nat → Option Nat} (C : CC p s m args meth c cc maxL ret own nm D cy sz0 sa A) (hP : CH D cy ad A κ H) (hS : va_S A s.heap H locs) (hev : (κ.2.2.2.1 13) = f) {i : Int32} {v : Nat} (hv : oT κ.2.2.2.2 v % 20 = 1) (hin : vp_in i 41) (hdg : decode cc pc = .ok (.aastore, 1)) (kk : ∀ (H1 : Heap) (locs1 : List Loc), CH D cy ad A (tQ κ 13 (va_up f i.toNatClampNeg (some v))) H1 → va_S A s.heap H1 locs1 → W p l e R s m args below meth c H1 locs1 cells slots Q (F0 m (pc + 1) ls (rest))) : W p l e R s m args below meth c H locs cells slots Q (F0 m (pc) ls (.ref v :: .int i :: .ref (ad 13) :: rest)) := by
  subst hev
  obtain ⟨L, h1, h2, h3⟩ := hP
  obtain ⟨q9, hq9⟩ := WL_in (cy := cy) (ad := ad) (κ := κ) (tag_in h3 hv (by decide))
  exact va_astq (r := (RX10, TX10, 5)) C.x C.b C.K h1 h2 hS 13 6 q9 12 (WL_s rfl) rfl (WL_at hq9 hv) rfl hin hdg (fun H1 locs1 p1 p2 p3 => kk H1 locs1 (CH.setS h3 (by decide) p1 p2 rfl rfl) p3)
theorem cw_st13n {f : Nat → Option Nat} (C : CC p s m args meth c cc maxL ret own nm D cy sz0 sa A) (hP : CH D cy ad A κ H) (hS : va_S A s.heap H locs) (hev : (κ.2.2.2.1 13) = f) {i : Int32} (hin : vp_in i 41) (hdg : decode cc pc = .ok (.aastore, 1)) (kk : ∀ (H1 : Heap) (locs1 : List Loc), CH D cy ad A (tQ κ 13 (va_up f i.toNatClampNeg none)) H1 → va_S A s.heap H1 locs1 → W p l e R s m args below meth c H1 locs1 cells slots Q (F0 m (pc + 1) ls (rest))) : W p l e R s m args below meth c H locs cells slots Q (F0 m (pc) ls (.null :: .int i :: .ref (ad 13) :: rest)) := by
  subst hev
  obtain ⟨L, h1, h2, h3⟩ := hP
  exact va_astqN (C := RX10) C.x C.b C.K h1 h2 hS 13 6 (WL_s rfl) rfl hin hdg (fun H1 locs1 p1 p2 p3 => kk H1 locs1 (CH.setS h3 (by decide) p1 p2 rfl rfl) p3)
theorem ca_14 {f : Nat → Int32} (C : CC p s m args meth c cc maxL ret own nm D cy sz0 sa A) (hP : CH D cy ad A κ H) (hev : (κ.2.2.1 14) = f) {i : Int32} (hin : vp_in i 65) (hdg : decode cc pc = .ok (.baload, 1)) (kk : ∀ x : Int32, x = f i.toNatClampNeg → W p l e R s m args below meth c H locs cells slots Q (F0 m (pc + 1) ls (.int x :: rest))) : W p l e R s m args below meth c H locs cells slots Q (F0 m (pc) ls (.int i :: .ref (ad 14) :: rest)) := by
  subst hev
  obtain ⟨L, h1, h2, h3⟩ := hP
  exact va_zald C.x C.b C.K h1 14 2 (WL_s rfl) rfl hin hdg (kk _ rfl)
theorem cl_14 (C : CC p s m args meth c cc maxL ret own nm D cy sz0 sa A) (hP : CH D cy ad A κ H) (hdg : decode cc pc = .ok (.arraylength, 1)) (kk : W p l e R s m args below meth c H locs cells slots Q (F0 m (pc + 1) ls (.int 65 :: rest))) : W p l e R s m args below meth c H locs cells slots Q (F0 m (pc) ls (.ref (ad 14) :: rest)) := by
  obtain ⟨L, h1, h2, h3⟩ := hP
  exact va_alen C.x C.b C.K h1 14 2 (WL_s rfl) rfl (v := 65) rfl hdg kk
theorem cw_st14 {f : Nat → Int32} (C : CC p s m args meth c cc maxL ret own nm D cy sz0 sa A) (hP : CH D cy ad A κ H) (hS : va_S A s.heap H locs) (hev : (κ.2.2.1 14) = f) {i v : Int32} (hv : vp_nar .boolean v = v) (hin : vp_in i 65) (hdg : decode cc pc = .ok (.bastore, 1)) (kk : ∀ (H1 : Heap) (locs1 : List Loc), CH D cy ad A (tA κ 14 (upd f i.toNatClampNeg v)) H1 → va_S A s.heap H1 locs1 → W p l e R s m args below meth c H1 locs1 cells slots Q (F0 m (pc + 1) ls (rest))) : W p l e R s m args below meth c H locs cells slots Q (F0 m (pc) ls (.int v :: .int i :: .ref (ad 14) :: rest)) := by
  subst hev
  obtain ⟨L, h1, h2, h3⟩ := hP
  exact va_zast C.x C.b C.K h1 h2 hS 14 2 (WL_s rfl) rfl hin hdg (fun H1 locs1 p1 p2 p3 => kk H1 locs1 (by rw [hv] at p1 p2; exact CH.setS h3 (by decide) p1 p2 rfl rfl) p3)
theorem ca_15 {f : Nat → Option Nat} (C : CC p s m args meth c cc maxL ret own nm D cy sz0 sa A) (hP : CH D cy ad A κ H) (hev : (κ.2.2.2.1 15) = f) {i : Int32} (hin : vp_in i 30) (hdg : decode cc pc = .ok (.aaload, 1)) (kk : ∀ x : Option Nat, x = f i.toNatClampNeg → W p l e R s m args below meth c H locs cells slots Q (F0 m (pc + 1) ls (va_rf x :: rest))) : W p l e R s m args below meth c H locs cells slots Q (F0 m (pc) ls (.int i :: .ref (ad 15) :: rest)) := by
  subst hev
  obtain ⟨L, h1, h2, h3⟩ := hP
  exact va_aldq (C := RX7) C.x C.b C.K h1 15 9 (WL_s rfl) rfl hin hdg (kk _ rfl)
theorem cl_15 (C : CC p s m args meth c cc maxL ret own nm D cy sz0 sa A) (hP : CH D cy ad A κ H) (hdg : decode cc pc = .ok (.arraylength, 1)) (kk : W p l e R s m args below meth c H locs cells slots Q (F0 m (pc + 1) ls (.int 30 :: rest))) : W p l e R s m args below meth c H locs cells slots Q (F0 m (pc) ls (.ref (ad 15) :: rest)) := by
  obtain ⟨L, h1, h2, h3⟩ := hP
  exact va_alen C.x C.b C.K h1 15 9 (WL_s rfl) rfl (v := 30) rfl hdg kk
theorem cw_st15 {f : Nat → Option Nat} (C : CC p s m args meth c cc maxL ret own nm D cy sz0 sa A) (hP : CH D cy ad A κ H) (hS : va_S A s.heap H locs) (hev : (κ.2.2.2.1 15) = f) {i : Int32} {v : Nat} (hv : oT κ.2.2.2.2 v % 20 = 5) (hin : vp_in i 30) (hdg : decode cc pc = .ok (.aastore, 1)) (kk : ∀ (H1 : Heap) (locs1 : List Loc), CH D cy ad A (tQ κ 15 (va_up f i.toNatClampNeg (some v))) H1 → va_S A s.heap H1 locs1 → W p l e R s m args below meth c H1 locs1 cells slots Q (F0 m (pc + 1) ls (rest))) : W p l e R s m args below meth c H locs cells slots Q (F0 m (pc) ls (.ref v :: .int i :: .ref (ad 15) :: rest)) := by
  subst hev
  obtain ⟨L, h1, h2, h3⟩ := hP
  obtain ⟨q9, hq9⟩ := WL_in (cy := cy) (ad := ad) (κ := κ) (tag_in h3 hv (by decide))
  exact va_astq (r := (RX7, TX7, 6)) C.x C.b C.K h1 h2 hS 15 9 q9 9 (WL_s rfl) rfl (WL_at hq9 hv) rfl hin hdg (fun H1 locs1 p1 p2 p3 => kk H1 locs1 (CH.setS h3 (by decide) p1 p2 rfl rfl) p3)
theorem cw_st15n {f : Nat → Option Nat} (C : CC p s m args meth c cc maxL ret own nm D cy sz0 sa A) (hP : CH D cy ad A κ H) (hS : va_S A s.heap H locs) (hev : (κ.2.2.2.1 15) = f) {i : Int32} (hin : vp_in i 30) (hdg : decode cc pc = .ok (.aastore, 1)) (kk : ∀ (H1 : Heap) (locs1 : List Loc), CH D cy ad A (tQ κ 15 (va_up f i.toNatClampNeg none)) H1 → va_S A s.heap H1 locs1 → W p l e R s m args below meth c H1 locs1 cells slots Q (F0 m (pc + 1) ls (rest))) : W p l e R s m args below meth c H locs cells slots Q (F0 m (pc) ls (.null :: .int i :: .ref (ad 15) :: rest)) := by
  subst hev
  obtain ⟨L, h1, h2, h3⟩ := hP
  exact va_astqN (C := RX7) C.x C.b C.K h1 h2 hS 15 9 (WL_s rfl) rfl hin hdg (fun H1 locs1 p1 p2 p3 => kk H1 locs1 (CH.setS h3 (by decide) p1 p2 rfl rfl) p3)
theorem ca_16 {f : Nat → Int32} (C : CC p s m args meth c cc maxL ret own nm D cy sz0 sa A) (hP : CH D cy ad A κ H) (hev : (κ.2.2.1 16) = f) {i : Int32} (hin : vp_in i 12) (hdg : decode cc pc = .ok (.iaload, 1)) (kk : ∀ x : Int32, x = f i.toNatClampNeg → W p l e R s m args below meth c H locs cells slots Q (F0 m (pc + 1) ls (.int x :: rest))) : W p l e R s m args below meth c H locs cells slots Q (F0 m (pc) ls (.int i :: .ref (ad 16) :: rest)) := by
  subst hev
  obtain ⟨L, h1, h2, h3⟩ := hP
  exact va_iald C.x C.b C.K h1 16 0 (WL_s rfl) rfl hin hdg (kk _ rfl)
theorem cl_16 (C : CC p s m args meth c cc maxL ret own nm D cy sz0 sa A) (hP : CH D cy ad A κ H) (hdg : decode cc pc = .ok (.arraylength, 1)) (kk : W p l e R s m args below meth c H locs cells slots Q (F0 m (pc + 1) ls (.int 12 :: rest))) : W p l e R s m args below meth c H locs cells slots Q (F0 m (pc) ls (.ref (ad 16) :: rest)) := by
  obtain ⟨L, h1, h2, h3⟩ := hP
  exact va_alen C.x C.b C.K h1 16 0 (WL_s rfl) rfl (v := 12) rfl hdg kk
theorem cw_st16 {f : Nat → Int32} (C : CC p s m args meth c cc maxL ret own nm D cy sz0 sa A) (hP : CH D cy ad A κ H) (hS : va_S A s.heap H locs) (hev : (κ.2.2.1 16) = f) {i v : Int32} (hin : vp_in i 12) (hdg : decode cc pc = .ok (.iastore, 1)) (kk : ∀ (H1 : Heap) (locs1 : List Loc), CH D cy ad A (tA κ 16 (upd f i.toNatClampNeg v)) H1 → va_S A s.heap H1 locs1 → W p l e R s m args below meth c H1 locs1 cells slots Q (F0 m (pc + 1) ls (rest))) : W p l e R s m args below meth c H locs cells slots Q (F0 m (pc) ls (.int v :: .int i :: .ref (ad 16) :: rest)) := by
  subst hev
  obtain ⟨L, h1, h2, h3⟩ := hP
  exact va_iast C.x C.b C.K h1 h2 hS 16 0 (WL_s rfl) rfl hin hdg (fun H1 locs1 p1 p2 p3 => kk H1 locs1 (CH.setS h3 (by decide) p1 p2 rfl rfl) p3)
theorem ca_17 {f : Nat → Option Nat} (C : CC p s m args meth c cc maxL ret own nm D cy sz0 sa A) (hP : CH D cy ad A κ H) (hev : (κ.2.2.2.1 17) = f) {i : Int32} (hin : vp_in i 12) (hdg : decode cc pc = .ok (.aaload, 1)) (kk : ∀ x : Option Nat, x = f i.toNatClampNeg → W p l e R s m args below meth c H locs cells slots Q (F0 m (pc + 1) ls (va_rf x :: rest))) : W p l e R s m args below meth c H locs cells slots Q (F0 m (pc) ls (.int i :: .ref (ad 17) :: rest)) := by
  subst hev
  obtain ⟨L, h1, h2, h3⟩ := hP
  exact va_aldq (C := RX10) C.x C.b C.K h1 17 6 (WL_s rfl) rfl hin hdg (kk _ rfl)
theorem cl_17 (C : CC p s m args meth c cc maxL ret own nm D cy sz0 sa A) (hP : CH D cy ad A κ H) (hdg : decode cc pc = .ok (.arraylength, 1)) (kk : W p l e R s m args below meth c H locs cells slots Q (F0 m (pc + 1) ls (.int 12 :: rest))) : W p l e R s m args below meth c H locs cells slots Q (F0 m (pc) ls (.ref (ad 17) :: rest)) := by
  obtain ⟨L, h1, h2, h3⟩ := hP
  exact va_alen C.x C.b C.K h1 17 6 (WL_s rfl) rfl (v := 12) rfl hdg kk
theorem cw_st17 {f : Nat → Option Nat} (C : CC p s m args meth c cc maxL ret own nm D cy sz0 sa A) (hP : CH D cy ad A κ H) (hS : va_S A s.heap H locs) (hev : (κ.2.2.2.1 17) = f) {i : Int32} {v : Nat} (hv : oT κ.2.2.2.2 v % 20 = 1) (hin : vp_in i 12) (hdg : decode cc pc = .ok (.aastore, 1)) (kk : ∀ (H1 : Heap) (locs1 : List Loc), CH D cy ad A (tQ κ 17 (va_up f i.toNatClampNeg (some v))) H1 → va_S A s.heap H1 locs1 → W p l e R s m args below meth c H1 locs1 cells slots Q (F0 m (pc + 1) ls (rest))) : W p l e R s m args below meth c H locs cells slots Q (F0 m (pc) ls (.ref v :: .int i :: .ref (ad 17) :: rest)) := by
  subst hev
  obtain ⟨L, h1, h2, h3⟩ := hP
  obtain ⟨q9, hq9⟩ := WL_in (cy := cy) (ad := ad) (κ := κ) (tag_in h3 hv (by decide))
  exact va_astq (r := (RX10, TX10, 5)) C.x C.b C.K h1 h2 hS 17 6 q9 12 (WL_s rfl) rfl (WL_at hq9 hv) rfl hin hdg (fun H1 locs1 p1 p2 p3 => kk H1 locs1 (CH.setS h3 (by decide) p1 p2 rfl rfl) p3)
theorem cw_st17n {f : Nat → Option Nat} (C : CC p s m args meth c cc maxL ret own nm D cy sz0 sa A) (hP : CH D cy ad A κ H) (hS : va_S A s.heap H locs) (hev : (κ.2.2.2.1 17) = f) {i : Int32} (hin : vp_in i 12) (hdg : decode cc pc = .ok (.aastore, 1)) (kk : ∀ (H1 : Heap) (locs1 : List Loc), CH D cy ad A (tQ κ 17 (va_up f i.toNatClampNeg none)) H1 → va_S A s.heap H1 locs1 → W p l e R s m args below meth c H1 locs1 cells slots Q (F0 m (pc + 1) ls (rest))) : W p l e R s m args below meth c H locs cells slots Q (F0 m (pc) ls (.null :: .int i :: .ref (ad 17) :: rest)) := by
  subst hev
  obtain ⟨L, h1, h2, h3⟩ := hP
  exact va_astqN (C := RX10) C.x C.b C.K h1 h2 hS 17 6 (WL_s rfl) rfl hin hdg (fun H1 locs1 p1 p2 p3 => kk H1 locs1 (CH.setS h3 (by decide) p1 p2 rfl rfl) p3)
theorem pa_9 {f : Nat → Option Nat} (C : CC p s m args meth c cc maxL ret own nm D cy sz0 sa A) (hP : CH D cy ad A κ H) {a : Nat} (ht : oT κ.2.2.2.2 a % 20 = 9) (hev : oA κ.2.2.2.2 a = f) {i : Int32} (hin : vp_in i 30) (hdg : decode cc pc = .ok (.aaload, 1)) (kk : ∀ x : Option Nat, x = f i.toNatClampNeg → W p l e R s m args below meth c H locs cells slots Q (F0 m (pc + 1) ls (va_rf x :: rest))) : W p l e R s m args below meth c H locs cells slots Q (F0 m (pc) ls (.int i :: .ref a :: rest)) := by
  subst hev
  obtain ⟨L, h1, h2, h3⟩ := hP
  obtain ⟨q0, hq⟩ := WL_in (cy := cy) (ad := ad) (κ := κ) (tag_in h3 ht (by decide))
  exact va_aldq (C := RX10) C.x C.b C.K h1 q0 6 (WL_at hq ht) rfl hin hdg (kk _ rfl)
theorem pl_9 (C : CC p s m args meth c cc maxL ret own nm D cy sz0 sa A) (hP : CH D cy ad A κ H) {a : Nat} (ht : oT κ.2.2.2.2 a % 20 = 9) (hdg : decode cc pc = .ok (.arraylength, 1)) (kk : W p l e R s m args below meth c H locs cells slots Q (F0 m (pc + 1) ls (.int 30 :: rest))) : W p l e R s m args below meth c H locs cells slots Q (F0 m (pc) ls (.ref a :: rest)) := by
  obtain ⟨L, h1, h2, h3⟩ := hP
  obtain ⟨q0, hq⟩ := WL_in (cy := cy) (ad := ad) (κ := κ) (tag_in h3 ht (by decide))
  exact va_alen C.x C.b C.K h1 q0 6 (WL_at hq ht) rfl (v := 30) rfl hdg kk
theorem pw_9 {f : Nat → Option Nat} (C : CC p s m args meth c cc maxL ret own nm D cy sz0 sa A) (hP : CH D cy ad A κ H) (hS : va_S A s.heap H locs) {a : Nat} (ht : oT κ.2.2.2.2 a % 20 = 9) (hev : oA κ.2.2.2.2 a = f) {i : Int32} {v : Nat} (hv : oT κ.2.2.2.2 v % 20 = 1) (hin : vp_in i 30) (hdg : decode cc pc = .ok (.aastore, 1)) (kk : ∀ (H1 : Heap) (locs1 : List Loc), CH D cy ad A (tP κ (sA κ.2.2.2.2 a (va_up f i.toNatClampNeg (some v)))) H1 → va_S A s.heap H1 locs1 → W p l e R s m args below meth c H1 locs1 cells slots Q (F0 m (pc + 1) ls (rest))) : W p l e R s m args below meth c H locs cells slots Q (F0 m (pc) ls (.ref v :: .int i :: .ref a :: rest)) := by
  subst hev
  obtain ⟨L, h1, h2, h3⟩ := hP
  have hin9 := tag_in h3 ht (by decide)
  obtain ⟨q0, hq⟩ := WL_in (cy := cy) (ad := ad) (κ := κ) (tag_in h3 ht (by decide))
  obtain ⟨q9, hq9⟩ := WL_in (cy := cy) (ad := ad) (κ := κ) (tag_in h3 hv (by decide))
  exact va_astq (r := (RX10, TX10, 5)) C.x C.b C.K h1 h2 hS q0 6 q9 12 (WL_at hq ht) rfl (WL_at hq9 hv) rfl hin hdg (fun H1 locs1 p1 p2 p3 => kk H1 locs1 (CH.setP h2 h3 hin9 hq p1 p2 rfl (fun b => rfl) (hc_of (P' := (sA κ.2.2.2.2 a (va_up (oA κ.2.2.2.2 a) i.toNatClampNeg (some v)))) ht (fun b => rfl) (by unfold cofT; simp only []; rw [show oA (sA κ.2.2.2.2 a (va_up (oA κ.2.2.2.2 a) i.toNatClampNeg (some v))) a = _ from vu_eq]) (fun b e t => cofT_ne (P := κ.2.2.2.2) (P' := (sA κ.2.2.2.2 a (va_up (oA κ.2.2.2.2 a) i.toNatClampNeg (some v)))) (fun j => rfl) (fun j => rfl) rfl (vu_ne e) rfl rfl t))) p3)
theorem pa_10 {f : Nat → Option Nat} (C : CC p s m args meth c cc maxL ret own nm D cy sz0 sa A) (hP : CH D cy ad A κ H) {a : Nat} (ht : oT κ.2.2.2.2 a % 20 = 10) (hev : oA κ.2.2.2.2 a = f) {i : Int32} (hin : vp_in i 6) (hdg : decode cc pc = .ok (.aaload, 1)) (kk : ∀ x : Option Nat, x = f i.toNatClampNeg → W p l e R s m args below meth c H locs cells slots Q (F0 m (pc + 1) ls (va_rf x :: rest))) : W p l e R s m args below meth c H locs cells slots Q (F0 m (pc) ls (.int i :: .ref a :: rest)) := by
  subst hev
  obtain ⟨L, h1, h2, h3⟩ := hP
  obtain ⟨q0, hq⟩ := WL_in (cy := cy) (ad := ad) (κ := κ) (tag_in h3 ht (by decide))
  exact va_aldq (C := RX2) C.x C.b C.K h1 q0 10 (WL_at hq ht) rfl hin hdg (kk _ rfl)
theorem pl_10 (C : CC p s m args meth c cc maxL ret own nm D cy sz0 sa A) (hP : CH D cy ad A κ H) {a : Nat} (ht : oT κ.2.2.2.2 a % 20 = 10) (hdg : decode cc pc = .ok (.arraylength, 1)) (kk : W p l e R s m args below meth c H locs cells slots Q (F0 m (pc + 1) ls (.int 6 :: rest))) : W p l e R s m args below meth c H locs cells slots Q (F0 m (pc) ls (.ref a :: rest)) := by
  obtain ⟨L, h1, h2, h3⟩ := hP
  obtain ⟨q0, hq⟩ := WL_in (cy := cy) (ad := ad) (κ := κ) (tag_in h3 ht (by decide))
  exact va_alen C.x C.b C.K h1 q0 10 (WL_at hq ht) rfl (v := 6) rfl hdg kk
theorem pw_10 {f : Nat → Option Nat} (C : CC p s m args meth c cc maxL ret own nm D cy sz0 sa A) (hP : CH D cy ad A κ H) (hS : va_S A s.heap H locs) {a : Nat} (ht : oT κ.2.2.2.2 a % 20 = 10) (hev : oA κ.2.2.2.2 a = f) {i : Int32} {v : Nat} (hv : oT κ.2.2.2.2 v % 20 = 4) (hin : vp_in i 6) (hdg : decode cc pc = .ok (.aastore, 1)) (kk : ∀ (H1 : Heap) (locs1 : List Loc), CH D cy ad A (tP κ (sA κ.2.2.2.2 a (va_up f i.toNatClampNeg (some v)))) H1 → va_S A s.heap H1 locs1 → W p l e R s m args below meth c H1 locs1 cells slots Q (F0 m (pc + 1) ls (rest))) : W p l e R s m args below meth c H locs cells slots Q (F0 m (pc) ls (.ref v :: .int i :: .ref a :: rest)) := by
  subst hev
  obtain ⟨L, h1, h2, h3⟩ := hP
  have hin9 := tag_in h3 ht (by decide)
  obtain ⟨q0, hq⟩ := WL_in (cy := cy) (ad := ad) (κ := κ) (tag_in h3 ht (by decide))
  obtain ⟨q9, hq9⟩ := WL_in (cy := cy) (ad := ad) (κ := κ) (tag_in h3 hv (by decide))
  exact va_astq (r := (RX2, TX2, 3)) C.x C.b C.K h1 h2 hS q0 10 q9 4 (WL_at hq ht) rfl (WL_at hq9 hv) rfl hin hdg (fun H1 locs1 p1 p2 p3 => kk H1 locs1 (CH.setP h2 h3 hin9 hq p1 p2 rfl (fun b => rfl) (hc_of (P' := (sA κ.2.2.2.2 a (va_up (oA κ.2.2.2.2 a) i.toNatClampNeg (some v)))) ht (fun b => rfl) (by unfold cofT; simp only []; rw [show oA (sA κ.2.2.2.2 a (va_up (oA κ.2.2.2.2 a) i.toNatClampNeg (some v))) a = _ from vu_eq]) (fun b e t => cofT_ne (P := κ.2.2.2.2) (P' := (sA κ.2.2.2.2 a (va_up (oA κ.2.2.2.2 a) i.toNatClampNeg (some v)))) (fun j => rfl) (fun j => rfl) rfl (vu_ne e) rfl rfl t))) p3)
theorem pa_11 {f : Nat → Option Nat} (C : CC p s m args meth c cc maxL ret own nm D cy sz0 sa A) (hP : CH D cy ad A κ H) {a : Nat} (ht : oT κ.2.2.2.2 a % 20 = 11) (hev : oA κ.2.2.2.2 a = f) {i : Int32} (hin : vp_in i 6) (hdg : decode cc pc = .ok (.aaload, 1)) (kk : ∀ x : Option Nat, x = f i.toNatClampNeg → W p l e R s m args below meth c H locs cells slots Q (F0 m (pc + 1) ls (va_rf x :: rest))) : W p l e R s m args below meth c H locs cells slots Q (F0 m (pc) ls (.int i :: .ref a :: rest)) := by
  subst hev
  obtain ⟨L, h1, h2, h3⟩ := hP
  obtain ⟨q0, hq⟩ := WL_in (cy := cy) (ad := ad) (κ := κ) (tag_in h3 ht (by decide))
  exact va_aldq (C := RX7) C.x C.b C.K h1 q0 9 (WL_at hq ht) rfl hin hdg (kk _ rfl)
theorem pl_11 (C : CC p s m args meth c cc maxL ret own nm D cy sz0 sa A) (hP : CH D cy ad A κ H) {a : Nat} (ht : oT κ.2.2.2.2 a % 20 = 11) (hdg : decode cc pc = .ok (.arraylength, 1)) (kk : W p l e R s m args below meth c H locs cells slots Q (F0 m (pc + 1) ls (.int 6 :: rest))) : W p l e R s m args below meth c H locs cells slots Q (F0 m (pc) ls (.ref a :: rest)) := by
  obtain ⟨L, h1, h2, h3⟩ := hP
  obtain ⟨q0, hq⟩ := WL_in (cy := cy) (ad := ad) (κ := κ) (tag_in h3 ht (by decide))
  exact va_alen C.x C.b C.K h1 q0 9 (WL_at hq ht) rfl (v := 6) rfl hdg kk
theorem pw_11 {f : Nat → Option Nat} (C : CC p s m args meth c cc maxL ret own nm D cy sz0 sa A) (hP : CH D cy ad A κ H) (hS : va_S A s.heap H locs) {a : Nat} (ht : oT κ.2.2.2.2 a % 20 = 11) (hev : oA κ.2.2.2.2 a = f) {i : Int32} {v : Nat} (hv : oT κ.2.2.2.2 v % 20 = 5) (hin : vp_in i 6) (hdg : decode cc pc = .ok (.aastore, 1)) (kk : ∀ (H1 : Heap) (locs1 : List Loc), CH D cy ad A (tP κ (sA κ.2.2.2.2 a (va_up f i.toNatClampNeg (some v)))) H1 → va_S A s.heap H1 locs1 → W p l e R s m args below meth c H1 locs1 cells slots Q (F0 m (pc + 1) ls (rest))) : W p l e R s m args below meth c H locs cells slots Q (F0 m (pc) ls (.ref v :: .int i :: .ref a :: rest)) := by
  subst hev
  obtain ⟨L, h1, h2, h3⟩ := hP
  have hin9 := tag_in h3 ht (by decide)
  obtain ⟨q0, hq⟩ := WL_in (cy := cy) (ad := ad) (κ := κ) (tag_in h3 ht (by decide))
  obtain ⟨q9, hq9⟩ := WL_in (cy := cy) (ad := ad) (κ := κ) (tag_in h3 hv (by decide))
  exact va_astq (r := (RX7, TX7, 6)) C.x C.b C.K h1 h2 hS q0 9 q9 9 (WL_at hq ht) rfl (WL_at hq9 hv) rfl hin hdg (fun H1 locs1 p1 p2 p3 => kk H1 locs1 (CH.setP h2 h3 hin9 hq p1 p2 rfl (fun b => rfl) (hc_of (P' := (sA κ.2.2.2.2 a (va_up (oA κ.2.2.2.2 a) i.toNatClampNeg (some v)))) ht (fun b => rfl) (by unfold cofT; simp only []; rw [show oA (sA κ.2.2.2.2 a (va_up (oA κ.2.2.2.2 a) i.toNatClampNeg (some v))) a = _ from vu_eq]) (fun b e t => cofT_ne (P := κ.2.2.2.2) (P' := (sA κ.2.2.2.2 a (va_up (oA κ.2.2.2.2 a) i.toNatClampNeg (some v)))) (fun j => rfl) (fun j => rfl) rfl (vu_ne e) rfl rfl t))) p3)
theorem pa_8 (C : CC p s m args meth c cc maxL ret own nm D cy sz0 sa A) (hP : CH D cy ad A κ H) {a : Nat} (ht : oT κ.2.2.2.2 a % 20 = 8) {i : Int32} {n : Nat} (hn : oL κ.2.2.2.2 a = n) (hin : vp_in i n) (hdg : decode cc pc = .ok (.baload, 1)) (kk : ∀ x : Int32, x = oB κ.2.2.2.2 a i.toNatClampNeg → W p l e R s m args below meth c H locs cells slots Q (F0 m (pc + 1) ls (.int x :: rest))) : W p l e R s m args below meth c H locs cells slots Q (F0 m (pc) ls (.int i :: .ref a :: rest)) := by
  subst hn
  obtain ⟨L, h1, h2, h3⟩ := hP
  obtain ⟨q0, hq⟩ := WL_in (cy := cy) (ad := ad) (κ := κ) (tag_in h3 ht (by decide))
  exact va_bald C.x C.b C.K h1 q0 5 (WL_at hq ht) rfl hin hdg (kk _ rfl)
theorem pl_8 (C : CC p s m args meth c cc maxL ret own nm D cy sz0 sa A) (hP : CH D cy ad A κ H) {a : Nat} (ht : oT κ.2.2.2.2 a % 20 = 8) {n : Nat} (hn : oL κ.2.2.2.2 a = n) (hdg : decode cc pc = .ok (.arraylength, 1)) (kk : ∀ x : Int32, x = Int32.ofNat n → W p l e R s m args below meth c H locs cells slots Q (F0 m (pc + 1) ls (.int x :: rest))) : W p l e R s m args below meth c H locs cells slots Q (F0 m (pc) ls (.ref a :: rest)) := by
  subst hn
  obtain ⟨L, h1, h2, h3⟩ := hP
  obtain ⟨q0, hq⟩ := WL_in (cy := cy) (ad := ad) (κ := κ) (tag_in h3 ht (by decide))
  exact va_alen C.x C.b C.K h1 q0 5 (WL_at hq ht) rfl rfl hdg (kk _ rfl)
theorem pw_8 (C : CC p s m args meth c cc maxL ret own nm D cy sz0 sa A) (hP : CH D cy ad A κ H) (hS : va_S A s.heap H locs) {a : Nat} (ht : oT κ.2.2.2.2 a % 20 = 8) {i v : Int32} {n : Nat} (hn : oL κ.2.2.2.2 a = n) (hin : vp_in i n) (hdg : decode cc pc = .ok (.bastore, 1)) (kk : ∀ (H1 : Heap) (locs1 : List Loc), CH D cy ad A (tP κ (sB κ.2.2.2.2 a (upd (oB κ.2.2.2.2 a) i.toNatClampNeg (vp_nar .byte v)))) H1 → va_S A s.heap H1 locs1 → W p l e R s m args below meth c H1 locs1 cells slots Q (F0 m (pc + 1) ls (rest))) : W p l e R s m args below meth c H locs cells slots Q (F0 m (pc) ls (.int v :: .int i :: .ref a :: rest)) := by
  subst hn
  obtain ⟨L, h1, h2, h3⟩ := hP
  have hin9 := tag_in h3 ht (by decide)
  obtain ⟨q0, hq⟩ := WL_in (cy := cy) (ad := ad) (κ := κ) (tag_in h3 ht (by decide))
  exact va_bast C.x C.b C.K h1 h2 hS q0 5 (WL_at hq ht) rfl hin hdg (fun H1 locs1 p1 p2 p3 => kk H1 locs1 (CH.setP h2 h3 hin9 hq p1 p2 rfl (fun b => rfl) (hc_of (P' := (sB κ.2.2.2.2 a (upd (oB κ.2.2.2.2 a) i.toNatClampNeg (vp_nar .byte v)))) ht (fun b => rfl) (by unfold cofT; simp only []; rw [show oB (sB κ.2.2.2.2 a (upd (oB κ.2.2.2.2 a) i.toNatClampNeg (vp_nar .byte v))) a = _ from vu_eq]; rfl) (fun b e t => cofT_ne (P := κ.2.2.2.2) (P' := (sB κ.2.2.2.2 a (upd (oB κ.2.2.2.2 a) i.toNatClampNeg (vp_nar .byte v)))) (fun j => rfl) (fun j => rfl) rfl rfl (vu_ne e) rfl t))) p3)
theorem cn_X10 (C : CC p s m args meth c cc maxL ret own nm D cy sz0 sa A) (hP : CH D cy ad A κ H) (hS : va_S A s.heap H locs) {idx : Nat} (hcl : Cond.classLink own idx RX10 ∈ GWc) (hin : Cond.instantiable RX10 5 ∈ GWc) (hini : Cond.initialized RX10 ∈ GWc) (hcR : cells + 1 ≤ R.cells ∧ slots + 5 ≤ R.slots) (hdg : decode cc pc = .ok (.new idx, 3)) (kk : ∀ (q : Nat) (H1 : Heap), oT κ.2.2.2.2 q = 0 → CH D cy ad A (tP κ (newP κ.2.2.2.2 q 21)) H1 → va_S A s.heap H1 locs → W p l e R s m args below meth c H1 locs (cells + 1) (slots + 5) Q (F0 m (pc + 3) ls (.ref q :: rest))) : W p l e R s m args below meth c H locs cells slots Q (F0 m (pc) ls (rest)) := by
  obtain ⟨L, h1, h2, h3⟩ := hP
  refine va_new (ci := 12) (fs := [.int 0, .int 0, .double 0, .null, .null]) (C := RX10) (T := TX10) (N := 5) C.x C.b C.w cu_X10 tyX10 tyX10_ok C.o (C.w _ hcl) (C.w _ hin) (C.w _ hini) C.K h1 h2 hS C.a rfl (fun j hj => by rcases (show j = 0 ∨ j = 1 ∨ j = 2 ∨ j = 3 ∨ j = 4 by omega) with rfl | rfl | rfl | rfl | rfl <;> rfl) hcR.1 hcR.2 hdg (fun q H1 p1 p2 p3 => ?_)
  have z := CH.new (P' := newP κ.2.2.2.2 q 21) (t := 21) h3 p1 p2 (fun b => newP_T) (by decide) (by show cofT cy _ q 1 = _; unfold cofT; simp only [newP_zI, newP_zD, newP_zR]; try rfl) (fun b hb k => newP_ne hb k)
  exact kk q H1 z.1 z.2 p3
theorem cn_X5 (C : CC p s m args meth c cc maxL ret own nm D cy sz0 sa A) (hP : CH D cy ad A κ H) (hS : va_S A s.heap H locs) {idx : Nat} (hcl : Cond.classLink own idx RX5 ∈ GWc) (hin : Cond.instantiable RX5 8 ∈ GWc) (hini : Cond.initialized RX5 ∈ GWc) (hcR : cells + 1 ≤ R.cells ∧ slots + 8 ≤ R.slots) (hdg : decode cc pc = .ok (.new idx, 3)) (kk : ∀ (q : Nat) (H1 : Heap), oT κ.2.2.2.2 q = 0 → CH D cy ad A (tP κ (newP κ.2.2.2.2 q 22)) H1 → va_S A s.heap H1 locs → W p l e R s m args below meth c H1 locs (cells + 1) (slots + 8) Q (F0 m (pc + 3) ls (.ref q :: rest))) : W p l e R s m args below meth c H locs cells slots Q (F0 m (pc) ls (rest)) := by
  obtain ⟨L, h1, h2, h3⟩ := hP
  refine va_new (ci := 7) (fs := [.int 0, .int 0, .null, .null, .null, .null, .int 0, .int 0]) (C := RX5) (T := TX5) (N := 8) C.x C.b C.w cu_X5 tyX5 tyX5_ok C.o (C.w _ hcl) (C.w _ hin) (C.w _ hini) C.K h1 h2 hS C.a rfl (fun j hj => by rcases (show j = 0 ∨ j = 1 ∨ j = 2 ∨ j = 3 ∨ j = 4 ∨ j = 5 ∨ j = 6 ∨ j = 7 by omega) with rfl | rfl | rfl | rfl | rfl | rfl | rfl | rfl <;> rfl) hcR.1 hcR.2 hdg (fun q H1 p1 p2 p3 => ?_)
  have z := CH.new (P' := newP κ.2.2.2.2 q 22) (t := 22) h3 p1 p2 (fun b => newP_T) (by decide) (by show cofT cy _ q 2 = _; unfold cofT; simp only [newP_zI, newP_zR]; try rfl) (fun b hb k => newP_ne hb k)
  exact kk q H1 z.1 z.2 p3
theorem cn_X1 (C : CC p s m args meth c cc maxL ret own nm D cy sz0 sa A) (hP : CH D cy ad A κ H) (hS : va_S A s.heap H locs) {idx : Nat} (hcl : Cond.classLink own idx RX1 ∈ GWc) (hin : Cond.instantiable RX1 7 ∈ GWc) (hini : Cond.initialized RX1 ∈ GWc) (hcR : cells + 1 ≤ R.cells ∧ slots + 7 ≤ R.slots) (hdg : decode cc pc = .ok (.new idx, 3)) (kk : ∀ (q : Nat) (H1 : Heap), oT κ.2.2.2.2 q = 0 → CH D cy ad A (tP κ (newP κ.2.2.2.2 q 23)) H1 → va_S A s.heap H1 locs → W p l e R s m args below meth c H1 locs (cells + 1) (slots + 7) Q (F0 m (pc + 3) ls (.ref q :: rest))) : W p l e R s m args below meth c H locs cells slots Q (F0 m (pc) ls (rest)) := by
  obtain ⟨L, h1, h2, h3⟩ := hP
  refine va_new (ci := 3) (fs := [.int 0, .int 0, .null, .null, .int 0, .null, .int 0]) (C := RX1) (T := TX1) (N := 7) C.x C.b C.w cu_X1 tyX1 tyX1_ok C.o (C.w _ hcl) (C.w _ hin) (C.w _ hini) C.K h1 h2 hS C.a rfl (fun j hj => by rcases (show j = 0 ∨ j = 1 ∨ j = 2 ∨ j = 3 ∨ j = 4 ∨ j = 5 ∨ j = 6 by omega) with rfl | rfl | rfl | rfl | rfl | rfl | rfl <;> rfl) hcR.1 hcR.2 hdg (fun q H1 p1 p2 p3 => ?_)
  have z := CH.new (P' := newP κ.2.2.2.2 q 23) (t := 23) h3 p1 p2 (fun b => newP_T) (by decide) (by show cofT cy _ q 3 = _; unfold cofT; simp only [newP_zI, newP_zR]; try rfl) (fun b hb k => newP_ne hb k)
  exact kk q H1 z.1 z.2 p3
theorem cn_X2 (C : CC p s m args meth c cc maxL ret own nm D cy sz0 sa A) (hP : CH D cy ad A κ H) (hS : va_S A s.heap H locs) {idx : Nat} (hcl : Cond.classLink own idx RX2 ∈ GWc) (hin : Cond.instantiable RX2 3 ∈ GWc) (hini : Cond.initialized RX2 ∈ GWc) (hcR : cells + 1 ≤ R.cells ∧ slots + 3 ≤ R.slots) (hdg : decode cc pc = .ok (.new idx, 3)) (kk : ∀ (q : Nat) (H1 : Heap), oT κ.2.2.2.2 q = 0 → CH D cy ad A (tP κ (newP κ.2.2.2.2 q 24)) H1 → va_S A s.heap H1 locs → W p l e R s m args below meth c H1 locs (cells + 1) (slots + 3) Q (F0 m (pc + 3) ls (.ref q :: rest))) : W p l e R s m args below meth c H locs cells slots Q (F0 m (pc) ls (rest)) := by
  obtain ⟨L, h1, h2, h3⟩ := hP
  refine va_new (ci := 4) (fs := [.int 0, .int 0, .int 0]) (C := RX2) (T := TX2) (N := 3) C.x C.b C.w cu_X2 tyX2 tyX2_ok C.o (C.w _ hcl) (C.w _ hin) (C.w _ hini) C.K h1 h2 hS C.a rfl (fun j hj => by rcases (show j = 0 ∨ j = 1 ∨ j = 2 by omega) with rfl | rfl | rfl <;> rfl) hcR.1 hcR.2 hdg (fun q H1 p1 p2 p3 => ?_)
  have z := CH.new (P' := newP κ.2.2.2.2 q 24) (t := 24) h3 p1 p2 (fun b => newP_T) (by decide) (by show cofT cy _ q 4 = _; unfold cofT; simp only [newP_zI]; try rfl) (fun b hb k => newP_ne hb k)
  exact kk q H1 z.1 z.2 p3
theorem cn_X7 (C : CC p s m args meth c cc maxL ret own nm D cy sz0 sa A) (hP : CH D cy ad A κ H) (hS : va_S A s.heap H locs) {idx : Nat} (hcl : Cond.classLink own idx RX7 ∈ GWc) (hin : Cond.instantiable RX7 6 ∈ GWc) (hini : Cond.initialized RX7 ∈ GWc) (hcR : cells + 1 ≤ R.cells ∧ slots + 6 ≤ R.slots) (hdg : decode cc pc = .ok (.new idx, 3)) (kk : ∀ (q : Nat) (H1 : Heap), oT κ.2.2.2.2 q = 0 → CH D cy ad A (tP κ (newP κ.2.2.2.2 q 25)) H1 → va_S A s.heap H1 locs → W p l e R s m args below meth c H1 locs (cells + 1) (slots + 6) Q (F0 m (pc + 3) ls (.ref q :: rest))) : W p l e R s m args below meth c H locs cells slots Q (F0 m (pc) ls (rest)) := by
  obtain ⟨L, h1, h2, h3⟩ := hP
  refine va_new (ci := 9) (fs := [.int 0, .int 0, .int 0, .int 0, .int 0, .int 0]) (C := RX7) (T := TX7) (N := 6) C.x C.b C.w cu_X7 tyX7 tyX7_ok C.o (C.w _ hcl) (C.w _ hin) (C.w _ hini) C.K h1 h2 hS C.a rfl (fun j hj => by rcases (show j = 0 ∨ j = 1 ∨ j = 2 ∨ j = 3 ∨ j = 4 ∨ j = 5 by omega) with rfl | rfl | rfl | rfl | rfl | rfl <;> rfl) hcR.1 hcR.2 hdg (fun q H1 p1 p2 p3 => ?_)
  have z := CH.new (P' := newP κ.2.2.2.2 q 25) (t := 25) h3 p1 p2 (fun b => newP_T) (by decide) (by show cofT cy _ q 5 = _; unfold cofT; simp only [newP_zI]; try rfl) (fun b hb k => newP_ne hb k)
  exact kk q H1 z.1 z.2 p3
theorem cn_X9 (C : CC p s m args meth c cc maxL ret own nm D cy sz0 sa A) (hP : CH D cy ad A κ H) (hS : va_S A s.heap H locs) {idx : Nat} (hcl : Cond.classLink own idx RX9 ∈ GWc) (hin : Cond.instantiable RX9 3 ∈ GWc) (hini : Cond.initialized RX9 ∈ GWc) (hcR : cells + 1 ≤ R.cells ∧ slots + 3 ≤ R.slots) (hdg : decode cc pc = .ok (.new idx, 3)) (kk : ∀ (q : Nat) (H1 : Heap), oT κ.2.2.2.2 q = 0 → CH D cy ad A (tP κ (newP κ.2.2.2.2 q 26)) H1 → va_S A s.heap H1 locs → W p l e R s m args below meth c H1 locs (cells + 1) (slots + 3) Q (F0 m (pc + 3) ls (.ref q :: rest))) : W p l e R s m args below meth c H locs cells slots Q (F0 m (pc) ls (rest)) := by
  obtain ⟨L, h1, h2, h3⟩ := hP
  refine va_new (ci := 11) (fs := [.int 0, .null, .null]) (C := RX9) (T := TX9) (N := 3) C.x C.b C.w cu_X9 tyX9 tyX9_ok C.o (C.w _ hcl) (C.w _ hin) (C.w _ hini) C.K h1 h2 hS C.a rfl (fun j hj => by rcases (show j = 0 ∨ j = 1 ∨ j = 2 by omega) with rfl | rfl | rfl <;> rfl) hcR.1 hcR.2 hdg (fun q H1 p1 p2 p3 => ?_)
  have z := CH.new (P' := newP κ.2.2.2.2 q 26) (t := 26) h3 p1 p2 (fun b => newP_T) (by decide) (by show cofT cy _ q 6 = _; unfold cofT; simp only [newP_zI, newP_zR]; try rfl) (fun b hb k => newP_ne hb k)
  exact kk q H1 z.1 z.2 p3
theorem cn_J0 (C : CC p s m args meth c cc maxL ret own nm D cy sz0 sa A) (hP : CH D cy ad A κ H) (hS : va_S A s.heap H locs) {idx : Nat} (hcl : Cond.classLink own idx RJ0 ∈ GWc) (hin : Cond.instantiable RJ0 4 ∈ GWc) (hini : Cond.initialized RJ0 ∈ GWc) (hcR : cells + 1 ≤ R.cells ∧ slots + 4 ≤ R.slots) (hdg : decode cc pc = .ok (.new idx, 3)) (kk : ∀ (q : Nat) (H1 : Heap), oT κ.2.2.2.2 q = 0 → CH D cy ad A (tP κ (newP κ.2.2.2.2 q 27)) H1 → va_S A s.heap H1 locs → W p l e R s m args below meth c H1 locs (cells + 1) (slots + 4) Q (F0 m (pc + 3) ls (.ref q :: rest))) : W p l e R s m args below meth c H locs cells slots Q (F0 m (pc) ls (rest)) := by
  obtain ⟨L, h1, h2, h3⟩ := hP
  refine va_new (ci := 0) (fs := [.null, .int 0, .int 0, .int 0]) (C := RJ0) (T := TJ0) (N := 4) C.x C.b C.w cu_J0 tyJ0 tyJ0_ok C.o (C.w _ hcl) (C.w _ hin) (C.w _ hini) C.K h1 h2 hS C.a rfl (fun j hj => by rcases (show j = 0 ∨ j = 1 ∨ j = 2 ∨ j = 3 by omega) with rfl | rfl | rfl | rfl <;> rfl) hcR.1 hcR.2 hdg (fun q H1 p1 p2 p3 => ?_)
  have z := CH.new (P' := newP κ.2.2.2.2 q 27) (t := 27) h3 p1 p2 (fun b => newP_T) (by decide) (by show cofT cy _ q 7 = _; unfold cofT; simp only [newP_zR, newP_zI]; try rfl) (fun b hb k => newP_ne hb k)
  exact kk q H1 z.1 z.2 p3
theorem cn_a9 (C : CC p s m args meth c cc maxL ret own nm D cy sz0 sa A) (hP : CH D cy ad A κ H) (hS : va_S A s.heap H locs) {idx : Nat} (hcl : Cond.classLink own idx "PhraseDesk$Value" ∈ GWc) (hcR : cells + 1 ≤ R.cells ∧ slots + 30 ≤ R.slots) (hdg : decode cc pc = .ok (.anewarray idx, 3)) (kk : ∀ (q : Nat) (H1 : Heap), oT κ.2.2.2.2 q = 0 → CH D cy ad A (tP κ (newP κ.2.2.2.2 q 9)) H1 → va_S A s.heap H1 locs → W p l e R s m args below meth c H1 locs (cells + 1) (slots + 30) Q (F0 m (pc + 3) ls (.ref q :: rest))) : W p l e R s m args below meth c H locs cells slots Q (F0 m (pc) ls (.int 30 :: rest)) := by
  obtain ⟨L, h1, h2, h3⟩ := hP
  refine g_newq (C := "PhraseDesk$Value") C.x C.b C.o (C.w _ hcl) C.en.2.2.2.2.2.2.1.1 C.K h1 h2 hS C.a 6 rfl (N' := 30) (by decide +kernel) (by decide +kernel) (by decide +kernel) hcR.1 hcR.2 hdg (fun q H1 p1 p2 p3 => ?_)
  have z := CH.new (P' := newP κ.2.2.2.2 q 9) (t := 9) h3 p1 p2 (fun b => newP_T) (by decide) (by show cofT cy _ q 9 = _; unfold cofT; simp only [newP_zA]; try rfl) (fun b hb k => newP_ne hb k)
  exact kk q H1 z.1 z.2 p3
theorem cn_a10 (C : CC p s m args meth c cc maxL ret own nm D cy sz0 sa A) (hP : CH D cy ad A κ H) (hS : va_S A s.heap H locs) {idx : Nat} (hcl : Cond.classLink own idx "PhraseDesk$Field" ∈ GWc) (hcR : cells + 1 ≤ R.cells ∧ slots + 6 ≤ R.slots) (hdg : decode cc pc = .ok (.anewarray idx, 3)) (kk : ∀ (q : Nat) (H1 : Heap), oT κ.2.2.2.2 q = 0 → CH D cy ad A (tP κ (newP κ.2.2.2.2 q 10)) H1 → va_S A s.heap H1 locs → W p l e R s m args below meth c H1 locs (cells + 1) (slots + 6) Q (F0 m (pc + 3) ls (.ref q :: rest))) : W p l e R s m args below meth c H locs cells slots Q (F0 m (pc) ls (.int 6 :: rest)) := by
  obtain ⟨L, h1, h2, h3⟩ := hP
  refine g_newq (C := "PhraseDesk$Field") C.x C.b C.o (C.w _ hcl) C.en.2.2.2.2.2.2.1.2.2.2.2 C.K h1 h2 hS C.a 10 rfl (N' := 6) (by decide +kernel) (by decide +kernel) (by decide +kernel) hcR.1 hcR.2 hdg (fun q H1 p1 p2 p3 => ?_)
  have z := CH.new (P' := newP κ.2.2.2.2 q 10) (t := 10) h3 p1 p2 (fun b => newP_T) (by decide) (by show cofT cy _ q 10 = _; unfold cofT; simp only [newP_zA]; try rfl) (fun b hb k => newP_ne hb k)
  exact kk q H1 z.1 z.2 p3
theorem cn_a11 (C : CC p s m args meth c cc maxL ret own nm D cy sz0 sa A) (hP : CH D cy ad A κ H) (hS : va_S A s.heap H locs) {idx : Nat} (hcl : Cond.classLink own idx "PhraseDesk$Routine" ∈ GWc) (hcR : cells + 1 ≤ R.cells ∧ slots + 6 ≤ R.slots) (hdg : decode cc pc = .ok (.anewarray idx, 3)) (kk : ∀ (q : Nat) (H1 : Heap), oT κ.2.2.2.2 q = 0 → CH D cy ad A (tP κ (newP κ.2.2.2.2 q 11)) H1 → va_S A s.heap H1 locs → W p l e R s m args below meth c H1 locs (cells + 1) (slots + 6) Q (F0 m (pc + 3) ls (.ref q :: rest))) : W p l e R s m args below meth c H locs cells slots Q (F0 m (pc) ls (.int 6 :: rest)) := by
  obtain ⟨L, h1, h2, h3⟩ := hP
  refine g_newq (C := "PhraseDesk$Routine") C.x C.b C.o (C.w _ hcl) C.en.2.2.2.2.2.2.1.2.2.2.1 C.K h1 h2 hS C.a 9 rfl (N' := 6) (by decide +kernel) (by decide +kernel) (by decide +kernel) hcR.1 hcR.2 hdg (fun q H1 p1 p2 p3 => ?_)
  have z := CH.new (P' := newP κ.2.2.2.2 q 11) (t := 11) h3 p1 p2 (fun b => newP_T) (by decide) (by show cofT cy _ q 11 = _; unfold cofT; simp only [newP_zA]; try rfl) (fun b hb k => newP_ne hb k)
  exact kk q H1 z.1 z.2 p3
theorem newB_T {P : PL} {q n b : Nat} {f : Nat → Int32} : oT (newB P q n f) b = if b = q then 8 else oT P b := rfl
theorem newB_ne {cy : Nat → ClassId} {P : PL} {q n b : Nat} {f : Nat → Int32} (h : ¬ b = q) (k : Nat) : cofT cy (newB P q n f) b k = cofT cy P b k := by
  rw [← newP_ne (cy := cy) (P := P) (t := 8) h k]
  exact cofT_ne (P := newP P q 8) (P' := newB P q n f) (fun j => rfl) (fun j => rfl) rfl rfl (vu_ne h) (vu_ne h) k
theorem newB_at {cy : Nat → ClassId} {P : PL} {q n : Nat} {f : Nat → Int32} : cofT cy (newB P q n f) q 8 = .inl (cy 5, n, .inl f) := by
  unfold cofT
  simp only []
  rw [show oL (newB P q n f) q = n from vu_eq, show oB (newB P q n f) q = f from vu_eq]
theorem cn_b (C : CC p s m args meth c cc maxL ret own nm D cy sz0 sa A) (hP : CH D cy ad A κ H) (hS : va_S A s.heap H locs) {n : Int32} {N : Nat} (hn : n.toInt = (N : Int)) (hN : N ≤ 1000) (hw : Cond.arrayClass .byte ∈ GWc) (hcR : cells + 1 ≤ R.cells ∧ slots + N ≤ R.slots) (hdg : decode cc pc = .ok (.newarray .byte, 2)) (kk : ∀ (q : Nat) (H1 : Heap), oT κ.2.2.2.2 q = 0 → CH D cy ad A (tP κ (newB κ.2.2.2.2 q N (fun _ => 0))) H1 → va_S A s.heap H1 locs → W p l e R s m args below meth c H1 locs (cells + 1) (slots + N) Q (F0 m (pc + 2) ls (.ref q :: rest))) : W p l e R s m args below meth c H locs cells slots Q (F0 m (pc) ls (.int n :: rest)) := by
  obtain ⟨L, h1, h2, h3⟩ := hP
  refine g_newa (atype := .byte) (ty := .byte) C.x C.b (C.w _ hw) rfl C.K h1 h2 hS C.a 5 rfl (a0 := (N, .inl (fun _ => 0))) (N' := N) (za_5 N) (fun h => ?_) (by rw [clampN]; omega) (by show N * 1 ≤ _; omega) hcR.1 hcR.2 hdg (fun q H1 p1 p2 p3 => ?_)
  · have := z_lt h; have z0 : (0 : Int32).toInt = 0 := by decide +kernel
    omega
  have z := CH.new (P' := newB κ.2.2.2.2 q N (fun _ => 0)) (t := 8) h3 p1 p2 (fun b => newB_T) (by decide) newB_at (fun b hb k => newB_ne hb k)
  exact kk q H1 z.1 z.2 p3
end CA
