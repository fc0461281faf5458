/-! ===== more calls of the class ===== -/
section CU
variable {p : Program} {l : Launch} {e : Env} {R : Room} {s : State} {m : MethodId} {args : Array Value} {below : List Frame} {meth : Method} {c : Code} {H : Heap} {locs : List Loc} {cells slots : Nat} {Q : State → Prop}
variable {cc : ByteArray} {pc : Nat} {ls : Array Slot} {rest : List Value} {A : Nat → Prop} {D : va_G} {cy : Nat → ClassId} {sz0 : Nat} {sa : Nat → Nat} {ad : Nat → Nat} {κ : KS} {maxL : Nat} {ret : Option FieldType} {own nm : String}
abbrev cRunU (own owner : String) (x y : MethodName) (idx n : Nat) (bytes : ByteArray) (maxL2 : Nat) (ret2 : Option FieldType) : Prop := Cond.methodLink own idx x ∈ GWc ∧ Cond.code y bytes maxL2 ret2 ∈ GWc ∧ (owner ≠ "java/lang/invoke/MethodHandle" ∧ owner ≠ "java/lang/invoke/VarHandle" ∧ (parseMethodDescriptor x.desc).map (fun d => d.parameters.length) = some n)
theorem c_callUv {S : Type} {post : S → Prop} {f : S → KS} {g1 g2 : S → Nat} (C : CC p s m args meth c cc maxL ret own nm D cy sz0 sa A) (hP : CH D cy ad A κ H) (hS : va_S A s.heap H locs) (hl : ls.size = maxL) {x y : MethodName} {C2 owner : String} {bytes : ByteArray} {maxL2 : Nat} {ret2 : Option FieldType} {fr lo n idx b mc ms : Nat} {As st : List Value}
    (hM : Met l y (Cond.code y bytes maxL2 ret2 :: GWc) ({ frames := fr, cells := mc, slots := ms, locals := lo }) (PcC D cy ad A sz0 sa (.ref b :: As) κ H.size (SLT H)) (va_Qv post (fun u t => Bx D cy ad A H.size (SLT H) (f u) (g1 u) (g2 u) t) A) mc ms A) (hw : cRunU own owner x y idx n bytes maxL2 ret2) (hw2 : Cond.sameMethod x.cls owner x.name x.desc ∈ GWc ∧ Cond.selects C2 x y ∈ GWc ∧ Cond.instanceMethod y ∈ GWc ∧ Cond.initialized y.cls ∈ GWc) (hyx : y = ⟨owner, x.name, x.desc⟩) (hrv : ∃ cell : Cell, H[b]? = some cell ∧ cell.vm.isStatics = false ∧ s.vm.findClass C2 = some cell.cls) (hn : As.length = n) (hst : st = As.reverse ++ .ref b :: rest) (hW : 2 * (F0 m pc ls st).monitorRoom + (rest.map fun v => v.category).sum ≤ 8) (hR : fr + 1 ≤ R.frames ∧ 8 + (maxL2 + 11) + lo ≤ R.locals) (hcR : cells + mc ≤ R.cells ∧ slots + ms ≤ R.slots) (hdg : decode cc pc = .ok (.invokevirtual idx, 3))
    (kk : ∀ (u : S) (H1 : Heap) (locs1 : List Loc), post u → CH D cy ad A (f u) H1 → va_S A s.heap H1 locs1 → W p l e R s m args below meth c H1 locs1 (cells + g1 u) (slots + g2 u) Q (F0 m (pc + 3) ls (rest))) : W p l e R s m args below meth c H locs cells slots Q (F0 m pc ls st) := by
  have hm : ∀ w ∈ (Cond.code y bytes maxL2 ret2 :: GWc), w ∈ GWc := fun w h => by
    rcases List.mem_cons.mp h with h | h
    · subst h; exact hw.2.1
    · exact h
  refine W.know (fun hk1 hk2 => ?_)
  have hG : GoodIn GWc (va_wsU own idx C2 owner x y (Cond.code y bytes maxL2 ret2 :: GWc)) := GWc_in (fun w h => by
    unfold va_wsU at h
    rcases List.mem_append.mp h with h | h
    · simp only [List.mem_cons, List.not_mem_nil, or_false] at h
      rcases h with rfl | rfl | rfl | rfl | rfl
      · exact hw.1
      · exact hw2.1
      · exact hw2.2.1
      · exact hw2.2.2.1
      · exact hw2.2.2.2
    · exact hm w h)
  refine va_callv (va_runU (g := F0 m pc ls st) (As := As) (rest := rest) ⟨C.x, C.b, C.ml, C.o, C.w⟩ hM (va_cwU n C.w hG rfl rfl rfl hyx hw.2.2 hR) ⟨PcC.blind, hrv, PcC.mk C hS hP⟩ rfl hn hl hst hW hdg hcR) hS (fun q _ h => h) (fun q h => h) (fun u t H1 locs1 ht hvm hw5 hB hz1 hk1 hS1 => ?_)
  obtain ⟨b1, b2, b3⟩ := hB
  rw [ht] at b1 b2 b3
  exact W.tight (by omega) (by omega) (kk u H1 locs1 hw5 b1 hS1)
theorem c_callWv {S : Type} {post : S → Prop} {f : S → KS} {g1 g2 : S → Nat} (C : CC p s m args meth c cc maxL ret own nm D cy sz0 sa A) (hP : CH D cy ad A κ H) (hS : va_S A s.heap H locs) (hl : ls.size = maxL) {y : MethodName} {C2 : String} {bytes : ByteArray} {maxL2 : Nat} {ret2 : Option FieldType} {fr lo n idx b mc ms : Nat} {As st : List Value}
    (hM : Met l y (Cond.code y bytes maxL2 ret2 :: GWc) ({ frames := fr, cells := mc, slots := ms, locals := lo }) (PcC D cy ad A sz0 sa (.ref b :: As) κ H.size (SLT H)) (va_Qv post (fun u t => Bx D cy ad A H.size (SLT H) (f u) (g1 u) (g2 u) t) A) mc ms A) (hw : cRun own y idx n bytes maxL2 ret2) (hw2 : Cond.sameMethod y.cls y.cls y.name y.desc ∈ GWc ∧ Cond.superclass own y.cls ∈ GWc ∧ Cond.instanceMethod y ∈ GWc ∧ Cond.initialized y.cls ∈ GWc) (hyn : y.name ≠ "<init>") {ci : Nat} {q : vw_C} (hq : vwCl[ci]? = some q) (hq2 : q.1 = C2) (hrv : ∃ cell : Cell, H[b]? = some cell ∧ cell.vm.isStatics = false ∧ s.vm.findClass C2 = some cell.cls) (hn : As.length = n) (hst : st = As.reverse ++ .ref b :: rest) (hW : 2 * (F0 m pc ls st).monitorRoom + (rest.map fun v => v.category).sum ≤ 8) (hR : fr + 1 ≤ R.frames ∧ 8 + (maxL2 + 11) + lo ≤ R.locals) (hcR : cells + mc ≤ R.cells ∧ slots + ms ≤ R.slots) (hdg : decode cc pc = .ok (.invokespecial idx, 3))
    (kk : ∀ (u : S) (H1 : Heap) (locs1 : List Loc), post u → CH D cy ad A (f u) H1 → va_S A s.heap H1 locs1 → W p l e R s m args below meth c H1 locs1 (cells + g1 u) (slots + g2 u) Q (F0 m (pc + 3) ls (rest))) : W p l e R s m args below meth c H locs cells slots Q (F0 m pc ls st) := by
  have hm : ∀ w ∈ (Cond.code y bytes maxL2 ret2 :: GWc), w ∈ GWc := fun w h => by
    rcases List.mem_cons.mp h with h | h
    · subst h; exact hw.2.1
    · exact h
  refine W.know (fun hk1 hk2 => ?_)
  have hG : GoodIn GWc (va_wsSU own idx y (Cond.code y bytes maxL2 ret2 :: GWc)) := GWc_in (fun w h => by
    unfold va_wsSU at h
    rcases List.mem_append.mp h with h | h
    · simp only [List.mem_cons, List.not_mem_nil, or_false] at h
      rcases h with rfl | rfl | rfl | rfl | rfl
      · exact hw.1
      · exact hw2.1
      · exact hw2.2.1
      · exact hw2.2.2.1
      · exact hw2.2.2.2
    · exact hm w h)
  have hat : ClassAt s C2 (D.1 ci) := by rw [← hq2]; exact (C.K.1 ci q hq).2
  refine va_callv (va_runSU (g := F0 m pc ls st) (As := As) (rest := rest) hat ⟨C.x, C.b, C.ml, C.o, C.w⟩ hM (va_cwSU n C.w hG rfl rfl rfl ⟨hyn, hw.2.2.2.2⟩ hR) ⟨PcC.blind, hrv, PcC.mk C hS hP⟩ rfl hn hl hst hW hdg hcR) hS (fun q _ h => h) (fun q h => h) (fun u t H1 locs1 ht hvm hw5 hB hz1 hk1 hS1 => ?_)
  obtain ⟨b1, b2, b3⟩ := hB
  rw [ht] at b1 b2 b3
  exact W.tight (by omega) (by omega) (kk u H1 locs1 hw5 b1 hS1)
theorem c_callUi {S : Type} {post : Int32 → S → Prop} {f : S → KS} {g1 g2 : S → Nat} (C : CC p s m args meth c cc maxL ret own nm D cy sz0 sa A) (hP : CH D cy ad A κ H) (hS : va_S A s.heap H locs) (hl : ls.size = maxL) {x y : MethodName} {C2 owner : String} {bytes : ByteArray} {maxL2 : Nat} {ret2 : Option FieldType} {fr lo n idx b mc ms : Nat} {As st : List Value}
    (hM : Met l y (Cond.code y bytes maxL2 ret2 :: GWc) ({ frames := fr, cells := mc, slots := ms, locals := lo }) (PcC D cy ad A sz0 sa (.ref b :: As) κ H.size (SLT H)) (va_Qi post (fun u t => Bx D cy ad A H.size (SLT H) (f u) (g1 u) (g2 u) t) A) mc ms A) (hw : cRunU own owner x y idx n bytes maxL2 ret2) (hw2 : Cond.sameMethod x.cls owner x.name x.desc ∈ GWc ∧ Cond.selects C2 x y ∈ GWc ∧ Cond.instanceMethod y ∈ GWc ∧ Cond.initialized y.cls ∈ GWc) (hyx : y = ⟨owner, x.name, x.desc⟩) (hrv : ∃ cell : Cell, H[b]? = some cell ∧ cell.vm.isStatics = false ∧ s.vm.findClass C2 = some cell.cls) (hn : As.length = n) (hst : st = As.reverse ++ .ref b :: rest) (hW : 2 * (F0 m pc ls st).monitorRoom + (rest.map fun v => v.category).sum ≤ 8) (hR : fr + 1 ≤ R.frames ∧ 8 + (maxL2 + 11) + lo ≤ R.locals) (hcR : cells + mc ≤ R.cells ∧ slots + ms ≤ R.slots) (hdg : decode cc pc = .ok (.invokevirtual idx, 3))
    (kk : ∀ (r : Int32) (u : S) (H1 : Heap) (locs1 : List Loc), post r u → CH D cy ad A (f u) H1 → va_S A s.heap H1 locs1 → W p l e R s m args below meth c H1 locs1 (cells + g1 u) (slots + g2 u) Q (F0 m (pc + 3) ls (.int r :: rest))) : W p l e R s m args below meth c H locs cells slots Q (F0 m pc ls st) := by
  have hm : ∀ w ∈ (Cond.code y bytes maxL2 ret2 :: GWc), w ∈ GWc := fun w h => by
    rcases List.mem_cons.mp h with h | h
    · subst h; exact hw.2.1
    · exact h
  refine W.know (fun hk1 hk2 => ?_)
  have hG : GoodIn GWc (va_wsU own idx C2 owner x y (Cond.code y bytes maxL2 ret2 :: GWc)) := GWc_in (fun w h => by
    unfold va_wsU at h
    rcases List.mem_append.mp h with h | h
    · simp only [List.mem_cons, List.not_mem_nil, or_false] at h
      rcases h with rfl | rfl | rfl | rfl | rfl
      · exact hw.1
      · exact hw2.1
      · exact hw2.2.1
      · exact hw2.2.2.1
      · exact hw2.2.2.2
    · exact hm w h)
  refine va_calli (va_runU (g := F0 m pc ls st) (As := As) (rest := rest) ⟨C.x, C.b, C.ml, C.o, C.w⟩ hM (va_cwU n C.w hG rfl rfl rfl hyx hw.2.2 hR) ⟨PcC.blind, hrv, PcC.mk C hS hP⟩ rfl hn hl hst hW hdg hcR) hS (fun q _ h => h) (fun q h => h) (fun r u t H1 locs1 ht hvm hw5 hB hz1 hk1 hS1 => ?_)
  obtain ⟨b1, b2, b3⟩ := hB
  rw [ht] at b1 b2 b3
  exact W.tight (by omega) (by omega) (kk r u H1 locs1 hw5 b1 hS1)
theorem c_callOi {S : Type} {post : Int32 → S → Prop} {f : S → KS} {g1 g2 : S → Nat} (C : CC p s m args meth c cc maxL ret own nm D cy sz0 sa A) (hP : CH D cy ad A κ H) (hS : va_S A s.heap H locs) (hl : ls.size = maxL) {x y : MethodName} {C2 owner : String} {bytes : ByteArray} {maxL2 : Nat} {ret2 : Option FieldType} {fr lo n idx b mc ms : Nat} {As st : List Value}
    (hM : Met l y (Cond.code y bytes maxL2 ret2 :: GWc) ({ frames := fr, cells := mc, slots := ms, locals := lo }) (PcC D cy ad A sz0 sa (.ref b :: As) κ H.size (SLT H)) (va_Qi post (fun u t => Bx D cy ad A H.size (SLT H) (f u) (g1 u) (g2 u) t) A) mc ms A) (hw : cRunU own owner x y idx n bytes maxL2 ret2) {b0 : ByteArray} {m0 : Nat} {r0 : Option FieldType} (hw2 : Cond.sameMethod x.cls owner x.name x.desc ∈ GWc ∧ Cond.instanceMethod ⟨owner, x.name, x.desc⟩ ∈ GWc ∧ Cond.selects C2 x y ∈ GWc ∧ Cond.instanceMethod y ∈ GWc ∧ Cond.initialized y.cls ∈ GWc ∧ Cond.code ⟨owner, x.name, x.desc⟩ b0 m0 r0 ∈ GWc) (hrv : ∃ cell : Cell, H[b]? = some cell ∧ cell.vm.isStatics = false ∧ s.vm.findClass C2 = some cell.cls) (hn : As.length = n) (hst : st = As.reverse ++ .ref b :: rest) (hW : 2 * (F0 m pc ls st).monitorRoom + (rest.map fun v => v.category).sum ≤ 8) (hR : fr + 1 ≤ R.frames ∧ 8 + (maxL2 + 11) + lo ≤ R.locals) (hcR : cells + mc ≤ R.cells ∧ slots + ms ≤ R.slots) (hdg : decode cc pc = .ok (.invokevirtual idx, 3))
    (kk : ∀ (r : Int32) (u : S) (H1 : Heap) (locs1 : List Loc), post r u → CH D cy ad A (f u) H1 → va_S A s.heap H1 locs1 → W p l e R s m args below meth c H1 locs1 (cells + g1 u) (slots + g2 u) Q (F0 m (pc + 3) ls (.int r :: rest))) : W p l e R s m args below meth c H locs cells slots Q (F0 m pc ls st) := by
  have hm : ∀ w ∈ (Cond.code y bytes maxL2 ret2 :: GWc), w ∈ GWc := fun w h => by
    rcases List.mem_cons.mp h with h | h
    · subst h; exact hw.2.1
    · exact h
  refine W.know (fun hk1 hk2 => ?_)
  have hG : GoodIn GWc (va_wsO own idx C2 owner x y (Cond.code y bytes maxL2 ret2 :: GWc)) := GWc_in (fun w h => by
    unfold va_wsO at h
    rcases List.mem_append.mp h with h | h
    · simp only [List.mem_cons, List.not_mem_nil, or_false] at h
      rcases h with rfl | rfl | rfl | rfl | rfl | rfl
      · exact hw.1
      · exact hw2.1
      · exact hw2.2.1
      · exact hw2.2.2.1
      · exact hw2.2.2.2.1
      · exact hw2.2.2.2.2.1
    · exact hm w h)
  refine va_calli (va_runU (g := F0 m pc ls st) (As := As) (rest := rest) ⟨C.x, C.b, C.ml, C.o, C.w⟩ hM (va_cwO n C.w hG rfl rfl rfl hw2.2.2.2.2.2 hw.2.2 hR) ⟨PcC.blind, hrv, PcC.mk C hS hP⟩ rfl hn hl hst hW hdg hcR) hS (fun q _ h => h) (fun q h => h) (fun r u t H1 locs1 ht hvm hw5 hB hz1 hk1 hS1 => ?_)
  obtain ⟨b1, b2, b3⟩ := hB
  rw [ht] at b1 b2 b3
  exact W.tight (by omega) (by omega) (kk r u H1 locs1 hw5 b1 hS1)
theorem c_callWi {S : Type} {post : Int32 → S → Prop} {f : S → KS} {g1 g2 : S → Nat} (C : CC p s m args meth c cc maxL ret own nm D cy sz0 sa A) (hP : CH D cy ad A κ H) (hS : va_S A s.heap H locs) (hl : ls.size = maxL) {y : MethodName} {C2 : String} {bytes : ByteArray} {maxL2 : Nat} {ret2 : Option FieldType} {fr lo n idx b mc ms : Nat} {As st : List Value}
    (hM : Met l y (Cond.code y bytes maxL2 ret2 :: GWc) ({ frames := fr, cells := mc, slots := ms, locals := lo }) (PcC D cy ad A sz0 sa (.ref b :: As) κ H.size (SLT H)) (va_Qi post (fun u t => Bx D cy ad A H.size (SLT H) (f u) (g1 u) (g2 u) t) A) mc ms A) (hw : cRun own y idx n bytes maxL2 ret2) (hw2 : Cond.sameMethod y.cls y.cls y.name y.desc ∈ GWc ∧ Cond.superclass own y.cls ∈ GWc ∧ Cond.instanceMethod y ∈ GWc ∧ Cond.initialized y.cls ∈ GWc) (hyn : y.name ≠ "<init>") {ci : Nat} {q : vw_C} (hq : vwCl[ci]? = some q) (hq2 : q.1 = C2) (hrv : ∃ cell : Cell, H[b]? = some cell ∧ cell.vm.isStatics = false ∧ s.vm.findClass C2 = some cell.cls) (hn : As.length = n) (hst : st = As.reverse ++ .ref b :: rest) (hW : 2 * (F0 m pc ls st).monitorRoom + (rest.map fun v => v.category).sum ≤ 8) (hR : fr + 1 ≤ R.frames ∧ 8 + (maxL2 + 11) + lo ≤ R.locals) (hcR : cells + mc ≤ R.cells ∧ slots + ms ≤ R.slots) (hdg : decode cc pc = .ok (.invokespecial idx, 3))
    (kk : ∀ (r : Int32) (u : S) (H1 : Heap) (locs1 : List Loc), post r u → CH D cy ad A (f u) H1 → va_S A s.heap H1 locs1 → W p l e R s m args below meth c H1 locs1 (cells + g1 u) (slots + g2 u) Q (F0 m (pc + 3) ls (.int r :: rest))) : W p l e R s m args below meth c H locs cells slots Q (F0 m pc ls st) := by
  have hm : ∀ w ∈ (Cond.code y bytes maxL2 ret2 :: GWc), w ∈ GWc := fun w h => by
    rcases List.mem_cons.mp h with h | h
    · subst h; exact hw.2.1
    · exact h
  refine W.know (fun hk1 hk2 => ?_)
  have hG : GoodIn GWc (va_wsSU own idx y (Cond.code y bytes maxL2 ret2 :: GWc)) := GWc_in (fun w h => by
    unfold va_wsSU at h
    rcases List.mem_append.mp h with h | h
    · simp only [List.mem_cons, List.not_mem_nil, or_false] at h
      rcases h with rfl | rfl | rfl | rfl | rfl
      · exact hw.1
      · exact hw2.1
      · exact hw2.2.1
      · exact hw2.2.2.1
      · exact hw2.2.2.2
    · exact hm w h)
  have hat : ClassAt s C2 (D.1 ci) := by rw [← hq2]; exact (C.K.1 ci q hq).2
  refine va_calli (va_runSU (g := F0 m pc ls st) (As := As) (rest := rest) hat ⟨C.x, C.b, C.ml, C.o, C.w⟩ hM (va_cwSU n C.w hG rfl rfl rfl ⟨hyn, hw.2.2.2.2⟩ hR) ⟨PcC.blind, hrv, PcC.mk C hS hP⟩ rfl hn hl hst hW hdg hcR) hS (fun q _ h => h) (fun q h => h) (fun r u t H1 locs1 ht hvm hw5 hB hz1 hk1 hS1 => ?_)
  obtain ⟨b1, b2, b3⟩ := hB
  rw [ht] at b1 b2 b3
  exact W.tight (by omega) (by omega) (kk r u H1 locs1 hw5 b1 hS1)
theorem c_callUq {S : Type} {post : Option Nat → S → Prop} {f : S → KS} {g1 g2 : S → Nat} (C : CC p s m args meth c cc maxL ret own nm D cy sz0 sa A) (hP : CH D cy ad A κ H) (hS : va_S A s.heap H locs) (hl : ls.size = maxL) {x y : MethodName} {C2 owner : String} {bytes : ByteArray} {maxL2 : Nat} {ret2 : Option FieldType} {fr lo n idx b mc ms : Nat} {As st : List Value}
    (hM : Met l y (Cond.code y bytes maxL2 ret2 :: GWc) ({ frames := fr, cells := mc, slots := ms, locals := lo }) (PcC D cy ad A sz0 sa (.ref b :: As) κ H.size (SLT H)) (va_Qq post (fun u t => Bx D cy ad A H.size (SLT H) (f u) (g1 u) (g2 u) t) A) mc ms A) (hw : cRunU own owner x y idx n bytes maxL2 ret2) (hw2 : Cond.sameMethod x.cls owner x.name x.desc ∈ GWc ∧ Cond.selects C2 x y ∈ GWc ∧ Cond.instanceMethod y ∈ GWc ∧ Cond.initialized y.cls ∈ GWc) (hyx : y = ⟨owner, x.name, x.desc⟩) (hrv : ∃ cell : Cell, H[b]? = some cell ∧ cell.vm.isStatics = false ∧ s.vm.findClass C2 = some cell.cls) (hn : As.length = n) (hst : st = As.reverse ++ .ref b :: rest) (hW : 2 * (F0 m pc ls st).monitorRoom + (rest.map fun v => v.category).sum ≤ 8) (hR : fr + 1 ≤ R.frames ∧ 8 + (maxL2 + 11) + lo ≤ R.locals) (hcR : cells + mc ≤ R.cells ∧ slots + ms ≤ R.slots) (hdg : decode cc pc = .ok (.invokevirtual idx, 3))
    (kk : ∀ (r : Option Nat) (u : S) (H1 : Heap) (locs1 : List Loc), post r u → CH D cy ad A (f u) H1 → va_S A s.heap H1 locs1 → W p l e R s m args below meth c H1 locs1 (cells + g1 u) (slots + g2 u) Q (F0 m (pc + 3) ls (va_rf r :: rest))) : W p l e R s m args below meth c H locs cells slots Q (F0 m pc ls st) := by
  have hm : ∀ w ∈ (Cond.code y bytes maxL2 ret2 :: GWc), w ∈ GWc := fun w h => by
    rcases List.mem_cons.mp h with h | h
    · subst h; exact hw.2.1
    · exact h
  refine W.know (fun hk1 hk2 => ?_)
  have hG : GoodIn GWc (va_wsU own idx C2 owner x y (Cond.code y bytes maxL2 ret2 :: GWc)) := GWc_in (fun w h => by
    unfold va_wsU at h
    rcases List.mem_append.mp h with h | h
    · simp only [List.mem_cons, List.not_mem_nil, or_false] at h
      rcases h with rfl | rfl | rfl | rfl | rfl
      · exact hw.1
      · exact hw2.1
      · exact hw2.2.1
      · exact hw2.2.2.1
      · exact hw2.2.2.2
    · exact hm w h)
  refine va_callq (va_runU (g := F0 m pc ls st) (As := As) (rest := rest) ⟨C.x, C.b, C.ml, C.o, C.w⟩ hM (va_cwU n C.w hG rfl rfl rfl hyx hw.2.2 hR) ⟨PcC.blind, hrv, PcC.mk C hS hP⟩ rfl hn hl hst hW hdg hcR) hS (fun q _ h => h) (fun q h => h) (fun r u t H1 locs1 ht hvm hw5 hB hz1 hk1 hS1 => ?_)
  obtain ⟨b1, b2, b3⟩ := hB
  rw [ht] at b1 b2 b3
  exact W.tight (by omega) (by omega) (kk r u H1 locs1 hw5 b1 hS1)
theorem c_callWq {S : Type} {post : Option Nat → S → Prop} {f : S → KS} {g1 g2 : S → Nat} (C : CC p s m args meth c cc maxL ret own nm D cy sz0 sa A) (hP : CH D cy ad A κ H) (hS : va_S A s.heap H locs) (hl : ls.size = maxL) {y : MethodName} {C2 : String} {bytes : ByteArray} {maxL2 : Nat} {ret2 : Option FieldType} {fr lo n idx b mc ms : Nat} {As st : List Value}
    (hM : Met l y (Cond.code y bytes maxL2 ret2 :: GWc) ({ frames := fr, cells := mc, slots := ms, locals := lo }) (PcC D cy ad A sz0 sa (.ref b :: As) κ H.size (SLT H)) (va_Qq post (fun u t => Bx D cy ad A H.size (SLT H) (f u) (g1 u) (g2 u) t) A) mc ms A) (hw : cRun own y idx n bytes maxL2 ret2) (hw2 : Cond.sameMethod y.cls y.cls y.name y.desc ∈ GWc ∧ Cond.superclass own y.cls ∈ GWc ∧ Cond.instanceMethod y ∈ GWc ∧ Cond.initialized y.cls ∈ GWc) (hyn : y.name ≠ "<init>") {ci : Nat} {q : vw_C} (hq : vwCl[ci]? = some q) (hq2 : q.1 = C2) (hrv : ∃ cell : Cell, H[b]? = some cell ∧ cell.vm.isStatics = false ∧ s.vm.findClass C2 = some cell.cls) (hn : As.length = n) (hst : st = As.reverse ++ .ref b :: rest) (hW : 2 * (F0 m pc ls st).monitorRoom + (rest.map fun v => v.category).sum ≤ 8) (hR : fr + 1 ≤ R.frames ∧ 8 + (maxL2 + 11) + lo ≤ R.locals) (hcR : cells + mc ≤ R.cells ∧ slots + ms ≤ R.slots) (hdg : decode cc pc = .ok (.invokespecial idx, 3))
    (kk : ∀ (r : Option Nat) (u : S) (H1 : Heap) (locs1 : List Loc), post r u → CH D cy ad A (f u) H1 → va_S A s.heap H1 locs1 → W p l e R s m args below meth c H1 locs1 (cells + g1 u) (slots + g2 u) Q (F0 m (pc + 3) ls (va_rf r :: rest))) : W p l e R s m args below meth c H locs cells slots Q (F0 m pc ls st) := by
  have hm : ∀ w ∈ (Cond.code y bytes maxL2 ret2 :: GWc), w ∈ GWc := fun w h => by
    rcases List.mem_cons.mp h with h | h
    · subst h; exact hw.2.1
    · exact h
  refine W.know (fun hk1 hk2 => ?_)
  have hG : GoodIn GWc (va_wsSU own idx y (Cond.code y bytes maxL2 ret2 :: GWc)) := GWc_in (fun w h => by
    unfold va_wsSU at h
    rcases List.mem_append.mp h with h | h
    · simp only [List.mem_cons, List.not_mem_nil, or_false] at h
      rcases h with rfl | rfl | rfl | rfl | rfl
      · exact hw.1
      · exact hw2.1
      · exact hw2.2.1
      · exact hw2.2.2.1
      · exact hw2.2.2.2
    · exact hm w h)
  have hat : ClassAt s C2 (D.1 ci) := by rw [← hq2]; exact (C.K.1 ci q hq).2
  refine va_callq (va_runSU (g := F0 m pc ls st) (As := As) (rest := rest) hat ⟨C.x, C.b, C.ml, C.o, C.w⟩ hM (va_cwSU n C.w hG rfl rfl rfl ⟨hyn, hw.2.2.2.2⟩ hR) ⟨PcC.blind, hrv, PcC.mk C hS hP⟩ rfl hn hl hst hW hdg hcR) hS (fun q _ h => h) (fun q h => h) (fun r u t H1 locs1 ht hvm hw5 hB hz1 hk1 hS1 => ?_)
  obtain ⟨b1, b2, b3⟩ := hB
  rw [ht] at b1 b2 b3
  exact W.tight (by omega) (by omega) (kk r u H1 locs1 hw5 b1 hS1)
theorem c_max (C : CC p s m args meth c cc maxL ret own nm D cy sz0 sa A) (hl : ls.size = maxL) {idx : Nat} (h1 : Cond.methodLink own idx Lib.Math.max.name ∈ GWc) (h2 : Cond.static Lib.Math.max.name ∈ GWc) (h3 : Cond.initialized "java/lang/Math" ∈ GWc) (h4 : Cond.code Lib.Math.max.name Lib.Math.max.code 2 (some .int) ∈ GWc) (hf : 1 ≤ R.frames) (hlo : (rest.map fun v => v.category).sum + 13 ≤ R.locals) (hc : cells ≤ R.cells) (hs : slots ≤ R.slots) {x y : Int32} (hdg : decode cc pc = .ok (.invokestatic idx, 3))
    (kk : ∀ r : Int32, r.toInt = max x.toInt y.toInt → W p l e R s m args below meth c H locs cells slots Q (F0 m (pc + 3) ls (.int r :: rest))) : W p l e R s m args below meth c H locs cells slots Q (F0 m pc ls (.int y :: .int x :: rest)) := by
  refine va_mmax C.x C.b (C.ml.trans hl.symm) C.o (C.w _ h1) (C.w _ h2) (C.w _ h3) (C.w _ h4) hf hlo hc hs hdg (kk _ ?_)
  split
  · rename_i h
    rw [Int32.lt_iff_toInt_lt] at h; omega
  · rename_i h
    rw [Int32.lt_iff_toInt_lt] at h; omega
theorem c_min (C : CC p s m args meth c cc maxL ret own nm D cy sz0 sa A) (hl : ls.size = maxL) {idx : Nat} (h1 : Cond.methodLink own idx Lib.Math.min.name ∈ GWc) (h2 : Cond.static Lib.Math.min.name ∈ GWc) (h3 : Cond.initialized "java/lang/Math" ∈ GWc) (h4 : Cond.code Lib.Math.min.name Lib.Math.min.code 2 (some .int) ∈ GWc) (hf : 1 ≤ R.frames) (hlo : (rest.map fun v => v.category).sum + 13 ≤ R.locals) (hc : cells ≤ R.cells) (hs : slots ≤ R.slots) {x y : Int32} (hdg : decode cc pc = .ok (.invokestatic idx, 3))
    (kk : ∀ r : Int32, r.toInt = min x.toInt y.toInt → W p l e R s m args below meth c H locs cells slots Q (F0 m (pc + 3) ls (.int r :: rest))) : W p l e R s m args below meth c H locs cells slots Q (F0 m pc ls (.int y :: .int x :: rest)) := by
  refine va_mmin C.x C.b (C.ml.trans hl.symm) C.o (C.w _ h1) (C.w _ h2) (C.w _ h3) (C.w _ h4) hf hlo hc hs hdg (kk _ ?_)
  split
  · rename_i h
    rw [Int32.lt_iff_toInt_lt] at h; omega
  · rename_i h
    rw [Int32.lt_iff_toInt_lt] at h; omega
end CU
