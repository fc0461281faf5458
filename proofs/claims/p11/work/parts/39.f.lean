/-! ===== the class: what is thrown ===== -/
theorem thr_noS : ∀ w ∈ (vx_atS RX11 70 tISE tSup).filter (fun w => !goodWord w), w ∈ thrB tISE := by decide +kernel
section THR
variable {p : Program} {l : Launch} {e : Env} {R : Room} {s : State} {m : MethodId} {args : Array Value} {below : List Frame} {meth : Method} {c : Code} {H : Heap} {locs : List Loc} {cells slots : Nat} {Q : State → Prop}
variable {cc : ByteArray} {pc : Nat} {ls : Array Slot} {rest : List Value} {A : Nat → Prop} {D : va_G} {cy : Nat → ClassId} {sz0 : Nat} {sa : Nat → Nat} {ad : Nat → Nat} {κ : KS} {maxL : Nat} {ret : Option FieldType} {own nm : String}
theorem CH.grow {H1 : Heap} (h : CH D cy ad A κ H) (hq : ∀ q : Nat, q < H.size → H1[q]? = H[q]?) : CH D cy ad A κ H1 := by
  obtain ⟨L, h1, h2, h3⟩ := h
  exact ⟨L, h1.kept (fun k q hk => hq q.1 (h1 k q hk).lt), h2, h3⟩
theorem CM_ofX {y : MethodName} {rm : Room} {Qc : Array Value → State → Outcome → State → Prop} {XC : String → State → State → Prop} {av : List Value} {sz sl mc ms : Nat} {loc0 : List (Nat × Value)} (hy : plainName y.cls = true) (hyc : y.cls = own) (hyn : y.name = nm) (hloc : lv_args 0 av = loc0) (hle : (lg_sl av).length ≤ maxL) (hAF : ∀ q, A q → Fr sz0 q) (hA : ∀ q : Nat, sz ≤ q → A q)
    (hWk : ∀ (p : Program) (e : Env) (s : State) (m : MethodId) (below : List Frame) (meth : Method) (c : Code) (ls : Array Slot), s.heap.size = sz → SLT s.heap = sl → (∀ x ∈ c.exceptionTable.toList, False) → CC p s m av.toArray meth c cc maxL ret own nm D cy sz0 sa A → CH D cy ad A κ s.heap → va_S A s.heap s.heap [] → lv_has ls maxL loc0 → W p l e (headSpec (Cond.code y cc maxL ret :: GWc) rm).room s m av.toArray below meth c s.heap [] 0 0 (vx_MQ below Qc XC av.toArray s mc ms A) (F0 m 0 ls [])) :
    vx_Met l y (Cond.code y cc maxL ret :: GWc) rm (PcC D cy ad A sz0 sa av κ sz sl) Qc XC mc ms A := by
  refine vx_ofW (cc := cc) (maxL := maxL) (ret := ret) hy rfl ?_
  intro p e s m args below meth c s₁ B hml hout hv
  obtain ⟨rfl, hsz, hsl, hP, hE, hn, ht⟩ := hv
  have hts := atoms_spec (ws := Cond.code y cc maxL ret :: GWc) B.pre
  have hown : s.vm.findClass own = some m.cls := hyc ▸ findClass_of_methodNamed B.named
  have hl := lv_entry av (n := maxL) hle
  rw [lg_entry_eq]
  rw [hloc] at hl
  exact hWk p e s m below meth c _ hsz hsl hout ⟨B.exec, B.bytes, hml, B.returns, hown, fun w h => hts w (List.mem_cons_of_mem _ h), B.notSynchronized, hE, hn, ht, hAF, fun q h => hA q (by rw [← hsz]; exact h), ((name_of_methodNamed B.named B.method).1).trans hyn⟩ hP va_S.rf hl
/-- what a method of PhraseDesk has thrown, and the world behind -/
abbrev TX {S : Type} (D : va_G) (cy : Nat → ClassId) (ad : Nat → Nat) (A : Nat → Prop) (px : String → S → Prop) (f : S → KS) : String → State → State → Prop := fun E st t => ∃ u : S, px E u ∧ CH D cy ad A (f u) t.heap ∧ va_F A st t
theorem c_iae {S : Type} {px : String → S → Prop} {f : S → KS} {Qc : Array Value → State → Outcome → State → Prop} {mc ms is : Nat} {text : String} (C : CC p s m args meth c cc maxL ret RX11 nm D cy sz0 sa A) (hfl : l.stackTraces = false) (hout : ∀ x ∈ c.exceptionTable.toList, False) (u : S) (hp : px tIAE u) (hP : CH D cy ad A (f u) H) (hS : va_S A s.heap H locs) (hl : ls.size = maxL) (hk : Cond.classLink RX11 49 "java/lang/IllegalArgumentException" ∈ GWc) (hini : Cond.initialized "java/lang/IllegalArgumentException" ∈ GWc) (htx : (is, text) ∈ TXT)
    (d0 : decode cc pc = .ok (.new 49, 3)) (d3 : decode cc (pc + 3) = .ok (.dup, 1)) (d4 : decode cc (pc + 4) = .ok (.ldc is, 2)) (d6 : decode cc (pc + 6) = .ok (.invokespecial 53, 3)) (d9 : decode cc (pc + 9) = .ok (.athrow, 1))
    (hRf : 5 < R.frames) (hRl : (rest.map fun v => v.category).sum + 82 ≤ R.locals) (hRc : cells + 1 ≤ R.cells ∧ slots + 6 ≤ R.slots) (hm : cells + 1 ≤ mc ∧ slots + 6 ≤ ms) : W p l e R s m args below meth c H locs cells slots (vx_MQ below Qc (TX D cy ad A px f) args s mc ms A) (F0 m pc ls rest) :=
  g_iae C.x C.b hfl C.w C.en C.f C.o hk hini htx (fun w h => GWc_cX w (List.mem_append_left _ h)) hS (hl.trans C.ml.symm) d0 d3 d4 d6 d9 hout hRf hRl hRc.1 hRc.2 C.k (fun t _ h2 h3 => ⟨u, hp, hP.grow h3, Nat.le_trans hS.1 h2, fun q h4 h5 => (h3 q (Nat.lt_of_lt_of_le h4 hS.1)).trans (hS.2.1 q h4 h5)⟩) hS.2.2 hm.1 hm.2
theorem c_ise {S : Type} {px : String → S → Prop} {f : S → KS} {Qc : Array Value → State → Outcome → State → Prop} {mc ms is : Nat} {text : String} (C : CC p s m args meth c cc maxL ret RX11 nm D cy sz0 sa A) (hfl : l.stackTraces = false) (hout : ∀ x ∈ c.exceptionTable.toList, False) (u : S) (hp : px tISE u) (hP : CH D cy ad A (f u) H) (hS : va_S A s.heap H locs) (hl : ls.size = maxL) (hk : Cond.classLink RX11 66 "java/lang/IllegalStateException" ∈ GWc) (hini : Cond.initialized "java/lang/IllegalStateException" ∈ GWc) (htx : (is, text) ∈ TXT)
    (d0 : decode cc pc = .ok (.new 66, 3)) (d3 : decode cc (pc + 3) = .ok (.dup, 1)) (d4 : decode cc (pc + 4) = .ok (.ldc is, 2)) (d6 : decode cc (pc + 6) = .ok (.invokespecial 70, 3)) (d9 : decode cc (pc + 9) = .ok (.athrow, 1))
    (hRf : 5 < R.frames) (hRl : (rest.map fun v => v.category).sum + 82 ≤ R.locals) (hRc : cells + 1 ≤ R.cells ∧ slots + 6 ≤ R.slots) (hm : cells + 1 ≤ mc ∧ slots + 6 ≤ ms) : W p l e R s m args below meth c H locs cells slots (vx_MQ below Qc (TX D cy ad A px f) args s mc ms A) (F0 m pc ls rest) := by
  have hE := C.en
  have hU : vx_Zq Bundle.tN "UNASSIGNED_STACK" Bundle.steD A s s.heap := hE.2.2.1.2.1.narrow C.f
  have hN : vx_Zq Bundle.tN "SUPPRESSED_SENTINEL" Bundle.listD A s s.heap := hE.2.2.1.2.2.1.narrow C.f
  have hstr : vk_R RX11 is text (sa is) s := hE.2.2.2.1 _ htx
  obtain ⟨b1, b2, b3, -, b5⟩ := hE.2.2.2.2.2.1
  have hat : ∀ w ∈ vx_atS RX11 70 tISE tSup, w.before args s = true := vx_hat (fun w h => C.w _ (GWc_cX w (List.mem_append_right _ h))) thr_noS (vx_c (va_Nw.use rfl b1) (vx_c (va_Nw.use rfl b2) (vx_c (va_Nw.use rfl b3) (vx_c (va_Nw.use rfl b5) vx_n))))
  exact vx_throwS C.x C.b hfl C.o (by decide +kernel) (by decide +kernel) (C.w _ hk) (C.w _ hini) hstr hat (by decide +kernel) hU hN hS (hl.trans C.ml.symm) d0 d3 d4 d6 d9 (fun x hx => absurd (hout x hx) id) (by simpa [tSup] using hRf) (by simpa [tSup] using hRl) hRc.1 hRc.2 C.k (fun t _ h2 h3 => ⟨u, hp, hP.grow h3, Nat.le_trans hS.1 h2, fun q h4 h5 => (h3 q (Nat.lt_of_lt_of_le h4 hS.1)).trans (hS.2.1 q h4 h5)⟩) hS.2.2 hm.1 hm.2
end THR
theorem z_c8 {x : Int32} (h : 0 ≤ x.toInt ∧ x.toInt ≤ 255) : ((x.toUInt32 % 65536).toInt32).toInt = x.toInt := by
  obtain ⟨n, hn, e⟩ : ∃ n : Nat, n < 256 ∧ x = nI n := by
    refine ⟨x.toInt.toNat, by omega, Int32.toInt_inj.mp ?_⟩
    rw [nI_toInt (by omega)]; omega
  rw [e, (sb_byte n hn).2.1]
/-- the programs' costs -/
def QC (P : PL) (q : Nat → Option Nat) : Prop := ∀ i, cto P (q i) ≤ 82
theorem QC.ex {P P' : PL} {q : Nat → Option Nat} (h : QC P q) (hn : ∀ i, NT P 2 (q i)) (e : EX P P') : QC P' q := fun i => by rw [e.ct (hn i) (by decide)]; exact h i
theorem QC.up {P : PL} {q : Nat → Option Nat} {i : Nat} {r : Option Nat} (h : QC P q) (hr : cto P r ≤ 82) : QC P (va_up q i r) := fun j => by
  by_cases e : j = i
  · subst e; rw [vu_eq]; exact hr
  · rw [vu_ne e]; exact h j
