section
/-! ===== BEGIN words of one list among another's, by their places ===== -/
theorem goodIn_r {big : List Cond} (ws : List Cond) (ps : List Nat) (hp : ws = ps.filterMap (fun i => big[i]?)) (h : ws.all goodWord = true) : GoodIn big ws := by
  intro w hw
  have h1 := List.all_eq_true.mp h w hw
  rw [hp] at hw
  obtain ⟨i, -, hi⟩ := List.mem_filterMap.mp hw
  have hm : w ∈ big := by first | exact List.mem_of_getElem? hi | exact List.getElem?_mem hi
  exact ⟨hm, good_of_word h1⟩
theorem goodIn_app {big a b : List Cond} (ha : GoodIn big a) (hb : GoodIn big b) : GoodIn big (a ++ b) := fun w h => (List.mem_append.mp h).elim (ha w) (hb w)
theorem goodIn_ca {big a b : List Cond} {c : Cond} (ha : GoodIn big (c :: a)) (hb : GoodIn big b) : GoodIn big (c :: (a ++ b)) := fun w h => (List.mem_cons.mp h).elim (fun e => ha w (List.mem_cons.mpr (Or.inl e))) (fun h => (List.mem_append.mp h).elim (fun h => ha w (List.mem_cons.mpr (Or.inr h))) (hb w))
theorem goodIn_sub {big ws : List Cond} (hm : ∀ w ∈ ws, w ∈ big) (h : ws.all goodWord = true) : GoodIn big ws := fun w hw => ⟨hm w hw, good_of_word (List.all_eq_true.mp h w hw)⟩
/-! ===== END ===== -/

/-! ===== a throw that a row of the table catches, behind rows that it passes (own rows: the library's are not among what a round imports) ===== -/
section ZT
variable {e : Env} {f : JFrame} {a : Addr} {cell : Cell}
/-- one row that covers the place and names a class: it catches what can be assigned to it, else the search goes on; the link is noted in both cases -/
theorem zt_row {s : State} {Q : Handler → Pre} {E : CtlPost} {d : Bool} {acts : List Action} {y : ExceptionTableEntry} {t : List ExceptionTableEntry} {c : ClassId} (hy : covers y f.pc = true) (h0 : y.catchType ≠ 0)
    (hl : s.vm.ClassLinks e.platform f.method.cls y.catchType c) (hcell : s.heap[a]? = some cell) (hobj : ∀ k, cell.vm ≠ .statics k) (hk : ∃ k, s.vm.classes[cell.cls]? = some k) (hc : ∃ k, s.vm.classes[c]? = some k) :
    (s.vm.assignable cell.cls c = true → (wp (findHandler.go f a (y :: t)) Q E e d acts s ↔ Q (.found y.handlerPc) d acts (s.setVm (s.vm.noted f.method.cls y.catchType (.cls c))))) ∧
    (s.vm.assignable cell.cls c = false → (wp (findHandler.go f a (y :: t)) Q E e d acts s ↔ wp (findHandler.go f a t) Q E e d acts (s.setVm (s.vm.noted f.method.cls y.catchType (.cls c))))) := by
  have hy' := hy
  simp only [covers] at hy'
  obtain ⟨ha, ht⟩ := (resolveClass_links e.toSetting hl).op (op := VmOp.resolveClass f.method.cls y.catchType) rfl
  have hal : s.vm.Alike (s.vm.noted f.method.cls y.catchType (.cls c)) := (Vm.Alike.refl s.vm).noted _ _ _
  obtain ⟨k1, hk1⟩ := hk
  obtain ⟨k2, hk2⟩ := hc
  obtain ⟨k3, hk3, -⟩ := hal.2.2 _ _ hk1
  obtain ⟨k4, hk4, -⟩ := hal.2.2 _ _ hk2
  refine ⟨fun h => ?_, fun h => ?_⟩
  · have hsame : (s.vm.noted f.method.cls y.catchType (.cls c)).assignable cell.cls c = true := by rw [hal.assignable]; exact h
    simp [findHandler.go, hy', h0, ha, ht, hcell, hobj, hk3, hk4, hsame, VmOp.dirties, VmOp.acts]
  · have hsame : (s.vm.noted f.method.cls y.catchType (.cls c)).assignable cell.cls c = false := by rw [hal.assignable]; exact h
    simp [findHandler.go, hy', h0, ha, ht, hcell, hobj, hk3, hk4, hsame, VmOp.dirties, VmOp.acts]
theorem zt_go {s₀ : State} (hobj : ∀ k, cell.vm ≠ .statics k) (hk0 : ∃ k, s₀.vm.classes[cell.cls]? = some k) (x : ExceptionTableEntry) (rest : List ExceptionTableEntry) (hx : covers x f.pc = true) (h0 : x.catchType ≠ 0) {cx : ClassId}
    (hl : s₀.vm.ClassLinks e.platform f.method.cls x.catchType cx) (hfit : s₀.vm.assignable cell.cls cx = true) :
    ∀ (pre : List ExceptionTableEntry) (S : State), s₀.WarmedH S.vm → S.heap[a]? = some cell → (∀ y ∈ pre, covers y f.pc = false ∨ (y.catchType ≠ 0 ∧ ∃ c, s₀.vm.ClassLinks e.platform f.method.cls y.catchType c ∧ s₀.vm.assignable cell.cls c = false)) →
      ∃ vm', s₀.WarmedH vm' ∧ ∀ (Q : Handler → Pre) (E : CtlPost) (d : Bool) (acts : List Action), wp (findHandler.go f a (pre ++ x :: rest)) Q E e d acts S ↔ Q (.found x.handlerPc) d acts (S.setVm vm') := by
  obtain ⟨k0, hk0⟩ := hk0
  intro pre
  induction pre with
  | nil =>
    intro S hW hcell _
    obtain ⟨k1, hk1, -⟩ := hW.alike.2.2 _ _ hk0
    obtain ⟨dk, _, _, kt, hd, _, _, _, _, hkt, _, hopen⟩ := hl.here
    obtain ⟨k2, hk2, -⟩ := hW.alike.2.2 _ _ hkt
    exact ⟨_, hW.noted hd hopen (State.rightAt_cls hl), fun Q E d acts => (zt_row hx h0 (hW.classLinks hl) hcell hobj ⟨k1, hk1⟩ ⟨k2, hk2⟩).1 (by rw [hW.alike.assignable]; exact hfit)⟩
  | cons y ys ih =>
    intro S hW hcell hp
    have hr : ∀ z ∈ ys, covers z f.pc = false ∨ (z.catchType ≠ 0 ∧ ∃ c, s₀.vm.ClassLinks e.platform f.method.cls z.catchType c ∧ s₀.vm.assignable cell.cls c = false) := fun z hz => hp z (List.mem_cons_of_mem _ hz)
    cases hcov : covers y f.pc with
    | false =>
      obtain ⟨vm', hW', hq⟩ := ih S hW hcell hr
      exact ⟨vm', hW', fun Q E d acts => by rw [List.cons_append, W.findHandler_go_skip hcov]; exact hq Q E d acts⟩
    | true =>
      rcases hp y List.mem_cons_self with h | ⟨hy0, c, hly, hno⟩
      · rw [h] at hcov; cases hcov
      · obtain ⟨k1, hk1, -⟩ := hW.alike.2.2 _ _ hk0
        obtain ⟨dk, _, _, kt, hd, _, _, _, _, hkt, _, hopen⟩ := hly.here
        obtain ⟨k2, hk2, -⟩ := hW.alike.2.2 _ _ hkt
        obtain ⟨vm', hW', hq⟩ := ih (S.setVm (S.vm.noted f.method.cls y.catchType (.cls c))) (hW.noted hd hopen (State.rightAt_cls hly)) hcell hr
        exact ⟨vm', hW', fun Q E d acts => by
          rw [List.cons_append, (zt_row hcov hy0 (hW.classLinks hly) hcell hobj ⟨k1, hk1⟩ ⟨k2, hk2⟩).2 (by rw [hW.alike.assignable]; exact hno)]
          exact hq Q E d acts⟩
end ZT
theorem zt_steps {tb : Tables} {e : Env} {s target : State} {g : JFrame} {c : Code} {below : List Frame} {a : Addr} (h : At s g.method c below) {pc : Nat} {vm' : Vm}
    (hf : ∀ (Q : Handler → Pre) (E : CtlPost) (d : Bool) (acts : List Action), wp (findHandler g a) Q E e d acts ((s.setTop g).pushFrame (.throwing a)) ↔ Q (.found pc) d acts (((s.setTop g).pushFrame (.throwing a)).setVm vm'))
    (hrest : Steps tb e below ((s.setVm vm').setTop { g with pc := pc, stack := [.ref a] }) target) : Steps tb e below ((s.setTop g).pushFrame (.throwing a)) target := by
  obtain ⟨hgo, hw⟩ := h.throwing a
  refine Steps.head hgo hw ?_
  have hthr : (stepThrowing e ((s.setTop g).pushFrame (.throwing a)) a (.java g :: ((s.setTop g).pushFrame (.throwing a)).frames.tail.tail)).Is ((((s.setTop g).pushFrame (.throwing a)).setVm vm').setFrames (.java { g with pc := pc, stack := [.ref a] } :: ((s.setTop g).pushFrame (.throwing a)).frames.tail.tail)) [] := by
    simp only [stepThrowing, searchFrame, vmDo]
    generalize hr : Sem.go _ e false [] ((s.setTop g).pushFrame (.throwing a)) = res
    obtain ⟨as, rfl, ha⟩ := Sem.eq_ok_of hr (a := Handler.found pc) (s' := ((s.setTop g).pushFrame (.throwing a)).setVm vm') (acts' := []) (by simp [hf _ _ _ _])
    exact ⟨rfl, ha⟩
  obtain ⟨g₀, hg⟩ := Option.isSome_iff_exists.mp h.top
  obtain ⟨r, hr⟩ := State.topJava?_eq_some.mp hg
  have hcur : s.cur < s.threads.size := State.cur_lt_of_frames hr
  have hfr : ((s.setTop g).pushFrame (.throwing a)).frames = .throwing a :: .java g :: r := by
    rw [State.pushFrame, State.frames_setTop _ hr, State.setTop_of_frames _ hr, State.setFrames_setFrames, State.frames_setFrames _ hcur]
  have hr' : (s.setVm vm').frames = .java g₀ :: r := hr
  rw [State.setTop_of_frames _ hr'] at hrest
  rw [stepThread_throwing (frames_entered h.top _)]
  rw [hfr] at hthr
  simp only [List.tail_cons] at hthr
  rw [show s.frames.tail = r by rw [hr]; rfl, hthr.1]
  have hp : (s.setTop g).pushFrame (.throwing a) = s.setFrames (.throwing a :: .java g :: r) := by
    rw [State.pushFrame, State.frames_setTop _ hr, State.setTop_of_frames _ hr, State.setFrames_setFrames]
  rw [hp, show ((s.setFrames (.throwing a :: .java g :: r)).setVm vm') = (s.setVm vm').setFrames (.throwing a :: .java g :: r) from rfl, State.setFrames_setFrames]
  exact hrest
section ZS
variable {p : Program} {l : Launch} {e : Env} {R : Room} {s : State} {m₀ : MethodId} {args : Array Value} {below : List Frame} {meth : Method} {c : Code} {T : State} {locs : List Loc} {cells slots : Nat}
theorem zt_caught (X : Stand p l e R s m₀ args below meth c T locs cells slots) (a : Addr) {g : JFrame} (hg : g.method = m₀) {s₀ : State} (hcome : Steps p.tables e below s₀ ((T.setTop g).pushFrame (.throwing a)))
    {cell : Cell} (hcell : T.heap[a]? = some cell) (hobj : cell.vm.isStatics = false) (hk0 : ∃ k, s.vm.classes[cell.cls]? = some k) (pre : List ExceptionTableEntry) (x : ExceptionTableEntry) (rest : List ExceptionTableEntry) (hsplit : c.exceptionTable.toList = pre ++ x :: rest)
    (hpass : ∀ y ∈ pre, covers y g.pc = false ∨ (y.catchType ≠ 0 ∧ ∃ c, s.vm.ClassLinks e.platform m₀.cls y.catchType c ∧ s.vm.assignable cell.cls c = false)) (hx : covers x g.pc = true) (hend : x.catchType = 0 ∨ (x.catchType ≠ 0 ∧ ∃ c, s.vm.ClassLinks e.platform m₀.cls x.catchType c ∧ s.vm.assignable cell.cls c = true)) (h0 : x.catchType ≠ 0) :
    ∃ vm', Stand p l e R s m₀ args below meth c (T.setVm vm') locs cells slots ∧ Steps p.tables e below s₀ ((T.setVm vm').setTop { g with pc := x.handlerPc, stack := [.ref a] }) := by
  subst hg
  obtain ⟨-, cx, hl, hfit⟩ := hend.resolve_left h0
  have hw : s.WarmedH ((T.setTop g).pushFrame (.throwing a)).vm := X.warmed
  obtain ⟨vm', hW', hq⟩ := zt_go (e := e) (f := g) (a := a) (cell := cell) (VmData.ne_statics_of hobj) hk0 x rest hx h0 hl hfit pre ((T.setTop g).pushFrame (.throwing a)) hw hcell hpass
  refine ⟨vm', X.noted hW', hcome.trans (zt_steps X.here (fun Q E d acts => ?_) (Steps.refl _))⟩
  have hm9 : ((T.setTop g).pushFrame (.throwing a)).vm.method? g.method = some meth := X.method'
  rw [W.findHandler_eq (meth := meth) (code := c) hm9 X.code, hsplit]
  exact hq Q E d acts
end ZS
/-! ===== BEGIN exceptions that leave a method, and their catching by the caller (launches without stack traces) ===== -/
section VXA
/-! The laws vx_back, vx_callV, vx_callS, vx_callSW, vx_throw0, vx_throwS follow proofs of the library, with one case more: JvmDerived/Free/Laws.lean (Back.of_free), Shelf42/LK1.lean (callV, callS), Shelf/KitTraced.lean (throwNew0V, throwNewS). -/
/-- where a method has thrown q: the class by its name, the cell, what was written, the world -/
def vx_T (XC : String → State → State → Prop) (st : State) (q : Addr) (t : State) (mc ms : Nat) (free : Addr → Prop) : Prop :=
  ∃ (E : String) (ce : Cell) (L : List Loc), XC E st t ∧ t.heap[q]? = some ce ∧ ce.vm = .none ∧ st.vm.findClass E = some ce.cls ∧ st.WarmedH t.vm ∧ st.sameButNew ({ t with vm := st.vm } : State) L mc ms ∧ ∀ z ∈ L, free z.base
def vx_Q (Qc : Array Value → State → Outcome → State → Prop) (XC : String → State → State → Prop) (mc ms : Nat) (free : Addr → Prop) : Array Value → State → Outcome → State → Prop := fun a st o t =>
  (Qc a st o t ∧ ∃ L, FrameEnd st o t L mc ms ∧ ∀ q ∈ L, free q.base) ∨ ∃ q, o = .threw q ∧ vx_T XC st q t mc ms free
/-- a callee that returns or throws -/
def vx_Met (l : Launch) (y : MethodName) (ws : List Cond) (rm : Room) (Pc : Array Value → State → Prop) (Qc : Array Value → State → Outcome → State → Prop) (XC : String → State → State → Prop) (mc ms : Nat) (free : Addr → Prop) : Prop :=
  MetFree l y (headSpec ws rm) Pc (fun _ _ _ _ _ => True) (vx_Q Qc XC mc ms free)
def vx_Post (XC : String → State → State → Prop) (mc ms : Nat) (free : Addr → Prop) : Pt → Array Value → Addr → Pt → Prop := fun A a q B =>
  ∃ (g : JFrame) (mk : MethodId) (t : State) (L : List Loc) (E : String) (ce : Cell), B.U.heap = t.heap ∧ B.U.vm = t.vm ∧ XC E (A.U.calling g mk a) t ∧ t.heap[q]? = some ce ∧ ce.vm = .none ∧ A.U.vm.findClass E = some ce.cls ∧ B.locs = A.locs ++ L ∧ (∀ z ∈ L, free z.base) ∧ B.cells = A.cells + mc ∧ B.slots = A.slots + ms
def vx_Back (l : Launch) (R : Room) (p : Program) (e : Env) (below : List Frame) (s : State) (sargs : Array Value) (y : MethodName) (len W9 : Nat)
    (Pre : Pt → Array Value → Prop) (Post : Pt → Array Value → Option Value → Pt → Prop) (PostX : Pt → Array Value → Addr → Pt → Prop) : Prop :=
  ∀ (m : MethodId) (meth : Method) (c : Code) (A : Pt) (g : JFrame) (ig : Instr) (mk : MethodId) (a : Array Value),
    Stand p l e R s m sargs below meth c A.U A.locs A.cells A.slots → g.method = m → g.locals.size = c.maxLocals → decode c.code g.pc = .ok (ig, len) →
    2 * g.monitorRoom + (g.stack.map fun v => v.category).sum ≤ W9 → A.U.methodNamed? y = some mk → Pre A a →
    (∃ (v : Option Value) (B : Pt), Stand p l e R s m sargs below meth c B.U B.locs B.cells B.slots ∧ Post A a v B ∧
      Steps p.tables e below (doInvoke e (A.U.setTop g) [] mk a).1 (B.U.setTop { g with pc := g.pc + len, stack := v.toList ++ g.stack })) ∨
    (∃ (q : Addr) (B : Pt), Stand p l e R s m sargs below meth c B.U B.locs B.cells B.slots ∧ PostX A a q B ∧
      Steps p.tables e below (doInvoke e (A.U.setTop g) [] mk a).1 ((B.U.setTop g).pushFrame (.throwing q)))
section Payer
variable {l : Launch} {R : Room} {p : Program} {e : Env} {below : List Frame} {s : State} {sargs : Array Value} {y : MethodName} {len W9 : Nat}
theorem vx_back {ws : List Cond} {rm : Room} {Pc : Array Value → State → Prop} {Qc : Array Value → State → Outcome → State → Prop} {XC : String → State → State → Prop} {mc ms : Nat} {free : Addr → Prop} {bytes : ByteArray} {maxL : Nat} {ret : Option FieldType}
    (hM : vx_Met l y ws rm Pc Qc XC mc ms free) (hblind : FrameBlind Pc) (hrc : rm.cells = mc) (hrs : rm.slots = ms)
    (hframes : rm.frames + 1 ≤ R.frames) (hlocals : W9 + (maxL + 11) + rm.locals ≤ R.locals)
    (hws : ∀ w ∈ ws, ∀ a' U, s.WarmedH U.vm → w.before a' U = true) (hcode : Cond.code y bytes maxL ret ∈ ws) (hinit : ∀ a' U, s.WarmedH U.vm → (Cond.initialized y.cls).before a' U = true) :
    vx_Back l R p e below s sargs y len W9 (PreOf R mc ms Pc) (PostOf Qc mc ms free) (vx_Post XC mc ms free) := by
  intro m meth c A g ig mk a X hg hsize hdg hW hn hp
  have h1 : (headSpec ws rm).pre.before a A.U = true := atoms_intro fun w hw => hws w hw _ _ X.warmed
  have h2 : (Cond.code y bytes maxL ret).before a A.U = true := hws _ hcode _ _ X.warmed
  have h3 : (Cond.initialized y.cls).before a A.U = true := hinit _ _ X.warmed
  have h4 : A.cells + (headSpec ws rm).room.cells ≤ R.cells := by rw [show (headSpec ws rm).room.cells = mc from hrc]; exact hp.1
  have h5 : A.slots + (headSpec ws rm).room.slots ≤ R.slots := by rw [show (headSpec ws rm).room.slots = ms from hrs]; exact hp.2.1
  have hPc : Pc a (A.U.calling g mk a) := hblind _ _ _ _ hp.2.2
  obtain ⟨U, Ls, c0, s0⟩ := A
  dsimp only [Pt.U, Pt.locs, Pt.cells, Pt.slots] at h1 h2 h3 h4 h5 X hn hPc ⊢
  obtain ⟨methY, cY, hmY, hcY, -, hlY, -, -, -, -⟩ := Cond.code_spec hn h2
  obtain ⟨kY, hkY, -⟩ := className_of_methodNamed hn
  have hinitY : kY.init = .initialized := Cond.initialized_spec (findClass_of_methodNamed hn) hkY h3
  have h : At U g.method c below := by rw [hg]; exact X.here
  have hlocals9 : W9 + (maxL + 11) + (headSpec ws rm).room.locals ≤ R.locals := hlocals
  have happ : (headSpec ws rm).appliesLoose y e.platform (U.calling g mk a) = true :=
    Spec.appliesLoose_calling (g := g) h hdg hn hkY hinitY
      (X.room_calling (g := g) (R' := (headSpec ws rm).room) hsize hmY hcY hframes (by rw [hlY]; omega) h4 h5) h1
  obtain ⟨mid, hmid⟩ := h.above
  have hfr : (U.setTop g).frames = (.java g :: mid) ++ below := by rw [State.frames_setTop' g h.top, hmid]; rfl
  obtain ⟨o, s₂, hsteps, -, hend, hq⟩ := Steps.callFree hM p X.admits X.cas X.clock (acts := []) hfr happ hPc trivial
  have hq' : vx_Q Qc XC mc ms free a (U.calling g mk a) o s₂ := hq
  rw [State.frames_setTop' g h.top] at hend
  obtain ⟨g₀, hg0⟩ := Option.isSome_iff_exists.mp h.top
  obtain ⟨r, hr⟩ := State.topJava?_eq_some.mp hg0
  have hr' : (({ U with heap := s₂.heap, slotsUsed := s₂.slotsUsed } : State).setVm s₂.vm).frames = .java g₀ :: r := hr
  rcases hq' with ⟨hqc, L, hfe, hL⟩ | ⟨q, rfl, E, ce, L, hx, hce, hcv, hcl, hW₂, hsm, hL⟩
  · obtain ⟨⟨v, rfl⟩, hW₂, e2, q2, q3, q4, q5, q6⟩ := id hfe
    have e3 : s₂ = ({ (U.calling g mk a).setFrames s₂.frames with heap := s₂.heap, slotsUsed := s₂.slotsUsed } : State).setVm s₂.vm := by
      have : s₂ = ({ s₂ with vm := (U.calling g mk a).vm } : State).setVm s₂.vm := rfl
      rw [e2] at this
      exact this
    obtain ⟨c₂, i₂, len₂, hc₂, hd₂, hf₂⟩ := hend
    have hW' : U.WarmedH s₂.vm := hW₂
    have hcc : c₂ = c := by
      have h1 : s₂.code? g.method = U.code? g.method := by
        rw [State.code?_eq, State.code?_eq, hW'.alike.method?]
      exact Option.some.inj (hc₂.symm.trans (h1.trans h.code))
    subst hcc
    have hlen : len₂ = len := by rw [hdg] at hd₂; cases hd₂; rfl
    subst hlen
    have hs₂ : s₂ = (({ U with heap := s₂.heap, slotsUsed := s₂.slotsUsed } : State).setVm s₂.vm).setTop { g with pc := g.pc + len₂, stack := v.toList ++ g.stack } := by
      refine e3.trans ?_
      rw [hf₂, State.calling_eq h.top, State.setFrames_setFrames, State.setTop_of_frames _ hr', hr]
      rfl
    have hsame : U.sameButNew ({ U with heap := s₂.heap, slotsUsed := s₂.slotsUsed } : State) L mc ms := by
      refine ⟨?_, q2, q3, q4, q5, q6⟩
      obtain ⟨t, ht, -⟩ := State.frames_cons hr
      show ({ U with heap := s₂.heap, slotsUsed := s₂.slotsUsed } : State) = { U.setFrames U.frames with heap := s₂.heap, slotsUsed := s₂.slotsUsed }
      rw [State.setFrames_self ht]
    subst hg
    refine Or.inl ⟨v, ⟨(({ U with heap := s₂.heap, slotsUsed := s₂.slotsUsed } : State).setVm s₂.vm), Ls ++ L, c0 + mc, s0 + ms⟩,
      ⟨X.admits, X.cas, X.clock, X.frames, X.room, X.hears, X.method, X.code, (X.here.setHeapUsed s₂.heap s₂.slotsUsed).setVm hW'.alike, X.tail, State.WarmedH.trans X.warmed hW', X.limits, X.bytes, X.same.trans (hsame.setVm s.vm)⟩,
      ⟨g, mk, s₂, L, rfl, rfl, hqc, rfl, hL, rfl, rfl⟩, ?_⟩
    show Steps p.tables e below _ ((({ U with heap := s₂.heap, slotsUsed := s₂.slotsUsed } : State).setVm s₂.vm).setTop { g with pc := g.pc + len₂, stack := v.toList ++ g.stack })
    rw [← hs₂]
    exact hsteps
  · obtain ⟨e2, q2, q3, q4, q5, q6⟩ := id hsm
    have e3 : s₂ = ({ (U.calling g mk a).setFrames s₂.frames with heap := s₂.heap, slotsUsed := s₂.slotsUsed } : State).setVm s₂.vm := by
      have : s₂ = ({ s₂ with vm := (U.calling g mk a).vm } : State).setVm s₂.vm := rfl
      rw [e2] at this
      exact this
    have hf₂ : s₂.frames = .throwing q :: .java g :: U.frames.tail := hend
    have hW' : U.WarmedH s₂.vm := hW₂
    have hs₂ : s₂ = ((({ U with heap := s₂.heap, slotsUsed := s₂.slotsUsed } : State).setVm s₂.vm).setTop g).pushFrame (.throwing q) := by
      refine e3.trans ?_
      rw [hf₂, State.calling_eq h.top, State.setFrames_setFrames, State.pushFrame, State.frames_setTop _ hr', State.setTop_of_frames _ hr', State.setFrames_setFrames, hr]
      rfl
    have hsame : U.sameButNew ({ U with heap := s₂.heap, slotsUsed := s₂.slotsUsed } : State) L mc ms := by
      refine ⟨?_, q2, q3, q4, q5, q6⟩
      obtain ⟨t, ht, -⟩ := State.frames_cons hr
      show ({ U with heap := s₂.heap, slotsUsed := s₂.slotsUsed } : State) = { U.setFrames U.frames with heap := s₂.heap, slotsUsed := s₂.slotsUsed }
      rw [State.setFrames_self ht]
    subst hg
    refine Or.inr ⟨q, ⟨(({ U with heap := s₂.heap, slotsUsed := s₂.slotsUsed } : State).setVm s₂.vm), Ls ++ L, c0 + mc, s0 + ms⟩,
      ⟨X.admits, X.cas, X.clock, X.frames, X.room, X.hears, X.method, X.code, (X.here.setHeapUsed s₂.heap s₂.slotsUsed).setVm hW'.alike, X.tail, State.WarmedH.trans X.warmed hW', X.limits, X.bytes, X.same.trans (hsame.setVm s.vm)⟩,
      ⟨g, mk, s₂, L, E, ce, rfl, rfl, hx, hce, hcv, hcl, rfl, hL, rfl, rfl⟩, ?_⟩
    show Steps p.tables e below _ (((({ U with heap := s₂.heap, slotsUsed := s₂.slotsUsed } : State).setVm s₂.vm).setTop g).pushFrame (.throwing q))
    rw [← hs₂]
    exact hsteps
end Payer
section Calls
variable {p : Program} {l : Launch} {e : Env} {R : Room} {s : State} {m : MethodId} {args : Array Value} {below : List Frame} {meth : Method} {c : Code} {T : State} {locs : List Loc} {cells slots : Nat}
theorem vx_callV (X : Stand p l e R s m args below meth c T locs cells slots) (hexec : p.tables.exec = Jvm.exec) {own C : String} {index : Nat} {y : MethodName} {bytes : ByteArray} {maxL : Nat} {ret : Option FieldType}
    (hown : s.vm.findClass own = some m.cls) (hlink : (Cond.methodLink own index y).before args s = true) (hinst : (Cond.instanceMethod y).before args s = true) (hsel : (Cond.selects C y y).before args s = true)
    (hcode : (Cond.code y bytes maxL ret).before args s = true) (hy : y.cls ≠ "java/lang/invoke/MethodHandle" ∧ y.cls ≠ "java/lang/invoke/VarHandle")
    {W9 : Nat} {Pre : Pt → Array Value → Prop} {Post : Pt → Array Value → Option Value → Pt → Prop} {PostX : Pt → Array Value → Addr → Pt → Prop} (hK : vx_Back l R p e below s args y 3 W9 Pre Post PostX)
    {b : Addr} {cellB : Cell} (hcell : T.heap[b]? = some cellB) (hobj : cellB.vm.isStatics = false) (hcls : s.vm.findClass C = some cellB.cls)
    {g : JFrame} (hg : g.method = m) (hsize : g.locals.size = c.maxLocals) {argsL rest : List Value} (hlen : ∀ sig, parseMethodDescriptor y.desc = some sig → argsL.length = sig.parameters.length)
    (hstack : g.stack = argsL.reverse ++ .ref b :: rest) (hW : 2 * g.monitorRoom + (rest.map fun v => v.category).sum ≤ W9) (hdg : decode c.code g.pc = .ok (.invokevirtual index, 3))
    (hpre : ∀ vm₁, s.WarmedH vm₁ → Pre ⟨T.setVm vm₁, locs, cells, slots⟩ (Value.ref b :: argsL).toArray) :
    (∃ (v : Option Value) (vm₁ : Vm) (B : Pt), s.WarmedH vm₁ ∧ Stand p l e R s m args below meth c B.U B.locs B.cells B.slots ∧ Post ⟨T.setVm vm₁, locs, cells, slots⟩ (Value.ref b :: argsL).toArray v B ∧
      ∀ target, Steps p.tables e below (B.U.setTop { g with pc := g.pc + 3, stack := v.toList ++ rest }) target → Steps p.tables e below (T.setTop g) target) ∨
    (∃ (q : Addr) (vm₁ : Vm) (B : Pt), s.WarmedH vm₁ ∧ Stand p l e R s m args below meth c B.U B.locs B.cells B.slots ∧ PostX ⟨T.setVm vm₁, locs, cells, slots⟩ (Value.ref b :: argsL).toArray q B ∧
      Steps p.tables e below (T.setTop g) ((B.U.setTop { g with stack := rest }).pushFrame (.throwing q))) := by
  obtain ⟨mk, methM, hnamed, hmethM, hstM, habM⟩ := Cond.instanceMethod_spec hinst
  obtain ⟨methM', cM, hmethM', -, -, -, -, -, -, hsigM⟩ := Cond.code_spec hnamed hcode
  cases hmethM.symm.trans hmethM'
  obtain ⟨c2, r2, m2, q1, q2, q3, q4, kP, hkP, hkPi⟩ := Cond.selects_spec hsel
  cases hcls.symm.trans q1
  cases (State.methodFound?_of_named hnamed hy).symm.trans q2
  cases hnamed.symm.trans q3
  have hselP : selectMethod e.platform s.vm cellB.cls mk = .method mk := by rw [Launch.admits_selectMethod X.admits]; exact q4
  obtain ⟨vm₁, X₁, hstep₁⟩ := X.invokevirtual hexec hown hlink hnamed hmethM hstM hkP hkPi hy (a := b) (cell := cellB) hcell
    (fun z h => by rw [h] at hobj; cases hobj) hselP hmethM habM hkP hkPi (g := g) hg (argsL := argsL) (rest := rest) (hlen _ hsigM) hstack hdg
  rcases hK m meth c ⟨T.setVm vm₁, locs, cells, slots⟩ { g with stack := rest } (.invokevirtual index) mk (Value.ref b :: argsL).toArray X₁ hg hsize hdg hW (X₁.named hnamed) (hpre vm₁ X₁.warmed) with ⟨v, B, X', hpost, hsteps⟩ | ⟨q, B, X', hpost, hsteps⟩
  · exact Or.inl ⟨v, vm₁, B, X₁.warmed, X', hpost, fun target h => hstep₁ _ fun acts => by rw [doInvoke_state]; exact hsteps.trans h⟩
  · exact Or.inr ⟨q, vm₁, B, X₁.warmed, X', hpost, hstep₁ _ fun acts => by rw [doInvoke_state]; exact hsteps⟩
theorem vx_callS (X : Stand p l e R s m args below meth c T locs cells slots) (hexec : p.tables.exec = Jvm.exec) {own : String} {index : Nat} {y : MethodName} {bytes : ByteArray} {maxL : Nat} {ret : Option FieldType}
    (hown : s.vm.findClass own = some m.cls) (hlink : (Cond.methodLink own index y).before args s = true) (hstat : (Cond.static y).before args s = true) (hinit : (Cond.initialized y.cls).before args s = true)
    (hcode : (Cond.code y bytes maxL ret).before args s = true) (hy : y.cls ≠ "java/lang/invoke/MethodHandle" ∧ y.cls ≠ "java/lang/invoke/VarHandle")
    {W9 : Nat} {Pre : Pt → Array Value → Prop} {Post : Pt → Array Value → Option Value → Pt → Prop} {PostX : Pt → Array Value → Addr → Pt → Prop} (hK : vx_Back l R p e below s args y 3 W9 Pre Post PostX)
    {g : JFrame} (hg : g.method = m) (hsize : g.locals.size = c.maxLocals) {argsL rest : List Value} (hlen : ∀ sig, parseMethodDescriptor y.desc = some sig → argsL.length = sig.parameters.length)
    (hstack : g.stack = argsL.reverse ++ rest) (hW : 2 * g.monitorRoom + (rest.map fun v => v.category).sum ≤ W9) (hdg : decode c.code g.pc = .ok (.invokestatic index, 3))
    (hpre : ∀ vm₁, s.WarmedH vm₁ → Pre ⟨T.setVm vm₁, locs, cells, slots⟩ argsL.toArray) :
    (∃ (v : Option Value) (vm₁ : Vm) (B : Pt), s.WarmedH vm₁ ∧ Stand p l e R s m args below meth c B.U B.locs B.cells B.slots ∧ Post ⟨T.setVm vm₁, locs, cells, slots⟩ argsL.toArray v B ∧
      ∀ target, Steps p.tables e below (B.U.setTop { g with pc := g.pc + 3, stack := v.toList ++ rest }) target → Steps p.tables e below (T.setTop g) target) ∨
    (∃ (q : Addr) (vm₁ : Vm) (B : Pt), s.WarmedH vm₁ ∧ Stand p l e R s m args below meth c B.U B.locs B.cells B.slots ∧ PostX ⟨T.setVm vm₁, locs, cells, slots⟩ argsL.toArray q B ∧
      Steps p.tables e below (T.setTop g) ((B.U.setTop { g with stack := rest }).pushFrame (.throwing q))) := by
  obtain ⟨mk, hnamed⟩ := Cond.code_named hcode
  obtain ⟨methM, cM, hmethM, -, -, -, -, -, -, hsigM⟩ := Cond.code_spec hnamed hcode
  have hstatic : methM.isStatic = true := Cond.static_spec hnamed hmethM hstat
  obtain ⟨kP, hkP, -⟩ := className_of_methodNamed hnamed
  have hinitP : kP.init = .initialized := Cond.initialized_spec (findClass_of_methodNamed hnamed) hkP hinit
  obtain ⟨vm₁, X₁, hstep₁⟩ := X.invokestatic hexec hown hlink hnamed hmethM hstatic hkP hinitP hy (g := g) hg (argsL := argsL) (rest := rest) (hlen _ hsigM) hstack hdg
  rcases hK m meth c ⟨T.setVm vm₁, locs, cells, slots⟩ { g with stack := rest } (.invokestatic index) mk argsL.toArray X₁ hg hsize hdg hW (X₁.named hnamed) (hpre vm₁ X₁.warmed) with ⟨v, B, X', hpost, hsteps⟩ | ⟨q, B, X', hpost, hsteps⟩
  · exact Or.inl ⟨v, vm₁, B, X₁.warmed, X', hpost, fun target h => hstep₁ _ fun acts => by rw [doInvoke_state]; exact hsteps.trans h⟩
  · exact Or.inr ⟨q, vm₁, B, X₁.warmed, X', hpost, hstep₁ _ fun acts => by rw [doInvoke_state]; exact hsteps⟩
end Calls
theorem vx_cls {s : State} {T : State} {vm₁ : Vm} {E : String} {k : ClassId} (hW : s.WarmedH vm₁) (h : (T.setVm vm₁).vm.findClass E = some k) : s.vm.findClass E = some k := by
  have h1 : vm₁.findClass E = some k := h
  rw [hW.alike.findClass] at h1
  exact h1
/-- the method's frame g, with q thrown over it -/
def vx_W (p : Program) (l : Launch) (e : Env) (R : Room) (s : State) (m : MethodId) (args : Array Value) (below : List Frame) (meth : Method) (c : Code) (H : Heap) (locs : List Loc) (cells slots : Nat) (Q : State → Prop) (g : JFrame) (q : Addr) : Prop :=
  ∀ T : State, T.heap = H → Stand p l e R s m args below meth c T locs cells slots → ∃ t, Steps p.tables e below ((T.setTop g).pushFrame (.throwing q)) t ∧ Q t
def vx_Run (p : Program) (l : Launch) (e : Env) (R : Room) (s : State) (m : MethodId) (args : Array Value) (below : List Frame) (meth : Method) (c : Code) (H : Heap) (locs : List Loc) (cells slots mc ms : Nat) (g : JFrame) (rest : List Value) (Qa : State → Outcome → State → Prop) (XC : String → State → State → Prop) (free : Addr → Prop) : Prop :=
  ∀ T : State, T.heap = H → Stand p l e R s m args below meth c T locs cells slots →
    (∃ (v : Option Value) (st₀ t T' : State) (L : List Loc), st₀.heap = H ∧ Stand p l e R s m args below meth c T' (locs ++ L) (cells + mc) (slots + ms) ∧ (∀ q ∈ L, free q.base) ∧ T'.heap = t.heap ∧ T'.vm = t.vm ∧ Qa st₀ (.returned v) t ∧
      Goes p e below T g T' { g with pc := g.pc + 3, stack := v.toList ++ rest }) ∨
    (∃ (q : Addr) (st₀ t T' : State) (L : List Loc) (E : String) (ce : Cell), st₀.heap = H ∧ Stand p l e R s m args below meth c T' (locs ++ L) (cells + mc) (slots + ms) ∧ (∀ z ∈ L, free z.base) ∧ T'.heap = t.heap ∧ T'.vm = t.vm ∧ XC E st₀ t ∧ t.heap[q]? = some ce ∧ ce.vm = .none ∧ s.vm.findClass E = some ce.cls ∧
      Steps p.tables e below (T.setTop g) ((T'.setTop { g with stack := rest }).pushFrame (.throwing q)))
def vx_X {S : Type} (px : S → Prop) (B : String → S → State → Prop) (A : Nat → Prop) : String → State → State → Prop := fun E st t => ∃ u : S, px u ∧ B E u t ∧ va_F A st t
section Runs
variable {p : Program} {l : Launch} {e : Env} {R : Room} {s : State} {m : MethodId} {args : Array Value} {below : List Frame} {meth : Method} {c : Code} {H : Heap} {locs : List Loc} {cells slots : Nat}
variable {y : MethodName} {bytes cc : ByteArray} {maxL nL mc ms n index : Nat} {ret : Option FieldType} {ws : List Cond} {rm : Room} {Pc : Array Value → State → Prop} {Qc : Array Value → State → Outcome → State → Prop} {XC : String → State → State → Prop} {free : Addr → Prop} {Ts : List Cond} {own C : String} {b : Addr} {As rest : List Value} {g : JFrame}
theorem vx_callBack (cb : CallB R s args own index y bytes maxL ret ws rm mc ms n) (hM : vx_Met l y ws rm Pc Qc XC mc ms free) (hbl : FrameBlind Pc) : vx_Back l R p e below s args y 3 8 (PreOf R mc ms Pc) (PostOf Qc mc ms free) (vx_Post XC mc ms free) := by
  obtain ⟨hrc, hrs, hfr, hlo, hws, hcw, -, hini, -⟩ := cb
  exact vx_back (bytes := bytes) (maxL := maxL) (ret := ret) hM hbl hrc hrs hfr hlo hws hcw (fun a' U hW => word_at hW (Or.inl (by first | rfl | simp [Cond.onTables, Cond.keeps, Cond.steady])) hini)
theorem vx_runV (S : CallFix p m c cc nL s args Ts own) (hM : vx_Met l y ws rm Pc Qc XC mc ms free) (cw : CallW R s args own C index y bytes maxL ret ws rm mc ms n) (hp : PreV s H C b Pc As)
    (hg : g.method = m) (hn : As.length = n) (hsize : g.locals.size = nL) (hstack : g.stack = As.reverse ++ .ref b :: rest) (hW : 2 * g.monitorRoom + (rest.map fun v => v.category).sum ≤ 8) (hdg : decode cc g.pc = .ok (.invokevirtual index, 3)) (hf : cells + mc ≤ R.cells ∧ slots + ms ≤ R.slots) :
    vx_Run p l e R s m args below meth c H locs cells slots mc ms g rest (Qc (Value.ref b :: As).toArray) XC free := by
  have hK : vx_Back l R p e below s args y 3 8 (PreOf R mc ms Pc) (PostOf Qc mc ms free) (vx_Post XC mc ms free) := vx_callBack cw.1 hM hp.1
  obtain ⟨⟨-, -, -, -, -, -, hcode, -, hy, hlen, hl⟩, hin, hse⟩ := cw
  obtain ⟨hx, hb, hml, ho, -⟩ := S
  obtain ⟨-, ⟨cellB, hcB, hoB, hclB⟩, hPc⟩ := hp
  intro T hT X
  rcases vx_callV X hx (C := C) (bytes := bytes) (maxL := maxL) (ret := ret) ho hl hin hse hcode hy hK (by rw [hT]; exact hcB) hoB hclB hg (hsize.trans hml.symm) (argsL := As) (rest := rest) (fun sig h => hn.trans (hlen sig h)) hstack hW (by rw [hb]; exact hdg)
    (fun vm₁ hW₁ => ⟨hf.1, hf.2, hPc (T.setVm vm₁) hT hW₁⟩) with ⟨v, vm₁, ⟨U', l2, c2, s2⟩, hW₁, X', ⟨g', mk, t, L, e1, e2, hq, h1, hL, h2, h3⟩, st⟩ | ⟨q, vm₁, ⟨U', l2, c2, s2⟩, hW₁, X', ⟨g', mk, t, L, E, ce, e1, e2, hq, hce, hcv, hcl, h1, hL, h2, h3⟩, st⟩
  · dsimp only [Pt.U, Pt.locs, Pt.cells, Pt.slots] at X' e1 e2 h1 h2 h3 st
    subst h1; subst h2; subst h3
    exact Or.inl ⟨v, (T.setVm vm₁).calling g' mk (Value.ref b :: As).toArray, t, U', L, hT, X', hL, e1, e2, hq, st⟩
  · dsimp only [Pt.U, Pt.locs, Pt.cells, Pt.slots] at X' e1 e2 h1 h2 h3 st hcl
    subst h1; subst h2; subst h3
    exact Or.inr ⟨q, (T.setVm vm₁).calling g' mk (Value.ref b :: As).toArray, t, U', L, E, ce, hT, X', hL, e1, e2, hq, hce, hcv, vx_cls hW₁ hcl, st⟩
theorem vx_runS (S : CallFix p m c cc nL s args Ts own) (hM : vx_Met l y ws rm Pc Qc XC mc ms free) (cw : CallB R s args own index y bytes maxL ret ws rm mc ms n ∧ (Cond.static y).before args s = true) (hp : PreS s H Pc As)
    (hg : g.method = m) (hn : As.length = n) (hsize : g.locals.size = nL) (hstack : g.stack = As.reverse ++ rest) (hW : 2 * g.monitorRoom + (rest.map fun v => v.category).sum ≤ 8) (hdg : decode cc g.pc = .ok (.invokestatic index, 3)) (hf : cells + mc ≤ R.cells ∧ slots + ms ≤ R.slots) :
    vx_Run p l e R s m args below meth c H locs cells slots mc ms g rest (Qc As.toArray) XC free := by
  have hK : vx_Back l R p e below s args y 3 8 (PreOf R mc ms Pc) (PostOf Qc mc ms free) (vx_Post XC mc ms free) := vx_callBack cw.1 hM hp.1
  obtain ⟨⟨-, -, -, -, -, -, hcode, hini, hy, hlen, hl⟩, hstt⟩ := cw
  obtain ⟨hx, hb, hml, ho, -⟩ := S
  intro T hT X
  rcases vx_callS X hx (bytes := bytes) (maxL := maxL) (ret := ret) ho hl hstt hini hcode hy hK hg (hsize.trans hml.symm) (argsL := As) (rest := rest) (fun sig h => hn.trans (hlen sig h)) hstack hW (by rw [hb]; exact hdg)
    (fun vm₁ hW₁ => ⟨hf.1, hf.2, hp.2 (T.setVm vm₁) hT hW₁⟩) with ⟨v, vm₁, ⟨U', l2, c2, s2⟩, hW₁, X', ⟨g', mk, t, L, e1, e2, hq, h1, hL, h2, h3⟩, st⟩ | ⟨q, vm₁, ⟨U', l2, c2, s2⟩, hW₁, X', ⟨g', mk, t, L, E, ce, e1, e2, hq, hce, hcv, hcl, h1, hL, h2, h3⟩, st⟩
  · dsimp only [Pt.U, Pt.locs, Pt.cells, Pt.slots] at X' e1 e2 h1 h2 h3 st
    subst h1; subst h2; subst h3
    exact Or.inl ⟨v, (T.setVm vm₁).calling g' mk As.toArray, t, U', L, hT, X', hL, e1, e2, hq, st⟩
  · dsimp only [Pt.U, Pt.locs, Pt.cells, Pt.slots] at X' e1 e2 h1 h2 h3 st hcl
    subst h1; subst h2; subst h3
    exact Or.inr ⟨q, (T.setVm vm₁).calling g' mk As.toArray, t, U', L, E, ce, hT, X', hL, e1, e2, hq, hce, hcv, vx_cls hW₁ hcl, st⟩
end Runs
section Rows
variable {p : Program} {l : Launch} {e : Env} {R : Room} {s : State} {m : MethodId} {args : Array Value} {below : List Frame} {meth : Method} {c : Code} {H : Heap} {locs : List Loc} {cells slots : Nat} {Q : State → Prop}
variable {mc ms : Nat} {free : Addr → Prop} {A0 A1 : Nat → Prop} {H0 : Heap} {a : Array Value} {pc : Nat} {ls : Array Slot} {st0 rest : List Value}
theorem vx_keep {st₀ t T' : State} {L : List Loc} (h0 : st₀.heap = H) (e1 : T'.heap = t.heap) (hS : va_S A0 H0 H locs) (hA : ∀ q, q < H.size → A1 q → A0 q) (hf : ∀ q, free q → A0 q) (hL : ∀ q ∈ L, free q.base) (hF : va_F A1 st₀ t) :
    H.size ≤ T'.heap.size ∧ (∀ q : Nat, q < H.size → ¬ A1 q → T'.heap[q]? = H[q]?) ∧ va_S A0 H0 T'.heap (locs ++ L) := by
  obtain ⟨hz, hk⟩ := hF
  rw [h0] at hz hk
  exact ⟨by rw [e1]; exact hz, fun q h1 h2 => by rw [e1]; exact hk q h1 h2,
    ⟨Nat.le_trans hS.1 (by rw [e1]; exact hz), fun q h1 h2 => by rw [e1, hk q (Nat.lt_of_lt_of_le h1 hS.1) (fun z => h2 (hA q (Nat.lt_of_lt_of_le h1 hS.1) z))]; exact hS.2.1 q h1 h2, fun q hq => by
      rcases List.mem_append.mp hq with h | h
      · exact hS.2.2 q h
      · exact hf _ (hL q h)⟩⟩
theorem vx_calli {S SX : Type} {post : Int32 → S → Prop} {px : SX → Prop} {B : S → State → Prop} {BX : String → SX → State → Prop} {AX : Nat → Prop} (hr : vx_Run p l e R s m args below meth c H locs cells slots mc ms (F0 m pc ls st0) rest (va_Qi post B A1 a) (vx_X px BX AX) free) (hS : va_S A0 H0 H locs) (hA : ∀ q, q < H.size → A1 q → A0 q) (hf : ∀ q, free q → A0 q) (hAX : ∀ q, q < H.size → AX q → A0 q)
    (kx : ∀ (E : String) (ce : Cell) (q9 : Addr) (u : SX) (t : State) (H1 : Heap) (locs1 : List Loc), t.heap = H1 → s.vm.Alike t.vm → px u → BX E u t → H.size ≤ H1.size → (∀ q : Nat, q < H.size → ¬ AX q → H1[q]? = H[q]?) → va_S A0 H0 H1 locs1 → H1[q9]? = some ce → ce.vm = .none → s.vm.findClass E = some ce.cls → vx_W p l e R s m args below meth c H1 locs1 (cells + mc) (slots + ms) Q (F0 m pc ls rest) q9)
    (kk : ∀ (r : Int32) (u : S) (t : State) (H1 : Heap) (locs1 : List Loc), t.heap = H1 → s.vm.Alike t.vm → post r u → B u t → H.size ≤ H1.size → (∀ q : Nat, q < H.size → ¬ A1 q → H1[q]? = H[q]?) → va_S A0 H0 H1 locs1 → W p l e R s m args below meth c H1 locs1 (cells + mc) (slots + ms) Q (F0 m (pc + 3) ls (.int r :: rest))) : W p l e R s m args below meth c H locs cells slots Q (F0 m pc ls st0) := by
  intro T hT X
  rcases hr T hT X with ⟨v, st₀, t, T', L, h0, X', hL, e1, e2, ⟨⟨r, u, hv, hp, hb⟩, hF⟩, st⟩ | ⟨q, st₀, t, T', L, E, ce, h0, X', hL, e1, e2, ⟨u, hp, hb, hF⟩, hce, hcv, hcl, st⟩
  · cases hv
    obtain ⟨k1, k2, k3⟩ := vx_keep h0 e1 hS hA hf hL hF
    obtain ⟨t2, a1, b1⟩ := kk r u t T'.heap (locs ++ L) e1.symm (by rw [← e2]; exact X'.warmed.alike) hp hb k1 k2 k3 T' rfl X'
    exact ⟨t2, st t2 a1, b1⟩
  · obtain ⟨k1, k2, k3⟩ := vx_keep h0 e1 hS hAX hf hL hF
    obtain ⟨t2, a1, b1⟩ := kx E ce q u t T'.heap (locs ++ L) e1.symm (by rw [← e2]; exact X'.warmed.alike) hp hb k1 k2 k3 (by rw [e1]; exact hce) hcv hcl T' rfl X'
    exact ⟨t2, st.trans a1, b1⟩
theorem vx_calll {S SX : Type} {post : Int64 → S → Prop} {px : SX → Prop} {B : S → State → Prop} {BX : String → SX → State → Prop} {AX : Nat → Prop} (hr : vx_Run p l e R s m args below meth c H locs cells slots mc ms (F0 m pc ls st0) rest (va_Ql post B A1 a) (vx_X px BX AX) free) (hS : va_S A0 H0 H locs) (hA : ∀ q, q < H.size → A1 q → A0 q) (hf : ∀ q, free q → A0 q) (hAX : ∀ q, q < H.size → AX q → A0 q)
    (kx : ∀ (E : String) (ce : Cell) (q9 : Addr) (u : SX) (t : State) (H1 : Heap) (locs1 : List Loc), t.heap = H1 → s.vm.Alike t.vm → px u → BX E u t → H.size ≤ H1.size → (∀ q : Nat, q < H.size → ¬ AX q → H1[q]? = H[q]?) → va_S A0 H0 H1 locs1 → H1[q9]? = some ce → ce.vm = .none → s.vm.findClass E = some ce.cls → vx_W p l e R s m args below meth c H1 locs1 (cells + mc) (slots + ms) Q (F0 m pc ls rest) q9)
    (kk : ∀ (r : Int64) (u : S) (t : State) (H1 : Heap) (locs1 : List Loc), t.heap = H1 → s.vm.Alike t.vm → post r u → B u t → H.size ≤ H1.size → (∀ q : Nat, q < H.size → ¬ A1 q → H1[q]? = H[q]?) → va_S A0 H0 H1 locs1 → W p l e R s m args below meth c H1 locs1 (cells + mc) (slots + ms) Q (F0 m (pc + 3) ls (.long r :: rest))) : W p l e R s m args below meth c H locs cells slots Q (F0 m pc ls st0) := by
  intro T hT X
  rcases hr T hT X with ⟨v, st₀, t, T', L, h0, X', hL, e1, e2, ⟨⟨r, u, hv, hp, hb⟩, hF⟩, st⟩ | ⟨q, st₀, t, T', L, E, ce, h0, X', hL, e1, e2, ⟨u, hp, hb, hF⟩, hce, hcv, hcl, st⟩
  · cases hv
    obtain ⟨k1, k2, k3⟩ := vx_keep h0 e1 hS hA hf hL hF
    obtain ⟨t2, a1, b1⟩ := kk r u t T'.heap (locs ++ L) e1.symm (by rw [← e2]; exact X'.warmed.alike) hp hb k1 k2 k3 T' rfl X'
    exact ⟨t2, st t2 a1, b1⟩
  · obtain ⟨k1, k2, k3⟩ := vx_keep h0 e1 hS hAX hf hL hF
    obtain ⟨t2, a1, b1⟩ := kx E ce q u t T'.heap (locs ++ L) e1.symm (by rw [← e2]; exact X'.warmed.alike) hp hb k1 k2 k3 (by rw [e1]; exact hce) hcv hcl T' rfl X'
    exact ⟨t2, st.trans a1, b1⟩
theorem vx_callf {S SX : Type} {post : UInt32 → S → Prop} {px : SX → Prop} {B : S → State → Prop} {BX : String → SX → State → Prop} {AX : Nat → Prop} (hr : vx_Run p l e R s m args below meth c H locs cells slots mc ms (F0 m pc ls st0) rest (va_Qf post B A1 a) (vx_X px BX AX) free) (hS : va_S A0 H0 H locs) (hA : ∀ q, q < H.size → A1 q → A0 q) (hf : ∀ q, free q → A0 q) (hAX : ∀ q, q < H.size → AX q → A0 q)
    (kx : ∀ (E : String) (ce : Cell) (q9 : Addr) (u : SX) (t : State) (H1 : Heap) (locs1 : List Loc), t.heap = H1 → s.vm.Alike t.vm → px u → BX E u t → H.size ≤ H1.size → (∀ q : Nat, q < H.size → ¬ AX q → H1[q]? = H[q]?) → va_S A0 H0 H1 locs1 → H1[q9]? = some ce → ce.vm = .none → s.vm.findClass E = some ce.cls → vx_W p l e R s m args below meth c H1 locs1 (cells + mc) (slots + ms) Q (F0 m pc ls rest) q9)
    (kk : ∀ (r : UInt32) (u : S) (t : State) (H1 : Heap) (locs1 : List Loc), t.heap = H1 → s.vm.Alike t.vm → post r u → B u t → H.size ≤ H1.size → (∀ q : Nat, q < H.size → ¬ A1 q → H1[q]? = H[q]?) → va_S A0 H0 H1 locs1 → W p l e R s m args below meth c H1 locs1 (cells + mc) (slots + ms) Q (F0 m (pc + 3) ls (.float r :: rest))) : W p l e R s m args below meth c H locs cells slots Q (F0 m pc ls st0) := by
  intro T hT X
  rcases hr T hT X with ⟨v, st₀, t, T', L, h0, X', hL, e1, e2, ⟨⟨r, u, hv, hp, hb⟩, hF⟩, st⟩ | ⟨q, st₀, t, T', L, E, ce, h0, X', hL, e1, e2, ⟨u, hp, hb, hF⟩, hce, hcv, hcl, st⟩
  · cases hv
    obtain ⟨k1, k2, k3⟩ := vx_keep h0 e1 hS hA hf hL hF
    obtain ⟨t2, a1, b1⟩ := kk r u t T'.heap (locs ++ L) e1.symm (by rw [← e2]; exact X'.warmed.alike) hp hb k1 k2 k3 T' rfl X'
    exact ⟨t2, st t2 a1, b1⟩
  · obtain ⟨k1, k2, k3⟩ := vx_keep h0 e1 hS hAX hf hL hF
    obtain ⟨t2, a1, b1⟩ := kx E ce q u t T'.heap (locs ++ L) e1.symm (by rw [← e2]; exact X'.warmed.alike) hp hb k1 k2 k3 (by rw [e1]; exact hce) hcv hcl T' rfl X'
    exact ⟨t2, st.trans a1, b1⟩
theorem vx_calld {S SX : Type} {post : UInt64 → S → Prop} {px : SX → Prop} {B : S → State → Prop} {BX : String → SX → State → Prop} {AX : Nat → Prop} (hr : vx_Run p l e R s m args below meth c H locs cells slots mc ms (F0 m pc ls st0) rest (va_Qd post B A1 a) (vx_X px BX AX) free) (hS : va_S A0 H0 H locs) (hA : ∀ q, q < H.size → A1 q → A0 q) (hf : ∀ q, free q → A0 q) (hAX : ∀ q, q < H.size → AX q → A0 q)
    (kx : ∀ (E : String) (ce : Cell) (q9 : Addr) (u : SX) (t : State) (H1 : Heap) (locs1 : List Loc), t.heap = H1 → s.vm.Alike t.vm → px u → BX E u t → H.size ≤ H1.size → (∀ q : Nat, q < H.size → ¬ AX q → H1[q]? = H[q]?) → va_S A0 H0 H1 locs1 → H1[q9]? = some ce → ce.vm = .none → s.vm.findClass E = some ce.cls → vx_W p l e R s m args below meth c H1 locs1 (cells + mc) (slots + ms) Q (F0 m pc ls rest) q9)
    (kk : ∀ (r : UInt64) (u : S) (t : State) (H1 : Heap) (locs1 : List Loc), t.heap = H1 → s.vm.Alike t.vm → post r u → B u t → H.size ≤ H1.size → (∀ q : Nat, q < H.size → ¬ A1 q → H1[q]? = H[q]?) → va_S A0 H0 H1 locs1 → W p l e R s m args below meth c H1 locs1 (cells + mc) (slots + ms) Q (F0 m (pc + 3) ls (.double r :: rest))) : W p l e R s m args below meth c H locs cells slots Q (F0 m pc ls st0) := by
  intro T hT X
  rcases hr T hT X with ⟨v, st₀, t, T', L, h0, X', hL, e1, e2, ⟨⟨r, u, hv, hp, hb⟩, hF⟩, st⟩ | ⟨q, st₀, t, T', L, E, ce, h0, X', hL, e1, e2, ⟨u, hp, hb, hF⟩, hce, hcv, hcl, st⟩
  · cases hv
    obtain ⟨k1, k2, k3⟩ := vx_keep h0 e1 hS hA hf hL hF
    obtain ⟨t2, a1, b1⟩ := kk r u t T'.heap (locs ++ L) e1.symm (by rw [← e2]; exact X'.warmed.alike) hp hb k1 k2 k3 T' rfl X'
    exact ⟨t2, st t2 a1, b1⟩
  · obtain ⟨k1, k2, k3⟩ := vx_keep h0 e1 hS hAX hf hL hF
    obtain ⟨t2, a1, b1⟩ := kx E ce q u t T'.heap (locs ++ L) e1.symm (by rw [← e2]; exact X'.warmed.alike) hp hb k1 k2 k3 (by rw [e1]; exact hce) hcv hcl T' rfl X'
    exact ⟨t2, st.trans a1, b1⟩
theorem vx_callv {S SX : Type} {post : S → Prop} {px : SX → Prop} {B : S → State → Prop} {BX : String → SX → State → Prop} {AX : Nat → Prop} (hr : vx_Run p l e R s m args below meth c H locs cells slots mc ms (F0 m pc ls st0) rest (va_Qv post B A1 a) (vx_X px BX AX) free) (hS : va_S A0 H0 H locs) (hA : ∀ q, q < H.size → A1 q → A0 q) (hf : ∀ q, free q → A0 q) (hAX : ∀ q, q < H.size → AX q → A0 q)
    (kx : ∀ (E : String) (ce : Cell) (q9 : Addr) (u : SX) (t : State) (H1 : Heap) (locs1 : List Loc), t.heap = H1 → s.vm.Alike t.vm → px u → BX E u t → H.size ≤ H1.size → (∀ q : Nat, q < H.size → ¬ AX q → H1[q]? = H[q]?) → va_S A0 H0 H1 locs1 → H1[q9]? = some ce → ce.vm = .none → s.vm.findClass E = some ce.cls → vx_W p l e R s m args below meth c H1 locs1 (cells + mc) (slots + ms) Q (F0 m pc ls rest) q9)
    (kk : ∀ (u : S) (t : State) (H1 : Heap) (locs1 : List Loc), t.heap = H1 → s.vm.Alike t.vm → post u → B u t → H.size ≤ H1.size → (∀ q : Nat, q < H.size → ¬ A1 q → H1[q]? = H[q]?) → va_S A0 H0 H1 locs1 → W p l e R s m args below meth c H1 locs1 (cells + mc) (slots + ms) Q (F0 m (pc + 3) ls (rest))) : W p l e R s m args below meth c H locs cells slots Q (F0 m pc ls st0) := by
  intro T hT X
  rcases hr T hT X with ⟨v, st₀, t, T', L, h0, X', hL, e1, e2, ⟨⟨u, hv, hp, hb⟩, hF⟩, st⟩ | ⟨q, st₀, t, T', L, E, ce, h0, X', hL, e1, e2, ⟨u, hp, hb, hF⟩, hce, hcv, hcl, st⟩
  · cases hv
    obtain ⟨k1, k2, k3⟩ := vx_keep h0 e1 hS hA hf hL hF
    obtain ⟨t2, a1, b1⟩ := kk u t T'.heap (locs ++ L) e1.symm (by rw [← e2]; exact X'.warmed.alike) hp hb k1 k2 k3 T' rfl X'
    exact ⟨t2, st t2 a1, b1⟩
  · obtain ⟨k1, k2, k3⟩ := vx_keep h0 e1 hS hAX hf hL hF
    obtain ⟨t2, a1, b1⟩ := kx E ce q u t T'.heap (locs ++ L) e1.symm (by rw [← e2]; exact X'.warmed.alike) hp hb k1 k2 k3 (by rw [e1]; exact hce) hcv hcl T' rfl X'
    exact ⟨t2, st.trans a1, b1⟩
/-- caught by the row x of this method's table; the rows ahead don't take it -/
theorem vx_catch {own name : String} {E : String} {ce : Cell} {q : Addr} (hown : s.vm.findClass own = some m.cls) (pre : List ExceptionTableEntry) (x : ExceptionTableEntry) (suf : List ExceptionTableEntry) (hsplit : c.exceptionTable.toList = pre ++ x :: suf)
    (hpass : ∀ z ∈ pre, covers z pc = false ∨ (z.catchType ≠ 0 ∧ ∃ nm : String, (Cond.classLink own z.catchType nm).before args s = true ∧ va_Nc E nm s)) (hx : covers x pc = true) (h0 : x.catchType ≠ 0)
    (hlink : (Cond.classLink own x.catchType name).before args s = true) (hcast : (Cond.castable E name).before args s = true) (hcell : H[q]? = some ce) (hv : ce.vm = .none) (hcl : s.vm.findClass E = some ce.cls)
    (kk : W p l e R s m args below meth c H locs cells slots Q (F0 m x.handlerPc ls [.ref q])) : vx_W p l e R s m args below meth c H locs cells slots Q (F0 m pc ls rest) q := by
  intro T hT X
  have hpl : e.platform.magicAccessors = ({} : Platform).magicAccessors := by rw [X.admits.platform]
  obtain ⟨c3, c4, hc3, hc4, hasg⟩ := Cond.castable_spec hcast
  cases Option.some.inj (hc3.symm.trans hcl)
  obtain ⟨c5, hc5, hcl5⟩ := Cond.classLink_spec hown hlink e.platform hpl
  cases Option.some.inj (hc4.symm.trans hc5)
  obtain ⟨vm', X', st⟩ := zt_caught X q (g := F0 m pc ls rest) rfl (Steps.refl _) (by rw [hT]; exact hcell) (by rw [hv]; rfl) (by obtain ⟨k9, h9, -⟩ := Vm.findClass_spec hcl; exact ⟨k9, h9⟩) pre x suf hsplit
    (fun z hz => by
      rcases hpass z hz with h | ⟨hz0, nm, hl1, hn1⟩
      · exact Or.inl h
      · obtain ⟨c6, hc6, hcl6⟩ := Cond.classLink_spec hown hl1 e.platform hpl
        obtain ⟨a8, b8, h1, h2, h3⟩ := hn1
        cases Option.some.inj (h1.symm.trans hcl)
        cases Option.some.inj (h2.symm.trans hc6)
        exact Or.inr ⟨hz0, _, hcl6, h3⟩) hx (Or.inr ⟨h0, c4, hcl5, hasg⟩) h0
  obtain ⟨t, a1, b1⟩ := kk (T.setVm vm') hT X'
  exact ⟨t, st.trans a1, b1⟩
end Rows
section Ends
variable {p : Program} {l : Launch} {e : Env} {R : Room} {s : State} {m : MethodId} {args : Array Value} {below : List Frame} {meth : Method} {c : Code} {H : Heap} {locs : List Loc} {cells slots : Nat} {Q : State → Prop}
variable {mc ms : Nat} {free : Addr → Prop} {A0 A1 : Nat → Prop} {H0 : Heap} {a : Array Value} {ls : Array Slot} {st0 rest : List Value}
variable {Qc : Array Value → State → Outcome → State → Prop} {XC : String → State → State → Prop}
/-- what a body that may throw owes at its end -/
def vx_MQ (below : List Frame) (Qc : Array Value → State → Outcome → State → Prop) (XC : String → State → State → Prop) (a : Array Value) (s : State) (mc ms : Nat) (free : Addr → Prop) : State → Prop := fun t =>
  ∃ o, t.status = .running ∧ Ended t below o ∧ vx_Q Qc XC mc ms free a s o t
theorem vx_ret {g : JFrame} {mc ms : Nat} (k : W p l e R s m args below meth c H locs cells slots (MQ below Qc args s mc ms free) g) : W p l e R s m args below meth c H locs cells slots (vx_MQ below Qc XC args s mc ms free) g := by
  intro T hT X
  obtain ⟨t, a1, o, b1, b2, b3, b4⟩ := k T hT X
  exact ⟨t, a1, o, b1, b2, Or.inl ⟨b3, b4⟩⟩
/-- not caught here: it goes on to the caller -/
theorem vx_widen {g : JFrame} {q : Addr} {k n : Nat} (h1 : cells ≤ k) (h2 : slots ≤ n) (kk : vx_W p l e R s m args below meth c H locs k n Q g q) : vx_W p l e R s m args below meth c H locs cells slots Q g q := fun T hT X => kk T hT (stand_widen X h1 h2)
theorem vx_out {pc : Nat} {E : String} {ce : Cell} {q : Addr} {mc ms : Nat} (hout : ∀ x ∈ c.exceptionTable.toList, covers x pc = false) (hlocks : meth.locks = false) (hcell : H[q]? = some ce) (hv : ce.vm = .none) (hcl : s.vm.findClass E = some ce.cls)
    (hx : ∀ t : State, t.heap = H → s.vm.Alike t.vm → XC E s t) (hf : ∀ z ∈ locs, free z.base) (hc : cells ≤ mc) (hs : slots ≤ ms) :
    vx_W p l e R s m args below meth c H locs cells slots (vx_MQ below Qc XC args s mc ms free) (F0 m pc ls rest) q := by
  intro T hT X
  obtain ⟨st1, hrun, hend, hW, hsm⟩ := X.leaveThrown q (g := F0 m pc ls rest) rfl rfl rfl hout hlocks
  have hcell9 : (T.setFrames (.throwing q :: below)).heap[q]? = some ce := by
    show T.heap[q]? = some ce
    rw [hT]; exact hcell
  exact ⟨_, st1, .threw q, hrun, hend, Or.inr ⟨q, rfl, E, ce, locs, hx _ hT hW.alike, hcell9, hv, hcl, hW, hsm.mono hc hs, hf⟩⟩
theorem vx_frame {U : State} {k n : Nat} (h : s.sameButNew ({ U with vm := s.vm } : State) locs k n) : s.heap.size ≤ U.heap.size ∧ ∀ q : Nat, q < s.heap.size → (∀ z ∈ locs, z.base ≠ q) → U.heap[q]? = s.heap[q]? := by
  obtain ⟨-, h2, -, -, -, h6⟩ := h
  refine ⟨h2, fun q hq hz => ?_⟩
  obtain ⟨c9, e1, e2, e3, e4⟩ := h6 q _ (Array.getElem?_eq_getElem hq)
  have hs : c9.slots = (s.heap[q]).slots := Array.ext_getElem? fun i => e4 i fun hm => hz _ hm rfl
  have h9 : c9 = s.heap[q] := by
    rw [hs] at e2
    exact e2
  have e5 : U.heap[q]? = some c9 := e1
  rw [e5, h9, Array.getElem?_eq_getElem hq]
/-- the words of a throw but the four that speak of the heap -/
def vx_no (w : Cond) : Bool := decide (w ≠ .isRef (.static Bundle.tN "UNASSIGNED_STACK" Bundle.steD)) && decide (w ≠ .isRef (.static Bundle.tN "SUPPRESSED_SENTINEL" Bundle.listD)) && decide (w ≠ .laysStatic Bundle.tN "UNASSIGNED_STACK" Bundle.steD) && decide (w ≠ .laysStatic Bundle.tN "SUPPRESSED_SENTINEL" Bundle.listD)
def vx_at0 (own : String) (ic : Nat) (X : String) (names : List String) : List Cond := (Bundle.ownAtoms0 own ic X names).filter vx_no
def vx_atS (own : String) (ic : Nat) (X : String) (names : List String) : List Cond := (Bundle.ownAtoms own ic X names).filter vx_no
/-- a word that the tables alone decide, or a good one -/
def vx_ot (w : Cond) : Bool := w.onTables || goodWord w
theorem vx_ot_at {args a' : Array Value} {s U : State} {w : Cond} (hW : s.WarmedH U.vm) (hvm : s.vm = U.vm) (hg : vx_ot w = true) (h : w.before args s = true) : w.before a' U = true := by
  simp only [vx_ot, Bool.or_eq_true] at hg
  rcases hg with hg | hg
  · exact va_tabs hg hvm h
  · exact word_at hW (good_of_word hg) h
/-- a list's words: the good ones out of the method's own list, the others by premises of their own -/
theorem vx_hat {args : Array Value} {s : State} {L B : List Cond} (h1 : ∀ w ∈ L.filter goodWord, w.before args s = true) (h2 : ∀ w ∈ L.filter (fun w => !goodWord w), w ∈ B) (h3 : ∀ w ∈ B, w.before args s = true) : ∀ w ∈ L, w.before args s = true := by
  intro w hw
  by_cases g : goodWord w = true
  · exact h1 w (List.mem_filter.mpr ⟨hw, g⟩)
  · refine h3 w (h2 w (List.mem_filter.mpr ⟨hw, ?_⟩))
    show (!goodWord w) = true
    cases hgw : goodWord w
    · rfl
    · exact absurd hgw g
theorem vx_c {args : Array Value} {s : State} {w : Cond} {B : List Cond} (h : w.before args s = true) (t : ∀ w ∈ B, w.before args s = true) : ∀ w' ∈ w :: B, w'.before args s = true := fun w' h' => (List.mem_cons.mp h').elim (fun e => by rw [e]; exact h) (t w')
theorem vx_n {args : Array Value} {s : State} : ∀ w ∈ ([] : List Cond), w.before args s = true := fun _ h => nomatch h
theorem vx_own {args : Array Value} {s : State} {L : List Cond} (h1 : ∀ w ∈ L.filter vx_no, w.before args s = true)
    (hU : (Cond.isRef (.static Bundle.tN "UNASSIGNED_STACK" Bundle.steD)).before args s = true) (hN : (Cond.isRef (.static Bundle.tN "SUPPRESSED_SENTINEL" Bundle.listD)).before args s = true)
    (lU : (Cond.laysStatic Bundle.tN "UNASSIGNED_STACK" Bundle.steD).before args s = true) (lN : (Cond.laysStatic Bundle.tN "SUPPRESSED_SENTINEL" Bundle.listD).before args s = true) : ∀ w ∈ L, w.before args s = true := by
  intro w hw
  by_cases e1 : w = .isRef (.static Bundle.tN "UNASSIGNED_STACK" Bundle.steD)
  · rw [e1]; exact hU
  · by_cases e2 : w = .isRef (.static Bundle.tN "SUPPRESSED_SENTINEL" Bundle.listD)
    · rw [e2]; exact hN
    · by_cases e3 : w = .laysStatic Bundle.tN "UNASSIGNED_STACK" Bundle.steD
      · rw [e3]; exact lU
      · by_cases e4 : w = .laysStatic Bundle.tN "SUPPRESSED_SENTINEL" Bundle.listD
        · rw [e4]; exact lN
        · exact h1 w (List.mem_filter.mpr ⟨hw, by unfold vx_no; rw [decide_eq_true e1, decide_eq_true e2, decide_eq_true e3, decide_eq_true e4]; rfl⟩)
/-- where a static field lies, its class's statics cell in H -/
def vx_L (C n d : String) (A : Nat → Prop) (U : State) (H : Heap) : Prop := ∃ (c : ClassId) (k : Class) (i : Nat) (f : Field) (a : Nat) (cell : Cell), U.vm.findClass C = some c ∧ U.fieldFound? C n d = some (c, k, i, f) ∧ f.isStatic = true ∧ k.statics = some a ∧ H[a]? = some cell ∧ cell.vm.isStatics = true ∧ cell.cls = c ∧ f.slot < cell.slots.size ∧ k.staticTypes[f.slot]? = some f.type ∧ ¬ A a
theorem vx_L.moved {C n d : String} {A : Nat → Prop} {u U : State} {H : Heap} (hvm : u.vm.Alike U.vm) (h : vx_L C n d A u H) : vx_L C n d A U H := by
  obtain ⟨c, k, i, f, a, cell, h1, h2, h3, h4, h5, h6, h7, h8, h9, h10⟩ := h
  obtain ⟨k', hi', he⟩ := State.fieldFound?_setVm hvm h2
  exact ⟨c, k', i, f, a, cell, by rw [hvm.findClass]; exact h1, hi', h3, by rw [he]; exact h4, h5, h6, h7, h8, by rw [he]; exact h9, h10⟩
theorem vx_L.kept {C n d : String} {A : Nat → Prop} {U : State} {H H1 : Heap} (h : vx_L C n d A U H) (hq : ∀ a : Nat, a < H.size → ¬ A a → H1[a]? = H[a]?) : vx_L C n d A U H1 := by
  obtain ⟨c, k, i, f, a, cell, h1, h2, h3, h4, h5, h6, h7, h8, h9, h10⟩ := h
  exact ⟨c, k, i, f, a, cell, h1, h2, h3, h4, by rw [hq a (Array.getElem?_eq_some_iff.mp h5).1 h10]; exact h5, h6, h7, h8, h9, h10⟩
theorem vx_L.narrow {C n d : String} {A B : Nat → Prop} {U : State} {H : Heap} (h : vx_L C n d A U H) (hAB : ∀ q, B q → A q) : vx_L C n d B U H := by
  obtain ⟨c, k, i, f, a, cell, h1, h2, h3, h4, h5, h6, h7, h8, h9, h10⟩ := h
  exact ⟨c, k, i, f, a, cell, h1, h2, h3, h4, h5, h6, h7, h8, h9, fun z => h10 (hAB _ z)⟩
theorem vx_L.word {C n d : String} {A : Nat → Prop} {s : State} {args : Array Value} (h : vx_L C n d A s s.heap) : (Cond.laysStatic C n d).before args s = true := by
  obtain ⟨c, k, i, f, a, cell, h1, h2, h3, h4, h5, h6, h7, h8, h9, -⟩ := h
  show (Cond.laysStatic C n d).holds args s none s [] = true
  exact Cond.laysStatic_of h1 h2 h3 h4 h5 h6 h7 h8 h9
/-- .. and what it holds: null or some reference -/
def vx_Zq (C n d : String) (A : Nat → Prop) (U : State) (H : Heap) : Prop := va_Zq C n d A U H ∧ vx_L C n d A U H
theorem vx_Zq.moved {C n d : String} {A : Nat → Prop} {u U : State} {H : Heap} (hvm : u.vm.Alike U.vm) (h : vx_Zq C n d A u H) : vx_Zq C n d A U H := ⟨va_Zq.moved hvm h.1, vx_L.moved hvm h.2⟩
theorem vx_Zq.kept {C n d : String} {A : Nat → Prop} {U : State} {H H1 : Heap} (h : vx_Zq C n d A U H) (hq : ∀ a : Nat, a < H.size → ¬ A a → H1[a]? = H[a]?) : vx_Zq C n d A U H1 := ⟨va_Zq.kept h.1 hq, vx_L.kept h.2 hq⟩
theorem vx_Zq.narrow {C n d : String} {A B : Nat → Prop} {U : State} {H : Heap} (h : vx_Zq C n d A U H) (hAB : ∀ q, B q → A q) : vx_Zq C n d B U H := ⟨va_Zq.narrow h.1 hAB, vx_L.narrow h.2 hAB⟩
theorem vx_Zqof {args : Array Value} {s : State} {C n d : String} {A : Nat → Prop} (hl : (Cond.laysStatic C n d).before args s = true) (hini : (Cond.initialized C).before args s = true) (h : (Cond.isRef (.static C n d)).before args s = true) (hA : ∀ a : Nat, a < s.heap.size → ¬ A a) : vx_Zq C n d A s s.heap := by
  refine ⟨va_Zqof hl hini h hA, ?_⟩
  obtain ⟨c, k, i, f, a, cell, h1, h2, h3, h4, h5, h6, h7, h8, h9⟩ := Cond.laysStatic_spec hl
  exact ⟨c, k, i, f, a, cell, h1, h2, h3, h4, h5, h6, h7, h8, h9, hA a (Array.getElem?_eq_some_iff.mp h5).1⟩
theorem vx_isRef {C n d : String} {v : Value} {A : Nat → Prop} {s : State} {args : Array Value} (h : va_Z C n d v A s s.heap) (hv : v.isRef = true) : (Cond.isRef (.static C n d)).before args s = true := by
  obtain ⟨cf, kf, fi, f, a, cell, h1, h2, h3, h4, h5, h6, h7, -⟩ := h
  have he : (Term.static C n d).eval args s none [] s = some v := by
    simp [Term.eval, State.fieldNamed?, h1, h2, h4, h5, h6, h7]
  simp only [Cond.before, Cond.holds, Cond.value, he]
  cases v <;> simp_all [Value.isRef]
theorem vx_isRefq {C n d : String} {A : Nat → Prop} {s : State} {args : Array Value} (h : va_Zq C n d A s s.heap) : (Cond.isRef (.static C n d)).before args s = true := by
  rcases h with h | ⟨t, h⟩
  · exact vx_isRef h rfl
  · exact vx_isRef h rfl
/-- the same frame, seen from here: as if the method were called anew in this heap -/
theorem vx_rebase {T : State} (X : Stand p l e R s m args below meth c T locs cells slots) {R' : Room} (hf : R'.frames ≤ R.frames) (hl : R'.locals ≤ R.locals) (hc : cells + R'.cells ≤ R.cells) (hs : slots + R'.slots ≤ R.slots) :
    Stand p l e R' ((T.setVm s.vm).setFrames (.invoking m args :: below)) m args below meth c T [] 0 0 := by
  have htop : (T.setVm s.vm).topJava?.isSome := X.here.top
  have hF : ((T.setVm s.vm).setFrames (.invoking m args :: below)).frames = .invoking m args :: below := State.frames_setFrames _ (State.cur_lt_of_top htop)
  obtain ⟨g₀, hg0⟩ := Option.isSome_iff_exists.mp htop
  obtain ⟨r, hr⟩ := State.topJava?_eq_some.mp hg0
  have hl9 : e.platform.stackLimits (T.setVm s.vm).me = e.platform.stackLimits s.me := X.limits
  have hb9 : (T.setVm s.vm).me.stackBytes = s.me.stackBytes := X.bytes
  refine ⟨X.admits, X.cas, X.clock, hF, ?_, X.hears, X.method, X.code, X.here, X.tail, X.warmed, ?_, ?_, ?_⟩
  · have h := X.room
    have hU : ((T.setVm s.vm).setFrames (.invoking m args :: below)).localsInUse = s.localsInUse := by
      rw [State.localsInUse_invoking hF (meth := meth) (c := c) X.method X.code, State.localsInUse_invoking X.frames X.method X.code]
    simp only [State.hasRoom, Bool.and_eq_true, decide_eq_true_eq] at h ⊢
    obtain ⟨⟨⟨⟨h1, h2, h3, h4, h5, h6⟩, h7⟩, h8⟩, h9⟩ := h
    rw [X.frames, List.length_cons] at h2 h3
    have q1 := X.heapSize
    have q2 := X.used
    simp only [hF, hU, List.length_cons, State.stackLimits_setFrames, State.stackBytes_setFrames, hl9, hb9]
    refine ⟨⟨⟨⟨by omega, by omega, by omega, by omega, by omega, h6⟩, ?_⟩, ?_⟩, X.book⟩
    · show T.heap.size + R'.cells ≤ e.platform.maxCells
      omega
    · show T.slotsUsed + R'.slots ≤ e.platform.maxSlots
      omega
  · rw [State.stackLimits_setFrames]; rfl
  · rw [State.stackBytes_setFrames]; rfl
  · refine ⟨?_, Nat.le_refl _, Nat.le_refl _, ?_, ?_, fun a c9 h9 => ⟨c9, h9, rfl, rfl, fun _ _ => rfl⟩⟩
    · obtain ⟨t, ht, -⟩ := State.frames_cons hr
      show T.setVm s.vm = { ((T.setVm s.vm).setFrames (.invoking m args :: below)).setFrames (T.setVm s.vm).frames with heap := T.heap, slotsUsed := T.slotsUsed }
      rw [State.setFrames_setFrames, State.setFrames_self ht]
      rfl
    · show T.slotsUsed = T.slotsUsed + ((T.heap.toList.drop T.heap.size).map (·.slots.size)).sum
      rw [List.drop_eq_nil_of_le (Nat.le_of_eq Array.length_toList)]
      rfl
    · show ((T.heap.toList.drop T.heap.size).map (·.slots.size)).sum ≤ 0
      rw [List.drop_eq_nil_of_le (Nat.le_of_eq Array.length_toList)]
      exact Nat.le_refl _
/-- 'throw new E()': new; dup; invokespecial; athrow -/
theorem vx_throw0 {cc : ByteArray} {pc : Nat} (hexec : p.tables.exec = Jvm.exec) (hb : c.code = cc) (hl : l.stackTraces = false) {own cls : String} {names : List String} {ik ic mc ms : Nat} {A : Nat → Prop}
    (hown : s.vm.findClass own = some m.cls) (hcls : Bundle.fit cls = true) (hnames : ∀ n ∈ names, Bundle.fit n = true)
    (hk : (Cond.classLink own ik cls).before args s = true) (hini : (Cond.initialized cls).before args s = true) (hat : ∀ w ∈ vx_at0 own ic cls names, w.before args s = true)
    (hgood : ∀ w ∈ Cond.classLink own ik cls :: Cond.initialized cls :: vx_at0 own ic cls names, vx_ot w = true)
    (hU : vx_Zq Bundle.tN "UNASSIGNED_STACK" Bundle.steD A s s.heap) (hN : vx_Zq Bundle.tN "SUPPRESSED_SENTINEL" Bundle.listD A s s.heap) (hS : va_S A s.heap H locs) (hsize : ls.size = c.maxLocals)
    (d0 : decode cc pc = .ok (.new ik, 3)) (d3 : decode cc (pc + 3) = .ok (.dup, 1)) (d4 : decode cc (pc + 4) = .ok (.invokespecial ic, 3)) (d7 : decode cc (pc + 7) = .ok (.athrow, 1))
    (hout : ∀ x ∈ c.exceptionTable.toList, covers x (pc + 7) = false)
    (hRframes : names.length + 3 < R.frames) (hRlocals : (rest.map fun v => v.category).sum + (13 * (names.length + 1) + 42) ≤ R.locals) (hRcells : cells + 1 ≤ R.cells) (hRslots : slots + 6 ≤ R.slots) (hlocks : meth.locks = false)
    (hx : ∀ t : State, s.vm.Alike t.vm → H.size ≤ t.heap.size → (∀ q : Nat, q < H.size → t.heap[q]? = H[q]?) → XC cls s t)
    (hf : ∀ z ∈ locs, free z.base) (hc : cells + 1 ≤ mc) (hs : slots + 6 ≤ ms) :
    W p l e R s m args below meth c H locs cells slots (vx_MQ below Qc XC args s mc ms free) (F0 m pc ls rest) := by
  intro T hT X
  have htr : e.platform.stackTraces = false := (show e.platform.stackTraces = l.stackTraces by rw [X.admits.platform]).trans hl
  have Y := vx_rebase X (R' := { frames := R.frames, locals := R.locals, cells := 1, slots := 6 }) (Nat.le_refl _) (Nat.le_refl _) hRcells hRslots
  obtain ⟨s', hA⟩ : ∃ z, z = (T.setVm s.vm).setFrames (.invoking m args :: below) := ⟨_, rfl⟩
  rw [← hA] at Y
  have hvm : s'.vm = s.vm := by rw [hA]; rfl
  have hhp : s'.heap = H := by rw [hA]; exact hT
  have hW0 : s.WarmedH s'.vm := by rw [hvm]; exact State.WarmedH.refl s
  have hat' : ∀ w ∈ vx_at0 own ic cls names, w.before args s' = true := fun w hw => vx_ot_at hW0 hvm.symm (hgood w (List.mem_cons_of_mem _ (List.mem_cons_of_mem _ hw))) (hat w hw)
  have hk' : (Cond.classLink own ik cls).before args s' = true := vx_ot_at hW0 hvm.symm (hgood _ List.mem_cons_self) hk
  have hini' : (Cond.initialized cls).before args s' = true := vx_ot_at hW0 hvm.symm (hgood _ (List.mem_cons_of_mem _ List.mem_cons_self)) hini
  have hU' : vx_Zq Bundle.tN "UNASSIGNED_STACK" Bundle.steD A s' s'.heap := by rw [hhp]; exact vx_Zq.moved hW0.alike (hU.kept hS.2.1)
  have hN' : vx_Zq Bundle.tN "SUPPRESSED_SENTINEL" Bundle.listD A s' s'.heap := by rw [hhp]; exact vx_Zq.moved hW0.alike (hN.kept hS.2.1)
  have h : ∀ w ∈ Bundle.ownAtoms0 own ic cls names, w.before args s' = true := vx_own hat' (vx_isRefq hU'.1) (vx_isRefq hN'.1) hU'.2.word hN'.2.word
  have hown' : s'.vm.findClass own = some m.cls := by rw [hvm]; exact hown
  have hins : (Cond.instantiable cls 6).before args s' = true := h _ (by simp [Bundle.ownAtoms0])
  obtain ⟨vm₁, cX, kX, hfX, hkX, -, -, X₁, st1⟩ := Y.newCold hexec (own := own) (C := cls) (index := ik) (n := 6) hown' hk' hins hini'
    (g := F0 m pc ls rest) rfl (by rw [hb]; exact d0) (Nat.le_refl _) (Nat.le_refl _)
  generalize hT1 : (T.setVm vm₁).pushCell { cls := cX, slots := kX.instanceTypes.map defaultValue, vm := .none } = T1 at X₁ st1
  have hcat : (Value.ref T.heap.size).category = 1 := rfl
  have hcellA : T1.heap[T.heap.size]? = some (freshCell cX kX) := by rw [← hT1]; exact State.heap_pushCell_size _ _
  have d3' : decode c.code (pc + 3) = .ok (.dup, 1) := by rw [hb]; exact d3
  obtain ⟨U, hsteps, hrun, hend, hW, hsame, ce, hce, hO⟩ := X₁.ctorThrow0 hexec htr (own := own) (cls := cls) (names := names) (ic := ic) hown' hcls hnames h (fun x hx => nomatch hx) hfX hkX hcellA (by rw [hhp, hT]; exact Nat.le_refl _)
    (g := { method := m, pc := pc + 4, locals := ls, stack := .ref T.heap.size :: .ref T.heap.size :: rest, locked := none }) rfl hsize rfl rfl (rest := rest) rfl
    (by rw [hb]; exact d4) (by rw [hb]; exact d7) hout hRframes (by simp only [List.map_cons, List.sum_cons, hcat]; omega) hlocks
  obtain ⟨f1, f2⟩ := vx_frame hsame
  rw [hhp] at f1 f2
  have hWs : s.WarmedH U.vm := State.WarmedH.trans hW0 hW
  have hcl : s.vm.findClass cls = some ce.cls := by
    have h9 := hO.cls
    rw [hvm] at h9
    exact h9
  have hall : s.sameButNew ({ U with vm := s.vm } : State) locs mc ms := by
    subst hA
    obtain ⟨e1, e2⟩ := hsame
    rw [State.setFrames_setFrames] at e1
    have h2 : (T.setVm s.vm).sameButNew ({ U with vm := s.vm } : State) [] (0 + 1) (0 + 6) := ⟨e1, e2⟩
    have h3 := X.same.trans h2
    rw [List.append_nil] at h3
    exact h3.mono hc hs
  refine ⟨U, ?_, .threw T.heap.size, hrun, hend, Or.inr ⟨T.heap.size, rfl, cls, ce, locs, hx U hWs.alike f1 (fun q hq => f2 q hq (fun z hz => nomatch hz)), hce, hO.vm, hcl, hWs, hall, hf⟩⟩
  refine st1 _ ?_
  show Steps p.tables e below (T1.setTop { method := m, pc := pc + 3, locals := ls, stack := .ref T.heap.size :: rest, locked := none }) _
  jvm_step X₁.here [X₁.here.top, hexec, d3', Value.category]
  exact hsteps
/-- 'throw new E("text")': new; dup; ldc; invokespecial; athrow -/
theorem vx_throwS {cc : ByteArray} {pc : Nat} (hexec : p.tables.exec = Jvm.exec) (hb : c.code = cc) (hl : l.stackTraces = false) {own cls text : String} {names : List String} {ik is ic mc ms sa : Nat} {A : Nat → Prop}
    (hown : s.vm.findClass own = some m.cls) (hcls : Bundle.fit cls = true) (hnames : ∀ n ∈ names, Bundle.fit n = true)
    (hk : (Cond.classLink own ik cls).before args s = true) (hini : (Cond.initialized cls).before args s = true) (hstr : vk_R own is text sa s) (hat : ∀ w ∈ vx_atS own ic cls names, w.before args s = true)
    (hgood : ∀ w ∈ Cond.classLink own ik cls :: Cond.initialized cls :: vx_atS own ic cls names, vx_ot w = true)
    (hU : vx_Zq Bundle.tN "UNASSIGNED_STACK" Bundle.steD A s s.heap) (hN : vx_Zq Bundle.tN "SUPPRESSED_SENTINEL" Bundle.listD A s s.heap) (hS : va_S A s.heap H locs) (hsize : ls.size = c.maxLocals)
    (d0 : decode cc pc = .ok (.new ik, 3)) (d3 : decode cc (pc + 3) = .ok (.dup, 1)) (d4 : decode cc (pc + 4) = .ok (.ldc is, 2)) (d6 : decode cc (pc + 6) = .ok (.invokespecial ic, 3)) (d9 : decode cc (pc + 9) = .ok (.athrow, 1))
    (hout : ∀ x ∈ c.exceptionTable.toList, covers x (pc + 9) = false)
    (hRframes : names.length + 3 < R.frames) (hRlocals : (rest.map fun v => v.category).sum + (13 * (names.length + 1) + 43) ≤ R.locals) (hRcells : cells + 1 ≤ R.cells) (hRslots : slots + 6 ≤ R.slots) (hlocks : meth.locks = false)
    (hx : ∀ t : State, s.vm.Alike t.vm → H.size ≤ t.heap.size → (∀ q : Nat, q < H.size → t.heap[q]? = H[q]?) → XC cls s t)
    (hf : ∀ z ∈ locs, free z.base) (hc : cells + 1 ≤ mc) (hs : slots + 6 ≤ ms) :
    W p l e R s m args below meth c H locs cells slots (vx_MQ below Qc XC args s mc ms free) (F0 m pc ls rest) := by
  intro T hT X
  have htr : e.platform.stackTraces = false := (show e.platform.stackTraces = l.stackTraces by rw [X.admits.platform]).trans hl
  have Y := vx_rebase X (R' := { frames := R.frames, locals := R.locals, cells := 1, slots := 6 }) (Nat.le_refl _) (Nat.le_refl _) hRcells hRslots
  obtain ⟨s', hA⟩ : ∃ z, z = (T.setVm s.vm).setFrames (.invoking m args :: below) := ⟨_, rfl⟩
  rw [← hA] at Y
  have hvm : s'.vm = s.vm := by rw [hA]; rfl
  have hhp : s'.heap = H := by rw [hA]; exact hT
  have hW0 : s.WarmedH s'.vm := by rw [hvm]; exact State.WarmedH.refl s
  have hat' : ∀ w ∈ vx_atS own ic cls names, w.before args s' = true := fun w hw => vx_ot_at hW0 hvm.symm (hgood w (List.mem_cons_of_mem _ (List.mem_cons_of_mem _ hw))) (hat w hw)
  have hk' : (Cond.classLink own ik cls).before args s' = true := vx_ot_at hW0 hvm.symm (hgood _ List.mem_cons_self) hk
  have hini' : (Cond.initialized cls).before args s' = true := vx_ot_at hW0 hvm.symm (hgood _ (List.mem_cons_of_mem _ List.mem_cons_self)) hini
  have hU' : vx_Zq Bundle.tN "UNASSIGNED_STACK" Bundle.steD A s' s'.heap := by rw [hhp]; exact vx_Zq.moved hW0.alike (hU.kept hS.2.1)
  have hN' : vx_Zq Bundle.tN "SUPPRESSED_SENTINEL" Bundle.listD A s' s'.heap := by rw [hhp]; exact vx_Zq.moved hW0.alike (hN.kept hS.2.1)
  have h : ∀ w ∈ Bundle.ownAtoms own ic cls names, w.before args s' = true := vx_own hat' (vx_isRefq hU'.1) (vx_isRefq hN'.1) hU'.2.word hN'.2.word
  have hown' : s'.vm.findClass own = some m.cls := by rw [hvm]; exact hown
  have hins : (Cond.instantiable cls 6).before args s' = true := h _ (by simp [Bundle.ownAtoms])
  obtain ⟨vm₁, cX, kX, hfX, hkX, -, -, X₁, st1⟩ := Y.newCold hexec (own := own) (C := cls) (index := ik) (n := 6) hown' hk' hins hini'
    (g := F0 m pc ls rest) rfl (by rw [hb]; exact d0) (Nat.le_refl _) (Nat.le_refl _)
  generalize hT1 : (T.setVm vm₁).pushCell { cls := cX, slots := kX.instanceTypes.map defaultValue, vm := .none } = T1 at X₁ st1
  have hcat : (Value.ref T.heap.size).category = 1 := rfl
  have hcellA : T1.heap[T.heap.size]? = some (freshCell cX kX) := by rw [← hT1]; exact State.heap_pushCell_size _ _
  have d3' : decode c.code (pc + 3) = .ok (.dup, 1) := by rw [hb]; exact d3
  have d4' : decode c.code (pc + 4) = .ok (.ldc is, 2) := by rw [hb]; exact d4
  have hstr' : vk_R own is text sa s' := vk_R.warm hW0 hstr
  obtain ⟨U, hsteps, hrun, hend, hW, hsame, ce, hce, hO⟩ := X₁.ctorThrowS hexec htr (own := own) (cls := cls) (names := names) (ic := ic) hown' hcls hnames h (fun x hx => nomatch hx) hfX hkX hcellA (by rw [hhp, hT]; exact Nat.le_refl _) (msg := .ref sa) rfl
    (g := { method := m, pc := pc + 6, locals := ls, stack := .ref sa :: .ref T.heap.size :: .ref T.heap.size :: rest, locked := none }) rfl hsize rfl rfl (rest := rest) rfl
    (by rw [hb]; exact d6) (by rw [hb]; exact d9) hout hRframes (by simp only [List.map_cons, List.sum_cons, hcat]; omega) hlocks
  obtain ⟨f1, f2⟩ := vx_frame hsame
  rw [hhp] at f1 f2
  have hWs : s.WarmedH U.vm := State.WarmedH.trans hW0 hW
  have hcl : s.vm.findClass cls = some ce.cls := by
    have h9 := hO.cls
    rw [hvm] at h9
    exact h9
  have hall : s.sameButNew ({ U with vm := s.vm } : State) locs mc ms := by
    subst hA
    obtain ⟨e1, e2⟩ := hsame
    rw [State.setFrames_setFrames] at e1
    have h2 : (T.setVm s.vm).sameButNew ({ U with vm := s.vm } : State) [] (0 + 1) (0 + 6) := ⟨e1, e2⟩
    have h3 := X.same.trans h2
    rw [List.append_nil] at h3
    exact h3.mono hc hs
  refine ⟨U, ?_, .threw T.heap.size, hrun, hend, Or.inr ⟨T.heap.size, rfl, cls, ce, locs, hx U hWs.alike f1 (fun q hq => f2 q hq (fun z hz => nomatch hz)), hce, hO.vm, hcl, hWs, hall, hf⟩⟩
  refine st1 _ ?_
  show Steps p.tables e below (T1.setTop { method := m, pc := pc + 3, locals := ls, stack := .ref T.heap.size :: rest, locked := none }) _
  jvm_step X₁.here [X₁.here.top, hexec, d3', Value.category]
  exact X₁.ldcString hexec (own := own) (text := text) (index := is) (a := sa) hown' hstr'.1 hstr'.2
    (g := { method := m, pc := pc + 4, locals := ls, stack := .ref T.heap.size :: .ref T.heap.size :: rest, locked := none }) rfl d4' _ hsteps
/-- 'throw new E("text")', the text by a wide index -/
theorem vx_throwSW {cc : ByteArray} {pc : Nat} (hexec : p.tables.exec = Jvm.exec) (hb : c.code = cc) (hl : l.stackTraces = false) {own cls text : String} {names : List String} {ik is ic mc ms sa : Nat} {A : Nat → Prop}
    (hown : s.vm.findClass own = some m.cls) (hcls : Bundle.fit cls = true) (hnames : ∀ n ∈ names, Bundle.fit n = true)
    (hk : (Cond.classLink own ik cls).before args s = true) (hini : (Cond.initialized cls).before args s = true) (hstr : vk_R own is text sa s) (hat : ∀ w ∈ vx_atS own ic cls names, w.before args s = true)
    (hgood : ∀ w ∈ Cond.classLink own ik cls :: Cond.initialized cls :: vx_atS own ic cls names, vx_ot w = true)
    (hU : vx_Zq Bundle.tN "UNASSIGNED_STACK" Bundle.steD A s s.heap) (hN : vx_Zq Bundle.tN "SUPPRESSED_SENTINEL" Bundle.listD A s s.heap) (hS : va_S A s.heap H locs) (hsize : ls.size = c.maxLocals)
    (d0 : decode cc pc = .ok (.new ik, 3)) (d3 : decode cc (pc + 3) = .ok (.dup, 1)) (d4 : decode cc (pc + 4) = .ok (.ldc_w is, 3)) (d7 : decode cc (pc + 7) = .ok (.invokespecial ic, 3)) (d10 : decode cc (pc + 10) = .ok (.athrow, 1))
    (hout : ∀ x ∈ c.exceptionTable.toList, covers x (pc + 10) = false)
    (hRframes : names.length + 3 < R.frames) (hRlocals : (rest.map fun v => v.category).sum + (13 * (names.length + 1) + 43) ≤ R.locals) (hRcells : cells + 1 ≤ R.cells) (hRslots : slots + 6 ≤ R.slots) (hlocks : meth.locks = false)
    (hx : ∀ t : State, s.vm.Alike t.vm → H.size ≤ t.heap.size → (∀ q : Nat, q < H.size → t.heap[q]? = H[q]?) → XC cls s t)
    (hf : ∀ z ∈ locs, free z.base) (hc : cells + 1 ≤ mc) (hs : slots + 6 ≤ ms) :
    W p l e R s m args below meth c H locs cells slots (vx_MQ below Qc XC args s mc ms free) (F0 m pc ls rest) := by
  intro T hT X
  have htr : e.platform.stackTraces = false := (show e.platform.stackTraces = l.stackTraces by rw [X.admits.platform]).trans hl
  have Y := vx_rebase X (R' := { frames := R.frames, locals := R.locals, cells := 1, slots := 6 }) (Nat.le_refl _) (Nat.le_refl _) hRcells hRslots
  obtain ⟨s', hA⟩ : ∃ z, z = (T.setVm s.vm).setFrames (.invoking m args :: below) := ⟨_, rfl⟩
  rw [← hA] at Y
  have hvm : s'.vm = s.vm := by rw [hA]; rfl
  have hhp : s'.heap = H := by rw [hA]; exact hT
  have hW0 : s.WarmedH s'.vm := by rw [hvm]; exact State.WarmedH.refl s
  have hat' : ∀ w ∈ vx_atS own ic cls names, w.before args s' = true := fun w hw => vx_ot_at hW0 hvm.symm (hgood w (List.mem_cons_of_mem _ (List.mem_cons_of_mem _ hw))) (hat w hw)
  have hk' : (Cond.classLink own ik cls).before args s' = true := vx_ot_at hW0 hvm.symm (hgood _ List.mem_cons_self) hk
  have hini' : (Cond.initialized cls).before args s' = true := vx_ot_at hW0 hvm.symm (hgood _ (List.mem_cons_of_mem _ List.mem_cons_self)) hini
  have hU' : vx_Zq Bundle.tN "UNASSIGNED_STACK" Bundle.steD A s' s'.heap := by rw [hhp]; exact vx_Zq.moved hW0.alike (hU.kept hS.2.1)
  have hN' : vx_Zq Bundle.tN "SUPPRESSED_SENTINEL" Bundle.listD A s' s'.heap := by rw [hhp]; exact vx_Zq.moved hW0.alike (hN.kept hS.2.1)
  have h : ∀ w ∈ Bundle.ownAtoms own ic cls names, w.before args s' = true := vx_own hat' (vx_isRefq hU'.1) (vx_isRefq hN'.1) hU'.2.word hN'.2.word
  have hown' : s'.vm.findClass own = some m.cls := by rw [hvm]; exact hown
  have hins : (Cond.instantiable cls 6).before args s' = true := h _ (by simp [Bundle.ownAtoms])
  obtain ⟨vm₁, cX, kX, hfX, hkX, -, -, X₁, st1⟩ := Y.newCold hexec (own := own) (C := cls) (index := ik) (n := 6) hown' hk' hins hini'
    (g := F0 m pc ls rest) rfl (by rw [hb]; exact d0) (Nat.le_refl _) (Nat.le_refl _)
  generalize hT1 : (T.setVm vm₁).pushCell { cls := cX, slots := kX.instanceTypes.map defaultValue, vm := .none } = T1 at X₁ st1
  have hcat : (Value.ref T.heap.size).category = 1 := rfl
  have hcellA : T1.heap[T.heap.size]? = some (freshCell cX kX) := by rw [← hT1]; exact State.heap_pushCell_size _ _
  have d3' : decode c.code (pc + 3) = .ok (.dup, 1) := by rw [hb]; exact d3
  have d4' : decode c.code (pc + 4) = .ok (.ldc_w is, 3) := by rw [hb]; exact d4
  have hstr' : vk_R own is text sa s' := vk_R.warm hW0 hstr
  obtain ⟨U, hsteps, hrun, hend, hW, hsame, ce, hce, hO⟩ := X₁.ctorThrowS hexec htr (own := own) (cls := cls) (names := names) (ic := ic) hown' hcls hnames h (fun x hx => nomatch hx) hfX hkX hcellA (by rw [hhp, hT]; exact Nat.le_refl _) (msg := .ref sa) rfl
    (g := { method := m, pc := pc + 7, locals := ls, stack := .ref sa :: .ref T.heap.size :: .ref T.heap.size :: rest, locked := none }) rfl hsize rfl rfl (rest := rest) rfl
    (by rw [hb]; exact d7) (by rw [hb]; exact d10) hout hRframes (by simp only [List.map_cons, List.sum_cons, hcat]; omega) hlocks
  obtain ⟨f1, f2⟩ := vx_frame hsame
  rw [hhp] at f1 f2
  have hWs : s.WarmedH U.vm := State.WarmedH.trans hW0 hW
  have hcl : s.vm.findClass cls = some ce.cls := by
    have h9 := hO.cls
    rw [hvm] at h9
    exact h9
  have hall : s.sameButNew ({ U with vm := s.vm } : State) locs mc ms := by
    subst hA
    obtain ⟨e1, e2⟩ := hsame
    rw [State.setFrames_setFrames] at e1
    have h2 : (T.setVm s.vm).sameButNew ({ U with vm := s.vm } : State) [] (0 + 1) (0 + 6) := ⟨e1, e2⟩
    have h3 := X.same.trans h2
    rw [List.append_nil] at h3
    exact h3.mono hc hs
  refine ⟨U, ?_, .threw T.heap.size, hrun, hend, Or.inr ⟨T.heap.size, rfl, cls, ce, locs, hx U hWs.alike f1 (fun q hq => f2 q hq (fun z hz => nomatch hz)), hce, hO.vm, hcl, hWs, hall, hf⟩⟩
  refine st1 _ ?_
  show Steps p.tables e below (T1.setTop { method := m, pc := pc + 3, locals := ls, stack := .ref T.heap.size :: rest, locked := none }) _
  jvm_step X₁.here [X₁.here.top, hexec, d3', Value.category]
  exact X₁.ldcStringW hexec (own := own) (text := text) (index := is) (a := sa) hown' hstr'.1 hstr'.2
    (g := { method := m, pc := pc + 4, locals := ls, stack := .ref T.heap.size :: .ref T.heap.size :: rest, locked := none }) rfl d4' _ hsteps
end Ends
section Bodies
variable {l : Launch}
theorem vx_ofW {y : MethodName} {ws ws' : List Cond} {rm : Room} {Pc : Array Value → State → Prop} {Qc : Array Value → State → Outcome → State → Prop} {XC : String → State → State → Prop} {mc ms : Nat} {free : Addr → Prop} {cc : ByteArray} {maxL : Nat} {ret : Option FieldType}
    (hy : plainName y.cls = true) (hw : ws = Cond.code y cc maxL ret :: ws')
    (body : ∀ p e s m args below meth c s₁, BodyLoose p l y (headSpec ws rm) cc maxL ret e s m args below meth c s₁ → c.maxLocals = maxL → (∀ x ∈ c.exceptionTable.toList, False) → Pc args s →
      W p l e (headSpec ws rm).room s m args below meth c s.heap [] 0 0 (vx_MQ below Qc XC args s mc ms free) (entryFrame m args maxL)) : vx_Met l y ws rm Pc Qc XC mc ms free := by
  refine MetFree.of_bodyS (code := cc) (maxLocals := maxL) (ret := ret) hy ?_ ?_
  · intro args s m h hn
    obtain ⟨meth, c, h1, h2, h3, h4, h5, h6, -, -⟩ := Cond.code_spec hn (atoms_spec (ws := ws) h _ (by rw [hw]; exact List.mem_cons_self))
    exact ⟨meth, c, h1, h2, h3, h4, h5, h6⟩
  · intro p e s m args below meth c s₁ B hml hP _
    have hh0 : s₁.heap = s.heap := by rw [B.state]; rfl
    have ht : ∀ x ∈ c.exceptionTable.toList, False := by
      obtain ⟨meth9, c9, h1, h2, -, -, -, -, h7, -⟩ := Cond.code_spec B.named (atoms_spec (ws := ws) B.pre _ (by rw [hw]; exact List.mem_cons_self))
      cases Option.some.inj (h1.symm.trans B.method)
      cases Option.some.inj (h2.symm.trans (Stand.of_body B).code)
      intro x hx
      rw [Array.isEmpty_iff.mp h7] at hx
      cases hx
    obtain ⟨t, a1, o, b1, b2, b3⟩ := body p e s m args below meth c s₁ B hml ht hP s₁ hh0 (Stand.of_body B)
    exact ⟨t, o, a1, b1, b2, b3⟩
/-- the table of a body with handlers -/
theorem vx_table {p : Program} {x y : MethodName} {S : Spec} {cc bytes : ByteArray} {maxL maxL' : Nat} {ret ret' : Option FieldType} {e : Env} {s s₁ : State} {m : MethodId} {args : Array Value} {below : List Frame} {meth : Method} {c : Code} {hh : List (Nat × Nat × Nat × Nat)}
    (B : BodyLoose p l y S cc maxL ret e s m args below meth c s₁) (h : (Cond.codeWith y bytes maxL' ret' hh).before args s = true) : c.exceptionTable.toList = tableOf hh := by
  obtain ⟨m9, meth9, c9, hn9, h1, h2, -, -, h6, -⟩ := Cond.codeWith_spec h
  cases Option.some.inj (hn9.symm.trans B.named)
  cases Option.some.inj (h1.symm.trans B.method)
  cases Option.some.inj (h2.symm.trans (Stand.of_body B).code)
  rw [← h6, table_eq]
end Bodies
end VXA
/-! ===== END ===== -/
/-! ===== BEGIN a static call of a method with an exception table ===== -/
section VXS
variable {p : Program} {l : Launch} {e : Env} {R : Room} {s : State} {m : MethodId} {args : Array Value} {below : List Frame} {meth : Method} {c : Code} {T : State} {H : Heap} {locs : List Loc} {cells slots : Nat}
abbrev vx_CSW (R : Room) (s : State) (args : Array Value) (own : String) (index : Nat) (y : MethodName) (bytes : ByteArray) (maxL : Nat) (ret : Option FieldType) (hh : List (Nat × Nat × Nat × Nat)) (ws : List Cond) (rm : Room) (mc ms n : Nat) : Prop :=
  (rm.cells = mc ∧ rm.slots = ms ∧ rm.frames + 1 ≤ R.frames ∧ 8 + (maxL + 11) + rm.locals ≤ R.locals ∧ (∀ w ∈ ws, ∀ (a' : Array Value) (U : State), s.WarmedH U.vm → w.before a' U = true) ∧ Cond.codeWith y bytes maxL ret hh ∈ ws) ∧
  (Cond.codeWith y bytes maxL ret hh).before args s = true ∧ (Cond.initialized y.cls).before args s = true ∧ (y.cls ≠ "java/lang/invoke/MethodHandle" ∧ y.cls ≠ "java/lang/invoke/VarHandle") ∧
  (∀ sig, parseMethodDescriptor y.desc = some sig → n = sig.parameters.length) ∧ (Cond.methodLink own index y).before args s = true ∧ (Cond.static y).before args s = true
theorem vx_cwSW {own : String} {index maxL mc ms : Nat} {y : MethodName} {bytes : ByteArray} {ret : Option FieldType} {hh : List (Nat × Nat × Nat × Nat)} {Ts ws ws' : List Cond} {rm : Room} (n : Nat) (ht : ∀ w ∈ Ts, w.before args s = true) (hT : GoodIn Ts (va_wsS own index y ws)) (hw : ws = Cond.codeWith y bytes maxL ret hh :: ws') (hrc : rm.cells = mc) (hrs : rm.slots = ms)
    (hd : y.cls ≠ "java/lang/invoke/MethodHandle" ∧ y.cls ≠ "java/lang/invoke/VarHandle" ∧ (parseMethodDescriptor y.desc).map (fun d => d.parameters.length) = some n) (hR : rm.frames + 1 ≤ R.frames ∧ 8 + (maxL + 11) + rm.locals ≤ R.locals) :
    vx_CSW R s args own index y bytes maxL ret hh ws rm mc ms n := by
  have ok : ∀ w ∈ va_wsS own index y ws, w.before args s = true := fun w h => ht w (hT w h).1
  have hG : GoodIn Ts ws := fun w h => hT w (by unfold va_wsS; exact List.mem_append_right _ h)
  have hc : Cond.codeWith y bytes maxL ret hh ∈ ws := by rw [hw]; exact List.mem_cons_self
  refine ⟨⟨hrc, hrs, hR.1, hR.2, pay_in ht hG, hc⟩, ht _ (hG _ hc).1, ok _ (by simp [va_wsS]), ⟨hd.1, hd.2.1⟩, fun sig h => ?_, ok _ (by simp [va_wsS]), ok _ (by simp [va_wsS])⟩
  have h2 := hd.2.2
  rw [h] at h2
  exact (Option.some.inj h2).symm
theorem vx_callSW (X : Stand p l e R s m args below meth c T locs cells slots) (hexec : p.tables.exec = Jvm.exec) {own : String} {index : Nat} {y : MethodName} {bytes : ByteArray} {maxL : Nat} {ret : Option FieldType} {hh : List (Nat × Nat × Nat × Nat)}
    (hown : s.vm.findClass own = some m.cls) (hlink : (Cond.methodLink own index y).before args s = true) (hstat : (Cond.static y).before args s = true) (hinit : (Cond.initialized y.cls).before args s = true)
    (hcode : (Cond.codeWith y bytes maxL ret hh).before args s = true) (hy : y.cls ≠ "java/lang/invoke/MethodHandle" ∧ y.cls ≠ "java/lang/invoke/VarHandle")
    {W9 : Nat} {Pre : Pt → Array Value → Prop} {Post : Pt → Array Value → Option Value → Pt → Prop} (hK : Back l R p e below s args y 3 W9 Pre Post)
    {g : JFrame} (hg : g.method = m) (hsize : g.locals.size = c.maxLocals) {argsL rest : List Value} (hlen : ∀ sig, parseMethodDescriptor y.desc = some sig → argsL.length = sig.parameters.length)
    (hstack : g.stack = argsL.reverse ++ rest) (hW : 2 * g.monitorRoom + (rest.map fun v => v.category).sum ≤ W9) (hdg : decode c.code g.pc = .ok (.invokestatic index, 3))
    (hpre : ∀ vm₁, s.WarmedH vm₁ → Pre ⟨T.setVm vm₁, locs, cells, slots⟩ argsL.toArray) :
    ∃ (v : Option Value) (vm₁ : Vm) (B : Pt), s.WarmedH vm₁ ∧ Stand p l e R s m args below meth c B.U B.locs B.cells B.slots ∧ Post ⟨T.setVm vm₁, locs, cells, slots⟩ argsL.toArray v B ∧
      ∀ target, Steps p.tables e below (B.U.setTop { g with pc := g.pc + 3, stack := v.toList ++ rest }) target → Steps p.tables e below (T.setTop g) target := by
  obtain ⟨mk, methM, cM, hnamed, hmethM, -, -, -, -, -, -, hsigM⟩ := Cond.codeWith_spec hcode
  have hstatic : methM.isStatic = true := Cond.static_spec hnamed hmethM hstat
  obtain ⟨kP, hkP, -⟩ := className_of_methodNamed hnamed
  have hinitP : kP.init = .initialized := Cond.initialized_spec (findClass_of_methodNamed hnamed) hkP hinit
  obtain ⟨vm₁, X₁, hstep₁⟩ := X.invokestatic hexec hown hlink hnamed hmethM hstatic hkP hinitP hy (g := g) hg (argsL := argsL) (rest := rest) (hlen _ hsigM) hstack hdg
  obtain ⟨v, B, X', hpost, hsteps⟩ := hK m meth c ⟨T.setVm vm₁, locs, cells, slots⟩ { g with stack := rest } (.invokestatic index) mk argsL.toArray X₁ hg hsize hdg hW (X₁.named hnamed) (hpre vm₁ X₁.warmed)
  exact ⟨v, vm₁, B, X₁.warmed, X', hpost, fun target h => hstep₁ _ fun acts => by rw [doInvoke_state]; exact hsteps.trans h⟩
theorem vx_runSW {y : MethodName} {bytes cc : ByteArray} {maxL nL mc ms n index : Nat} {ret : Option FieldType} {hh : List (Nat × Nat × Nat × Nat)} {ws : List Cond} {rm : Room} {Pc : Array Value → State → Prop} {Qc : Array Value → State → Outcome → State → Prop} {free : Addr → Prop} {Ts : List Cond} {own : String} {As rest : List Value} {g : JFrame}
    (S : CallFix p m c cc nL s args Ts own) (hM : Met l y ws rm Pc Qc mc ms free) (cw : vx_CSW R s args own index y bytes maxL ret hh ws rm mc ms n) (hp : PreS s H Pc As)
    (hg : g.method = m) (hn : As.length = n) (hsize : g.locals.size = nL) (hstack : g.stack = As.reverse ++ rest) (hW : 2 * g.monitorRoom + (rest.map fun v => v.category).sum ≤ 8) (hdg : decode cc g.pc = .ok (.invokestatic index, 3)) (hf : cells + mc ≤ R.cells ∧ slots + ms ≤ R.slots) :
    va_Run p l e R s m args below meth c H locs cells slots mc ms g rest (Qc As.toArray) (free) := by
  obtain ⟨⟨hrc, hrs, hfr, hlo, hws, hcw⟩, hcode, hini, hy, hlen, hl, hstt⟩ := cw
  have hK : Back l R p e below s args y 3 8 (PreOf R mc ms Pc) (PostOf Qc mc ms free) := va_backW (hh := hh) (bytes := bytes) (maxL := maxL) (ret := ret) hM hp.1 hrc hrs hfr hlo hws hcw (fun a' U hW => word_at hW (Or.inl (by first | rfl | simp [Cond.onTables, Cond.keeps, Cond.steady])) hini)
  obtain ⟨hx, hb, hml, ho, -⟩ := S
  intro T hT X
  obtain ⟨v, vm₁, ⟨U', l2, c2, s2⟩, hW₁, X', ⟨g', mk, t, L, e1, e2, hq, h1, hL, h2, h3⟩, st⟩ := vx_callSW X hx (hh := hh) (bytes := bytes) (maxL := maxL) (ret := ret) ho hl hstt hini hcode hy hK hg (hsize.trans hml.symm) (argsL := As) (rest := rest) (fun sig h => hn.trans (hlen sig h)) hstack hW (by rw [hb]; exact hdg)
    (fun vm₁ hW₁ => ⟨hf.1, hf.2, hp.2 (T.setVm vm₁) hT hW₁⟩)
  dsimp only [Pt.U, Pt.locs, Pt.cells, Pt.slots] at X' e1 e2 h1 h2 h3 st
  subst h1; subst h2; subst h3
  exact ⟨v, (T.setVm vm₁).calling g' mk As.toArray, t, U', L, hT, X', hL, e1, e2, hq, st⟩
/-- a thing of a world lies in the heap -/
theorem vx_lt {D : va_G} {cl : List vw_C} {ws : va_W} {H1 : Heap} (h : va_P D cl ws H1) {k : Nat} {q : Nat × va_E} (hk : ws[k]? = some q) : q.1 < H1.size := (h k q hk).lt
end VXS
/-! ===== END ===== -/
/-! ===== BEGIN methods with a table of their own: called by a name, returning or throwing ===== -/
section VXH
/-! vx_backW, vx_callVX, vx_callSX, vx_callVW, vx_runVW, vx_runVX, vx_runSX, vx_ofWH follow the same proofs as their sisters above (Free/Laws.lean, Shelf42/LK1.lean); vx_outP calls Shelf42/NT130.lean (outThrough). -/
section
variable {l : Launch} {R : Room} {p : Program} {e : Env} {below : List Frame} {s : State} {sargs : Array Value} {y : MethodName} {len W9 : Nat}
theorem vx_backW {ws : List Cond} {rm : Room} {Pc : Array Value → State → Prop} {Qc : Array Value → State → Outcome → State → Prop} {XC : String → State → State → Prop} {mc ms : Nat} {free : Addr → Prop} {bytes : ByteArray} {maxL : Nat} {ret : Option FieldType} {hh : List (Nat × Nat × Nat × Nat)}
    (hM : vx_Met l y ws rm Pc Qc XC mc ms free) (hblind : FrameBlind Pc) (hrc : rm.cells = mc) (hrs : rm.slots = ms)
    (hframes : rm.frames + 1 ≤ R.frames) (hlocals : W9 + (maxL + 11) + rm.locals ≤ R.locals)
    (hws : ∀ w ∈ ws, ∀ a' U, s.WarmedH U.vm → w.before a' U = true) (hcode : Cond.codeWith y bytes maxL ret hh ∈ ws) (hinit : ∀ a' U, s.WarmedH U.vm → (Cond.initialized y.cls).before a' U = true) :
    vx_Back l R p e below s sargs y len W9 (PreOf R mc ms Pc) (PostOf Qc mc ms free) (vx_Post XC mc ms free) := by
  intro m meth c A g ig mk a X hg hsize hdg hW hn hp
  have h1 : (headSpec ws rm).pre.before a A.U = true := atoms_intro fun w hw => hws w hw _ _ X.warmed
  have h2 : (Cond.codeWith y bytes maxL ret hh).before a A.U = true := hws _ hcode _ _ X.warmed
  have h3 : (Cond.initialized y.cls).before a A.U = true := hinit _ _ X.warmed
  have h4 : A.cells + (headSpec ws rm).room.cells ≤ R.cells := by rw [show (headSpec ws rm).room.cells = mc from hrc]; exact hp.1
  have h5 : A.slots + (headSpec ws rm).room.slots ≤ R.slots := by rw [show (headSpec ws rm).room.slots = ms from hrs]; exact hp.2.1
  have hPc : Pc a (A.U.calling g mk a) := hblind _ _ _ _ hp.2.2
  obtain ⟨U, Ls, c0, s0⟩ := A
  dsimp only [Pt.U, Pt.locs, Pt.cells, Pt.slots] at h1 h2 h3 h4 h5 X hn hPc ⊢
  obtain ⟨m9, methY, cY, hn9, hmY, hcY, -, hlY, -⟩ := Cond.codeWith_spec h2
  cases Option.some.inj (hn9.symm.trans hn)
  obtain ⟨kY, hkY, -⟩ := className_of_methodNamed hn
  have hinitY : kY.init = .initialized := Cond.initialized_spec (findClass_of_methodNamed hn) hkY h3
  have h : At U g.method c below := by rw [hg]; exact X.here
  have hlocals9 : W9 + (maxL + 11) + (headSpec ws rm).room.locals ≤ R.locals := hlocals
  have happ : (headSpec ws rm).appliesLoose y e.platform (U.calling g mk a) = true :=
    Spec.appliesLoose_calling (g := g) h hdg hn hkY hinitY
      (X.room_calling (g := g) (R' := (headSpec ws rm).room) hsize hmY hcY hframes (by rw [hlY]; omega) h4 h5) h1
  obtain ⟨mid, hmid⟩ := h.above
  have hfr : (U.setTop g).frames = (.java g :: mid) ++ below := by rw [State.frames_setTop' g h.top, hmid]; rfl
  obtain ⟨o, s₂, hsteps, -, hend, hq⟩ := Steps.callFree hM p X.admits X.cas X.clock (acts := []) hfr happ hPc trivial
  have hq' : vx_Q Qc XC mc ms free a (U.calling g mk a) o s₂ := hq
  rw [State.frames_setTop' g h.top] at hend
  obtain ⟨g₀, hg0⟩ := Option.isSome_iff_exists.mp h.top
  obtain ⟨r, hr⟩ := State.topJava?_eq_some.mp hg0
  have hr' : (({ U with heap := s₂.heap, slotsUsed := s₂.slotsUsed } : State).setVm s₂.vm).frames = .java g₀ :: r := hr
  rcases hq' with ⟨hqc, L, hfe, hL⟩ | ⟨q, rfl, E, ce, L, hx, hce, hcv, hcl, hW₂, hsm, hL⟩
  · obtain ⟨⟨v, rfl⟩, hW₂, e2, q2, q3, q4, q5, q6⟩ := id hfe
    have e3 : s₂ = ({ (U.calling g mk a).setFrames s₂.frames with heap := s₂.heap, slotsUsed := s₂.slotsUsed } : State).setVm s₂.vm := by
      have : s₂ = ({ s₂ with vm := (U.calling g mk a).vm } : State).setVm s₂.vm := rfl
      rw [e2] at this
      exact this
    obtain ⟨c₂, i₂, len₂, hc₂, hd₂, hf₂⟩ := hend
    have hW' : U.WarmedH s₂.vm := hW₂
    have hcc : c₂ = c := by
      have h1 : s₂.code? g.method = U.code? g.method := by
        rw [State.code?_eq, State.code?_eq, hW'.alike.method?]
      exact Option.some.inj (hc₂.symm.trans (h1.trans h.code))
    subst hcc
    have hlen : len₂ = len := by rw [hdg] at hd₂; cases hd₂; rfl
    subst hlen
    have hs₂ : s₂ = (({ U with heap := s₂.heap, slotsUsed := s₂.slotsUsed } : State).setVm s₂.vm).setTop { g with pc := g.pc + len₂, stack := v.toList ++ g.stack } := by
      refine e3.trans ?_
      rw [hf₂, State.calling_eq h.top, State.setFrames_setFrames, State.setTop_of_frames _ hr', hr]
      rfl
    have hsame : U.sameButNew ({ U with heap := s₂.heap, slotsUsed := s₂.slotsUsed } : State) L mc ms := by
      refine ⟨?_, q2, q3, q4, q5, q6⟩
      obtain ⟨t, ht, -⟩ := State.frames_cons hr
      show ({ U with heap := s₂.heap, slotsUsed := s₂.slotsUsed } : State) = { U.setFrames U.frames with heap := s₂.heap, slotsUsed := s₂.slotsUsed }
      rw [State.setFrames_self ht]
    subst hg
    refine Or.inl ⟨v, ⟨(({ U with heap := s₂.heap, slotsUsed := s₂.slotsUsed } : State).setVm s₂.vm), Ls ++ L, c0 + mc, s0 + ms⟩,
      ⟨X.admits, X.cas, X.clock, X.frames, X.room, X.hears, X.method, X.code, (X.here.setHeapUsed s₂.heap s₂.slotsUsed).setVm hW'.alike, X.tail, State.WarmedH.trans X.warmed hW', X.limits, X.bytes, X.same.trans (hsame.setVm s.vm)⟩,
      ⟨g, mk, s₂, L, rfl, rfl, hqc, rfl, hL, rfl, rfl⟩, ?_⟩
    show Steps p.tables e below _ ((({ U with heap := s₂.heap, slotsUsed := s₂.slotsUsed } : State).setVm s₂.vm).setTop { g with pc := g.pc + len₂, stack := v.toList ++ g.stack })
    rw [← hs₂]
    exact hsteps
  · obtain ⟨e2, q2, q3, q4, q5, q6⟩ := id hsm
    have e3 : s₂ = ({ (U.calling g mk a).setFrames s₂.frames with heap := s₂.heap, slotsUsed := s₂.slotsUsed } : State).setVm s₂.vm := by
      have : s₂ = ({ s₂ with vm := (U.calling g mk a).vm } : State).setVm s₂.vm := rfl
      rw [e2] at this
      exact this
    have hf₂ : s₂.frames = .throwing q :: .java g :: U.frames.tail := hend
    have hW' : U.WarmedH s₂.vm := hW₂
    have hs₂ : s₂ = ((({ U with heap := s₂.heap, slotsUsed := s₂.slotsUsed } : State).setVm s₂.vm).setTop g).pushFrame (.throwing q) := by
      refine e3.trans ?_
      rw [hf₂, State.calling_eq h.top, State.setFrames_setFrames, State.pushFrame, State.frames_setTop _ hr', State.setTop_of_frames _ hr', State.setFrames_setFrames, hr]
      rfl
    have hsame : U.sameButNew ({ U with heap := s₂.heap, slotsUsed := s₂.slotsUsed } : State) L mc ms := by
      refine ⟨?_, q2, q3, q4, q5, q6⟩
      obtain ⟨t, ht, -⟩ := State.frames_cons hr
      show ({ U with heap := s₂.heap, slotsUsed := s₂.slotsUsed } : State) = { U.setFrames U.frames with heap := s₂.heap, slotsUsed := s₂.slotsUsed }
      rw [State.setFrames_self ht]
    subst hg
    refine Or.inr ⟨q, ⟨(({ U with heap := s₂.heap, slotsUsed := s₂.slotsUsed } : State).setVm s₂.vm), Ls ++ L, c0 + mc, s0 + ms⟩,
      ⟨X.admits, X.cas, X.clock, X.frames, X.room, X.hears, X.method, X.code, (X.here.setHeapUsed s₂.heap s₂.slotsUsed).setVm hW'.alike, X.tail, State.WarmedH.trans X.warmed hW', X.limits, X.bytes, X.same.trans (hsame.setVm s.vm)⟩,
      ⟨g, mk, s₂, L, E, ce, rfl, rfl, hx, hce, hcv, hcl, rfl, hL, rfl, rfl⟩, ?_⟩
    show Steps p.tables e below _ (((({ U with heap := s₂.heap, slotsUsed := s₂.slotsUsed } : State).setVm s₂.vm).setTop g).pushFrame (.throwing q))
    rw [← hs₂]
    exact hsteps
end
variable {p : Program} {l : Launch} {e : Env} {R : Room} {s : State} {m : MethodId} {args : Array Value} {below : List Frame} {meth : Method} {c : Code} {T : State} {H : Heap} {locs : List Loc} {cells slots : Nat}
theorem vx_callVX (X : Stand p l e R s m args below meth c T locs cells slots) (hexec : p.tables.exec = Jvm.exec) {own C : String} {index : Nat} {y : MethodName} {bytes : ByteArray} {maxL : Nat} {ret : Option FieldType} {hh : List (Nat × Nat × Nat × Nat)}
    (hown : s.vm.findClass own = some m.cls) (hlink : (Cond.methodLink own index y).before args s = true) (hinst : (Cond.instanceMethod y).before args s = true) (hsel : (Cond.selects C y y).before args s = true)
    (hcode : (Cond.codeWith y bytes maxL ret hh).before args s = true) (hy : y.cls ≠ "java/lang/invoke/MethodHandle" ∧ y.cls ≠ "java/lang/invoke/VarHandle")
    {W9 : Nat} {Pre : Pt → Array Value → Prop} {Post : Pt → Array Value → Option Value → Pt → Prop} {PostX : Pt → Array Value → Addr → Pt → Prop} (hK : vx_Back l R p e below s args y 3 W9 Pre Post PostX)
    {b : Addr} {cellB : Cell} (hcell : T.heap[b]? = some cellB) (hobj : cellB.vm.isStatics = false) (hcls : s.vm.findClass C = some cellB.cls)
    {g : JFrame} (hg : g.method = m) (hsize : g.locals.size = c.maxLocals) {argsL rest : List Value} (hlen : ∀ sig, parseMethodDescriptor y.desc = some sig → argsL.length = sig.parameters.length)
    (hstack : g.stack = argsL.reverse ++ .ref b :: rest) (hW : 2 * g.monitorRoom + (rest.map fun v => v.category).sum ≤ W9) (hdg : decode c.code g.pc = .ok (.invokevirtual index, 3))
    (hpre : ∀ vm₁, s.WarmedH vm₁ → Pre ⟨T.setVm vm₁, locs, cells, slots⟩ (Value.ref b :: argsL).toArray) :
    (∃ (v : Option Value) (vm₁ : Vm) (B : Pt), s.WarmedH vm₁ ∧ Stand p l e R s m args below meth c B.U B.locs B.cells B.slots ∧ Post ⟨T.setVm vm₁, locs, cells, slots⟩ (Value.ref b :: argsL).toArray v B ∧
      ∀ target, Steps p.tables e below (B.U.setTop { g with pc := g.pc + 3, stack := v.toList ++ rest }) target → Steps p.tables e below (T.setTop g) target) ∨
    (∃ (q : Addr) (vm₁ : Vm) (B : Pt), s.WarmedH vm₁ ∧ Stand p l e R s m args below meth c B.U B.locs B.cells B.slots ∧ PostX ⟨T.setVm vm₁, locs, cells, slots⟩ (Value.ref b :: argsL).toArray q B ∧
      Steps p.tables e below (T.setTop g) ((B.U.setTop { g with stack := rest }).pushFrame (.throwing q))) := by
  obtain ⟨mk, methM, hnamed, hmethM, hstM, habM⟩ := Cond.instanceMethod_spec hinst
  obtain ⟨m8, methM', cM, hn8, hmethM', -, -, -, -, -, -, hsigM⟩ := Cond.codeWith_spec hcode
  cases Option.some.inj (hn8.symm.trans hnamed)
  cases hmethM.symm.trans hmethM'
  obtain ⟨c2, r2, m2, q1, q2, q3, q4, kP, hkP, hkPi⟩ := Cond.selects_spec hsel
  cases hcls.symm.trans q1
  cases (State.methodFound?_of_named hnamed hy).symm.trans q2
  cases hnamed.symm.trans q3
  have hselP : selectMethod e.platform s.vm cellB.cls mk = .method mk := by rw [Launch.admits_selectMethod X.admits]; exact q4
  obtain ⟨vm₁, X₁, hstep₁⟩ := X.invokevirtual hexec hown hlink hnamed hmethM hstM hkP hkPi hy (a := b) (cell := cellB) hcell
    (fun z h => by rw [h] at hobj; cases hobj) hselP hmethM habM hkP hkPi (g := g) hg (argsL := argsL) (rest := rest) (hlen _ hsigM) hstack hdg
  rcases hK m meth c ⟨T.setVm vm₁, locs, cells, slots⟩ { g with stack := rest } (.invokevirtual index) mk (Value.ref b :: argsL).toArray X₁ hg hsize hdg hW (X₁.named hnamed) (hpre vm₁ X₁.warmed) with ⟨v, B, X', hpost, hsteps⟩ | ⟨q, B, X', hpost, hsteps⟩
  · exact Or.inl ⟨v, vm₁, B, X₁.warmed, X', hpost, fun target h => hstep₁ _ fun acts => by rw [doInvoke_state]; exact hsteps.trans h⟩
  · exact Or.inr ⟨q, vm₁, B, X₁.warmed, X', hpost, hstep₁ _ fun acts => by rw [doInvoke_state]; exact hsteps⟩
theorem vx_callSX (X : Stand p l e R s m args below meth c T locs cells slots) (hexec : p.tables.exec = Jvm.exec) {own : String} {index : Nat} {y : MethodName} {bytes : ByteArray} {maxL : Nat} {ret : Option FieldType} {hh : List (Nat × Nat × Nat × Nat)}
    (hown : s.vm.findClass own = some m.cls) (hlink : (Cond.methodLink own index y).before args s = true) (hstat : (Cond.static y).before args s = true) (hinit : (Cond.initialized y.cls).before args s = true)
    (hcode : (Cond.codeWith y bytes maxL ret hh).before args s = true) (hy : y.cls ≠ "java/lang/invoke/MethodHandle" ∧ y.cls ≠ "java/lang/invoke/VarHandle")
    {W9 : Nat} {Pre : Pt → Array Value → Prop} {Post : Pt → Array Value → Option Value → Pt → Prop} {PostX : Pt → Array Value → Addr → Pt → Prop} (hK : vx_Back l R p e below s args y 3 W9 Pre Post PostX)
    {g : JFrame} (hg : g.method = m) (hsize : g.locals.size = c.maxLocals) {argsL rest : List Value} (hlen : ∀ sig, parseMethodDescriptor y.desc = some sig → argsL.length = sig.parameters.length)
    (hstack : g.stack = argsL.reverse ++ rest) (hW : 2 * g.monitorRoom + (rest.map fun v => v.category).sum ≤ W9) (hdg : decode c.code g.pc = .ok (.invokestatic index, 3))
    (hpre : ∀ vm₁, s.WarmedH vm₁ → Pre ⟨T.setVm vm₁, locs, cells, slots⟩ argsL.toArray) :
    (∃ (v : Option Value) (vm₁ : Vm) (B : Pt), s.WarmedH vm₁ ∧ Stand p l e R s m args below meth c B.U B.locs B.cells B.slots ∧ Post ⟨T.setVm vm₁, locs, cells, slots⟩ argsL.toArray v B ∧
      ∀ target, Steps p.tables e below (B.U.setTop { g with pc := g.pc + 3, stack := v.toList ++ rest }) target → Steps p.tables e below (T.setTop g) target) ∨
    (∃ (q : Addr) (vm₁ : Vm) (B : Pt), s.WarmedH vm₁ ∧ Stand p l e R s m args below meth c B.U B.locs B.cells B.slots ∧ PostX ⟨T.setVm vm₁, locs, cells, slots⟩ argsL.toArray q B ∧
      Steps p.tables e below (T.setTop g) ((B.U.setTop { g with stack := rest }).pushFrame (.throwing q))) := by
  obtain ⟨mk, methM, cM, hnamed, hmethM, -, -, -, -, -, -, hsigM⟩ := Cond.codeWith_spec hcode
  have hstatic : methM.isStatic = true := Cond.static_spec hnamed hmethM hstat
  obtain ⟨kP, hkP, -⟩ := className_of_methodNamed hnamed
  have hinitP : kP.init = .initialized := Cond.initialized_spec (findClass_of_methodNamed hnamed) hkP hinit
  obtain ⟨vm₁, X₁, hstep₁⟩ := X.invokestatic hexec hown hlink hnamed hmethM hstatic hkP hinitP hy (g := g) hg (argsL := argsL) (rest := rest) (hlen _ hsigM) hstack hdg
  rcases hK m meth c ⟨T.setVm vm₁, locs, cells, slots⟩ { g with stack := rest } (.invokestatic index) mk argsL.toArray X₁ hg hsize hdg hW (X₁.named hnamed) (hpre vm₁ X₁.warmed) with ⟨v, B, X', hpost, hsteps⟩ | ⟨q, B, X', hpost, hsteps⟩
  · exact Or.inl ⟨v, vm₁, B, X₁.warmed, X', hpost, fun target h => hstep₁ _ fun acts => by rw [doInvoke_state]; exact hsteps.trans h⟩
  · exact Or.inr ⟨q, vm₁, B, X₁.warmed, X', hpost, hstep₁ _ fun acts => by rw [doInvoke_state]; exact hsteps⟩
theorem vx_callVW (X : Stand p l e R s m args below meth c T locs cells slots) (hexec : p.tables.exec = Jvm.exec) {own C : String} {index : Nat} {y : MethodName} {bytes : ByteArray} {maxL : Nat} {ret : Option FieldType} {hh : List (Nat × Nat × Nat × Nat)}
    (hown : s.vm.findClass own = some m.cls) (hlink : (Cond.methodLink own index y).before args s = true) (hinst : (Cond.instanceMethod y).before args s = true) (hsel : (Cond.selects C y y).before args s = true)
    (hcode : (Cond.codeWith y bytes maxL ret hh).before args s = true) (hy : y.cls ≠ "java/lang/invoke/MethodHandle" ∧ y.cls ≠ "java/lang/invoke/VarHandle")
    {W9 : Nat} {Pre : Pt → Array Value → Prop} {Post : Pt → Array Value → Option Value → Pt → Prop} (hK : Back l R p e below s args y 3 W9 Pre Post)
    {b : Addr} {cellB : Cell} (hcell : T.heap[b]? = some cellB) (hobj : cellB.vm.isStatics = false) (hcls : s.vm.findClass C = some cellB.cls)
    {g : JFrame} (hg : g.method = m) (hsize : g.locals.size = c.maxLocals) {argsL rest : List Value} (hlen : ∀ sig, parseMethodDescriptor y.desc = some sig → argsL.length = sig.parameters.length)
    (hstack : g.stack = argsL.reverse ++ .ref b :: rest) (hW : 2 * g.monitorRoom + (rest.map fun v => v.category).sum ≤ W9) (hdg : decode c.code g.pc = .ok (.invokevirtual index, 3))
    (hpre : ∀ vm₁, s.WarmedH vm₁ → Pre ⟨T.setVm vm₁, locs, cells, slots⟩ (Value.ref b :: argsL).toArray) :
    ∃ (v : Option Value) (vm₁ : Vm) (B : Pt), s.WarmedH vm₁ ∧ Stand p l e R s m args below meth c B.U B.locs B.cells B.slots ∧ Post ⟨T.setVm vm₁, locs, cells, slots⟩ (Value.ref b :: argsL).toArray v B ∧
      ∀ target, Steps p.tables e below (B.U.setTop { g with pc := g.pc + 3, stack := v.toList ++ rest }) target → Steps p.tables e below (T.setTop g) target := by
  obtain ⟨mk, methM, hnamed, hmethM, hstM, habM⟩ := Cond.instanceMethod_spec hinst
  obtain ⟨m8, methM', cM, hn8, hmethM', -, -, -, -, -, -, hsigM⟩ := Cond.codeWith_spec hcode
  cases Option.some.inj (hn8.symm.trans hnamed)
  cases hmethM.symm.trans hmethM'
  obtain ⟨c2, r2, m2, q1, q2, q3, q4, kP, hkP, hkPi⟩ := Cond.selects_spec hsel
  cases hcls.symm.trans q1
  cases (State.methodFound?_of_named hnamed hy).symm.trans q2
  cases hnamed.symm.trans q3
  have hselP : selectMethod e.platform s.vm cellB.cls mk = .method mk := by rw [Launch.admits_selectMethod X.admits]; exact q4
  obtain ⟨vm₁, X₁, hstep₁⟩ := X.invokevirtual hexec hown hlink hnamed hmethM hstM hkP hkPi hy (a := b) (cell := cellB) hcell
    (fun z h => by rw [h] at hobj; cases hobj) hselP hmethM habM hkP hkPi (g := g) hg (argsL := argsL) (rest := rest) (hlen _ hsigM) hstack hdg
  obtain ⟨v, B, X', hpost, hsteps⟩ := hK m meth c ⟨T.setVm vm₁, locs, cells, slots⟩ { g with stack := rest } (.invokevirtual index) mk (Value.ref b :: argsL).toArray X₁ hg hsize hdg hW (X₁.named hnamed) (hpre vm₁ X₁.warmed)
  exact ⟨v, vm₁, B, X₁.warmed, X', hpost, fun target h => hstep₁ _ fun acts => by rw [doInvoke_state]; exact hsteps.trans h⟩
abbrev vx_CVW (R : Room) (s : State) (args : Array Value) (own C : String) (index : Nat) (y : MethodName) (bytes : ByteArray) (maxL : Nat) (ret : Option FieldType) (hh : List (Nat × Nat × Nat × Nat)) (ws : List Cond) (rm : Room) (mc ms n : Nat) : Prop :=
  (rm.cells = mc ∧ rm.slots = ms ∧ rm.frames + 1 ≤ R.frames ∧ 8 + (maxL + 11) + rm.locals ≤ R.locals ∧ (∀ w ∈ ws, ∀ (a' : Array Value) (U : State), s.WarmedH U.vm → w.before a' U = true) ∧ Cond.codeWith y bytes maxL ret hh ∈ ws) ∧
  (Cond.codeWith y bytes maxL ret hh).before args s = true ∧ (Cond.initialized y.cls).before args s = true ∧ (y.cls ≠ "java/lang/invoke/MethodHandle" ∧ y.cls ≠ "java/lang/invoke/VarHandle") ∧
  (∀ sig, parseMethodDescriptor y.desc = some sig → n = sig.parameters.length) ∧ (Cond.methodLink own index y).before args s = true ∧ (Cond.instanceMethod y).before args s = true ∧ (Cond.selects C y y).before args s = true
theorem vx_cwVW {own C : String} {index maxL mc ms : Nat} {y : MethodName} {bytes : ByteArray} {ret : Option FieldType} {hh : List (Nat × Nat × Nat × Nat)} {Ts ws ws' : List Cond} {rm : Room} (n : Nat) (ht : ∀ w ∈ Ts, w.before args s = true) (hT : GoodIn Ts (wsV own index C y ws)) (hw : ws = Cond.codeWith y bytes maxL ret hh :: ws') (hrc : rm.cells = mc) (hrs : rm.slots = ms)
    (hd : y.cls = C ∧ y.cls ≠ "java/lang/invoke/MethodHandle" ∧ y.cls ≠ "java/lang/invoke/VarHandle" ∧ (parseMethodDescriptor y.desc).map (fun d => d.parameters.length) = some n) (hR : rm.frames + 1 ≤ R.frames ∧ 8 + (maxL + 11) + rm.locals ≤ R.locals) :
    vx_CVW R s args own C index y bytes maxL ret hh ws rm mc ms n := by
  obtain ⟨hC, hd⟩ := hd
  subst hC
  have ok : ∀ w ∈ wsV own index y.cls y ws, w.before args s = true := fun w h => ht w (hT w h).1
  have hG : GoodIn Ts ws := fun w h => hT w (by unfold wsV; exact List.mem_append_right _ h)
  have hc : Cond.codeWith y bytes maxL ret hh ∈ ws := by rw [hw]; exact List.mem_cons_self
  refine ⟨⟨hrc, hrs, hR.1, hR.2, pay_in ht hG, hc⟩, ht _ (hG _ hc).1, ok _ (by simp [wsV]), ⟨hd.1, hd.2.1⟩, fun sig h => ?_, ok _ (by simp [wsV]), ok _ (by simp [wsV]), ok _ (by simp [wsV])⟩
  have h2 := hd.2.2
  rw [h] at h2
  exact (Option.some.inj h2).symm
theorem vx_runVW {y : MethodName} {bytes cc : ByteArray} {maxL nL mc ms n index : Nat} {ret : Option FieldType} {hh : List (Nat × Nat × Nat × Nat)} {ws : List Cond} {rm : Room} {Pc : Array Value → State → Prop} {Qc : Array Value → State → Outcome → State → Prop} {free : Addr → Prop} {Ts : List Cond} {own C : String} {b : Addr} {As rest : List Value} {g : JFrame}
    (S : CallFix p m c cc nL s args Ts own) (hM : Met l y ws rm Pc Qc mc ms free) (cw : vx_CVW R s args own C index y bytes maxL ret hh ws rm mc ms n) (hp : PreV s H C b Pc As)
    (hg : g.method = m) (hn : As.length = n) (hsize : g.locals.size = nL) (hstack : g.stack = As.reverse ++ .ref b :: rest) (hW : 2 * g.monitorRoom + (rest.map fun v => v.category).sum ≤ 8) (hdg : decode cc g.pc = .ok (.invokevirtual index, 3)) (hf : cells + mc ≤ R.cells ∧ slots + ms ≤ R.slots) :
    va_Run p l e R s m args below meth c H locs cells slots mc ms g rest (Qc (Value.ref b :: As).toArray) free := by
  obtain ⟨⟨hrc, hrs, hfr, hlo, hws, hcw⟩, hcode, hini, hy, hlen, hl, hin, hse⟩ := cw
  have hK : Back l R p e below s args y 3 8 (PreOf R mc ms Pc) (PostOf Qc mc ms free) := va_backW (hh := hh) (bytes := bytes) (maxL := maxL) (ret := ret) hM hp.1 hrc hrs hfr hlo hws hcw (fun a' U hW => word_at hW (Or.inl (by first | rfl | simp [Cond.onTables, Cond.keeps, Cond.steady])) hini)
  obtain ⟨hx, hb, hml, ho, -⟩ := S
  obtain ⟨-, ⟨cellB, hcB, hoB, hclB⟩, hPc⟩ := hp
  intro T hT X
  obtain ⟨v, vm₁, ⟨U', l2, c2, s2⟩, hW₁, X', ⟨g', mk, t, L, e1, e2, hq, h1, hL, h2, h3⟩, st⟩ := vx_callVW X hx (C := C) (hh := hh) (bytes := bytes) (maxL := maxL) (ret := ret) ho hl hin hse hcode hy hK (by rw [hT]; exact hcB) hoB hclB hg (hsize.trans hml.symm) (argsL := As) (rest := rest) (fun sig h => hn.trans (hlen sig h)) hstack hW (by rw [hb]; exact hdg)
    (fun vm₁ hW₁ => ⟨hf.1, hf.2, hPc (T.setVm vm₁) hT hW₁⟩)
  dsimp only [Pt.U, Pt.locs, Pt.cells, Pt.slots] at X' e1 e2 h1 h2 h3 st
  subst h1; subst h2; subst h3
  exact ⟨v, (T.setVm vm₁).calling g' mk (Value.ref b :: As).toArray, t, U', L, hT, X', hL, e1, e2, hq, st⟩
section
variable {y : MethodName} {bytes cc : ByteArray} {maxL nL mc ms n index : Nat} {ret : Option FieldType} {ws : List Cond} {rm : Room} {Pc : Array Value → State → Prop} {Qc : Array Value → State → Outcome → State → Prop} {XC : String → State → State → Prop} {free : Addr → Prop} {Ts : List Cond} {own C : String} {b : Addr} {As rest : List Value} {g : JFrame}
theorem vx_runVX {hh : List (Nat × Nat × Nat × Nat)} (S : CallFix p m c cc nL s args Ts own) (hM : vx_Met l y ws rm Pc Qc XC mc ms free) (cw : vx_CVW R s args own C index y bytes maxL ret hh ws rm mc ms n) (hp : PreV s H C b Pc As)
    (hg : g.method = m) (hn : As.length = n) (hsize : g.locals.size = nL) (hstack : g.stack = As.reverse ++ .ref b :: rest) (hW : 2 * g.monitorRoom + (rest.map fun v => v.category).sum ≤ 8) (hdg : decode cc g.pc = .ok (.invokevirtual index, 3)) (hf : cells + mc ≤ R.cells ∧ slots + ms ≤ R.slots) :
    vx_Run p l e R s m args below meth c H locs cells slots mc ms g rest (Qc (Value.ref b :: As).toArray) XC free := by
  obtain ⟨⟨hrc, hrs, hfr, hlo, hws, hcw⟩, hcode, hini, hy, hlen, hl, hin, hse⟩ := cw
  have hK : vx_Back l R p e below s args y 3 8 (PreOf R mc ms Pc) (PostOf Qc mc ms free) (vx_Post XC mc ms free) := vx_backW (hh := hh) (bytes := bytes) (maxL := maxL) (ret := ret) hM hp.1 hrc hrs hfr hlo hws hcw (fun a' U hW => word_at hW (Or.inl (by first | rfl | simp [Cond.onTables, Cond.keeps, Cond.steady])) hini)
  obtain ⟨hx, hb, hml, ho, -⟩ := S
  obtain ⟨-, ⟨cellB, hcB, hoB, hclB⟩, hPc⟩ := hp
  intro T hT X
  rcases vx_callVX X hx (C := C) (hh := hh) (bytes := bytes) (maxL := maxL) (ret := ret) ho hl hin hse hcode hy hK (by rw [hT]; exact hcB) hoB hclB hg (hsize.trans hml.symm) (argsL := As) (rest := rest) (fun sig h => hn.trans (hlen sig h)) hstack hW (by rw [hb]; exact hdg)
    (fun vm₁ hW₁ => ⟨hf.1, hf.2, hPc (T.setVm vm₁) hT hW₁⟩) with ⟨v, vm₁, ⟨U', l2, c2, s2⟩, hW₁, X', ⟨g', mk, t, L, e1, e2, hq, h1, hL, h2, h3⟩, st⟩ | ⟨q, vm₁, ⟨U', l2, c2, s2⟩, hW₁, X', ⟨g', mk, t, L, E, ce, e1, e2, hq, hce, hcv, hcl, h1, hL, h2, h3⟩, st⟩
  · dsimp only [Pt.U, Pt.locs, Pt.cells, Pt.slots] at X' e1 e2 h1 h2 h3 st
    subst h1; subst h2; subst h3
    exact Or.inl ⟨v, (T.setVm vm₁).calling g' mk (Value.ref b :: As).toArray, t, U', L, hT, X', hL, e1, e2, hq, st⟩
  · dsimp only [Pt.U, Pt.locs, Pt.cells, Pt.slots] at X' e1 e2 h1 h2 h3 st hcl
    subst h1; subst h2; subst h3
    exact Or.inr ⟨q, (T.setVm vm₁).calling g' mk (Value.ref b :: As).toArray, t, U', L, E, ce, hT, X', hL, e1, e2, hq, hce, hcv, vx_cls hW₁ hcl, st⟩
theorem vx_runSX {hh : List (Nat × Nat × Nat × Nat)} (S : CallFix p m c cc nL s args Ts own) (hM : vx_Met l y ws rm Pc Qc XC mc ms free) (cw : vx_CSW R s args own index y bytes maxL ret hh ws rm mc ms n) (hp : PreS s H Pc As)
    (hg : g.method = m) (hn : As.length = n) (hsize : g.locals.size = nL) (hstack : g.stack = As.reverse ++ rest) (hW : 2 * g.monitorRoom + (rest.map fun v => v.category).sum ≤ 8) (hdg : decode cc g.pc = .ok (.invokestatic index, 3)) (hf : cells + mc ≤ R.cells ∧ slots + ms ≤ R.slots) :
    vx_Run p l e R s m args below meth c H locs cells slots mc ms g rest (Qc As.toArray) XC free := by
  obtain ⟨⟨hrc, hrs, hfr, hlo, hws, hcw⟩, hcode, hini, hy, hlen, hl, hstt⟩ := cw
  have hK : vx_Back l R p e below s args y 3 8 (PreOf R mc ms Pc) (PostOf Qc mc ms free) (vx_Post XC mc ms free) := vx_backW (hh := hh) (bytes := bytes) (maxL := maxL) (ret := ret) hM hp.1 hrc hrs hfr hlo hws hcw (fun a' U hW => word_at hW (Or.inl (by first | rfl | simp [Cond.onTables, Cond.keeps, Cond.steady])) hini)
  obtain ⟨hx, hb, hml, ho, -⟩ := S
  intro T hT X
  rcases vx_callSX X hx (hh := hh) (bytes := bytes) (maxL := maxL) (ret := ret) ho hl hstt hini hcode hy hK hg (hsize.trans hml.symm) (argsL := As) (rest := rest) (fun sig h => hn.trans (hlen sig h)) hstack hW (by rw [hb]; exact hdg)
    (fun vm₁ hW₁ => ⟨hf.1, hf.2, hp.2 (T.setVm vm₁) hT hW₁⟩) with ⟨v, vm₁, ⟨U', l2, c2, s2⟩, hW₁, X', ⟨g', mk, t, L, e1, e2, hq, h1, hL, h2, h3⟩, st⟩ | ⟨q, vm₁, ⟨U', l2, c2, s2⟩, hW₁, X', ⟨g', mk, t, L, E, ce, e1, e2, hq, hce, hcv, hcl, h1, hL, h2, h3⟩, st⟩
  · dsimp only [Pt.U, Pt.locs, Pt.cells, Pt.slots] at X' e1 e2 h1 h2 h3 st
    subst h1; subst h2; subst h3
    exact Or.inl ⟨v, (T.setVm vm₁).calling g' mk As.toArray, t, U', L, hT, X', hL, e1, e2, hq, st⟩
  · dsimp only [Pt.U, Pt.locs, Pt.cells, Pt.slots] at X' e1 e2 h1 h2 h3 st hcl
    subst h1; subst h2; subst h3
    exact Or.inr ⟨q, (T.setVm vm₁).calling g' mk As.toArray, t, U', L, E, ce, hT, X', hL, e1, e2, hq, hce, hcv, vx_cls hW₁ hcl, st⟩
end
end VXH
theorem vx_ofWH {l : Launch} {y : MethodName} {ws ws' : List Cond} {rm : Room} {Pc : Array Value → State → Prop} {Qc : Array Value → State → Outcome → State → Prop} {XC : String → State → State → Prop} {mc ms : Nat} {free : Addr → Prop} {cc : ByteArray} {maxL : Nat} {ret : Option FieldType} {hh : List (Nat × Nat × Nat × Nat)}
    (hy : plainName y.cls = true) (hw : ws = Cond.codeWith y cc maxL ret hh :: ws')
    (body : ∀ p e s m args below meth c s₁, BodyLoose p l y (headSpec ws rm) cc maxL ret e s m args below meth c s₁ → c.maxLocals = maxL → Pc args s →
      W p l e (headSpec ws rm).room s m args below meth c s.heap [] 0 0 (vx_MQ below Qc XC args s mc ms free) (entryFrame m args maxL)) : vx_Met l y ws rm Pc Qc XC mc ms free := by
  refine MetFree.of_bodyS (code := cc) (maxLocals := maxL) (ret := ret) hy ?_ ?_
  · intro args s m h hn
    obtain ⟨m9, meth, c, hn9, h1, h2, h3, h4, -, h5, h6, -⟩ := Cond.codeWith_spec (atoms_spec (ws := ws) h _ (by rw [hw]; exact List.mem_cons_self))
    cases hn.symm.trans hn9
    exact ⟨meth, c, h1, h2, h3, h4, h5, h6⟩
  · intro p e s m args below meth c s₁ B hml hP _
    have hh0 : s₁.heap = s.heap := by rw [B.state]; rfl
    obtain ⟨t, a1, o, b1, b2, b3⟩ := body p e s m args below meth c s₁ B hml hP s₁ hh0 (Stand.of_body B)
    exact ⟨t, o, a1, b1, b2, b3⟩
/-! ===== END ===== -/
end
section
-- ===== PART A: goes FIRST, ahead of the names: the tables' words, and 'selects' of the private methods out of them =====
/-- a private method of a class that the tables say can be made, by its rows of tables_1 -/
def lw_okq (q : MethodName × Nat) : Prop := (q.1.cls ≠ "java/lang/invoke/MethodHandle" ∧ q.1.cls ≠ "java/lang/invoke/VarHandle") ∧ Cond.instantiable q.1.cls q.2 ∈ tables_1 ∧ Cond.privateMethod q.1 ∈ tables_1 ∧ Cond.instanceMethod q.1 ∈ tables_1
theorem lw_p0 : lw_okq (⟨"java/lang/Throwable", "fillInStackTrace", "(I)Ljava/lang/Throwable;"⟩, 6) := ⟨⟨by decide +kernel, by decide +kernel⟩, List.mem_of_getElem? (i := 383) (by decide +kernel), List.mem_of_getElem? (i := 381) (by decide +kernel), List.mem_of_getElem? (i := 382) (by decide +kernel)⟩
theorem lw_p1 : lw_okq (⟨"PhraseDesk$Lexer", "peek", "(I)C"⟩, 8) := ⟨⟨by decide +kernel, by decide +kernel⟩, List.mem_of_getElem? (i := 45) (by decide +kernel), List.mem_of_getElem? (i := 448) (by decide +kernel), List.mem_of_getElem? (i := 449) (by decide +kernel)⟩
theorem lw_p2 : lw_okq (⟨"PhraseDesk$Lexer", "token", "(I)I"⟩, 8) := ⟨⟨by decide +kernel, by decide +kernel⟩, List.mem_of_getElem? (i := 45) (by decide +kernel), List.mem_of_getElem? (i := 452) (by decide +kernel), List.mem_of_getElem? (i := 453) (by decide +kernel)⟩
theorem lw_p3 : lw_okq (⟨"PhraseDesk$Lexer", "number", "(I)I"⟩, 8) := ⟨⟨by decide +kernel, by decide +kernel⟩, List.mem_of_getElem? (i := 45) (by decide +kernel), List.mem_of_getElem? (i := 459) (by decide +kernel), List.mem_of_getElem? (i := 460) (by decide +kernel)⟩
theorem lw_p4 : lw_okq (⟨"PhraseDesk$Lexer", "endOfDigits", "(I)I"⟩, 8) := ⟨⟨by decide +kernel, by decide +kernel⟩, List.mem_of_getElem? (i := 45) (by decide +kernel), List.mem_of_getElem? (i := 463) (by decide +kernel), List.mem_of_getElem? (i := 464) (by decide +kernel)⟩
theorem lw_p5 : lw_okq (⟨"PhraseDesk$Lexer", "digits", "(III)I"⟩, 8) := ⟨⟨by decide +kernel, by decide +kernel⟩, List.mem_of_getElem? (i := 45) (by decide +kernel), List.mem_of_getElem? (i := 467) (by decide +kernel), List.mem_of_getElem? (i := 468) (by decide +kernel)⟩
theorem lw_p6 : lw_okq (⟨"PhraseDesk$Lexer", "add", "(IIILPhraseDesk$Value;)V"⟩, 8) := ⟨⟨by decide +kernel, by decide +kernel⟩, List.mem_of_getElem? (i := 45) (by decide +kernel), List.mem_of_getElem? (i := 474) (by decide +kernel), List.mem_of_getElem? (i := 475) (by decide +kernel)⟩
theorem lw_p7 : lw_okq (⟨"PhraseDesk$Lexer", "name", "(I)I"⟩, 8) := ⟨⟨by decide +kernel, by decide +kernel⟩, List.mem_of_getElem? (i := 45) (by decide +kernel), List.mem_of_getElem? (i := 487) (by decide +kernel), List.mem_of_getElem? (i := 488) (by decide +kernel)⟩
theorem lw_p8 : lw_okq (⟨"PhraseDesk$Lexer", "quoted", "(I)I"⟩, 8) := ⟨⟨by decide +kernel, by decide +kernel⟩, List.mem_of_getElem? (i := 45) (by decide +kernel), List.mem_of_getElem? (i := 491) (by decide +kernel), List.mem_of_getElem? (i := 492) (by decide +kernel)⟩
theorem lw_p9 : lw_okq (⟨"PhraseDesk$Lexer", "sign", "(I)I"⟩, 8) := ⟨⟨by decide +kernel, by decide +kernel⟩, List.mem_of_getElem? (i := 45) (by decide +kernel), List.mem_of_getElem? (i := 725) (by decide +kernel), List.mem_of_getElem? (i := 726) (by decide +kernel)⟩
theorem lw_p10 : lw_okq (⟨"PhraseDesk$Parser", "phrase", "()LPhraseDesk$Node;"⟩, 4) := ⟨⟨by decide +kernel, by decide +kernel⟩, List.mem_of_getElem? (i := 39) (by decide +kernel), List.mem_of_getElem? (i := 735) (by decide +kernel), List.mem_of_getElem? (i := 736) (by decide +kernel)⟩
theorem lw_p11 : lw_okq (⟨"PhraseDesk$Parser", "choice", "(I)LPhraseDesk$Node;"⟩, 4) := ⟨⟨by decide +kernel, by decide +kernel⟩, List.mem_of_getElem? (i := 39) (by decide +kernel), List.mem_of_getElem? (i := 739) (by decide +kernel), List.mem_of_getElem? (i := 740) (by decide +kernel)⟩
theorem lw_p12 : lw_okq (⟨"PhraseDesk$Parser", "refuse", "(I)LPhraseDesk$Node;"⟩, 4) := ⟨⟨by decide +kernel, by decide +kernel⟩, List.mem_of_getElem? (i := 39) (by decide +kernel), List.mem_of_getElem? (i := 743) (by decide +kernel), List.mem_of_getElem? (i := 744) (by decide +kernel)⟩
theorem lw_p13 : lw_okq (⟨"PhraseDesk$Parser", "level", "(II)LPhraseDesk$Node;"⟩, 4) := ⟨⟨by decide +kernel, by decide +kernel⟩, List.mem_of_getElem? (i := 39) (by decide +kernel), List.mem_of_getElem? (i := 751) (by decide +kernel), List.mem_of_getElem? (i := 752) (by decide +kernel)⟩
theorem lw_p14 : lw_okq (⟨"PhraseDesk$Parser", "sign", "(I)LPhraseDesk$Node;"⟩, 4) := ⟨⟨by decide +kernel, by decide +kernel⟩, List.mem_of_getElem? (i := 39) (by decide +kernel), List.mem_of_getElem? (i := 755) (by decide +kernel), List.mem_of_getElem? (i := 756) (by decide +kernel)⟩
theorem lw_p15 : lw_okq (⟨"PhraseDesk$Parser", "takes", "(I)Z"⟩, 4) := ⟨⟨by decide +kernel, by decide +kernel⟩, List.mem_of_getElem? (i := 39) (by decide +kernel), List.mem_of_getElem? (i := 759) (by decide +kernel), List.mem_of_getElem? (i := 760) (by decide +kernel)⟩
def lw_privs_1 : List (MethodName × Nat) := [(⟨"java/lang/Throwable", "fillInStackTrace", "(I)Ljava/lang/Throwable;"⟩, 6), (⟨"PhraseDesk$Lexer", "peek", "(I)C"⟩, 8), (⟨"PhraseDesk$Lexer", "token", "(I)I"⟩, 8), (⟨"PhraseDesk$Lexer", "number", "(I)I"⟩, 8), (⟨"PhraseDesk$Lexer", "endOfDigits", "(I)I"⟩, 8), (⟨"PhraseDesk$Lexer", "digits", "(III)I"⟩, 8), (⟨"PhraseDesk$Lexer", "add", "(IIILPhraseDesk$Value;)V"⟩, 8), (⟨"PhraseDesk$Lexer", "name", "(I)I"⟩, 8), (⟨"PhraseDesk$Lexer", "quoted", "(I)I"⟩, 8), (⟨"PhraseDesk$Lexer", "sign", "(I)I"⟩, 8), (⟨"PhraseDesk$Parser", "phrase", "()LPhraseDesk$Node;"⟩, 4), (⟨"PhraseDesk$Parser", "choice", "(I)LPhraseDesk$Node;"⟩, 4), (⟨"PhraseDesk$Parser", "refuse", "(I)LPhraseDesk$Node;"⟩, 4), (⟨"PhraseDesk$Parser", "level", "(II)LPhraseDesk$Node;"⟩, 4), (⟨"PhraseDesk$Parser", "sign", "(I)LPhraseDesk$Node;"⟩, 4), (⟨"PhraseDesk$Parser", "takes", "(I)Z"⟩, 4)]
theorem lw_r1 : ∀ q ∈ lw_privs_1, lw_okq q := List.forall_mem_cons.mpr ⟨lw_p0, List.forall_mem_cons.mpr ⟨lw_p1, List.forall_mem_cons.mpr ⟨lw_p2, List.forall_mem_cons.mpr ⟨lw_p3, List.forall_mem_cons.mpr ⟨lw_p4, List.forall_mem_cons.mpr ⟨lw_p5, List.forall_mem_cons.mpr ⟨lw_p6, List.forall_mem_cons.mpr ⟨lw_p7, List.forall_mem_cons.mpr ⟨lw_p8, List.forall_mem_cons.mpr ⟨lw_p9, List.forall_mem_cons.mpr ⟨lw_p10, List.forall_mem_cons.mpr ⟨lw_p11, List.forall_mem_cons.mpr ⟨lw_p12, List.forall_mem_cons.mpr ⟨lw_p13, List.forall_mem_cons.mpr ⟨lw_p14, List.forall_mem_cons.mpr ⟨lw_p15, fun _ h => absurd h List.not_mem_nil⟩⟩⟩⟩⟩⟩⟩⟩⟩⟩⟩⟩⟩⟩⟩⟩
theorem lw_p16 : lw_okq (⟨"PhraseDesk$Parser", "kind", "()I"⟩, 4) := ⟨⟨by decide +kernel, by decide +kernel⟩, List.mem_of_getElem? (i := 39) (by decide +kernel), List.mem_of_getElem? (i := 763) (by decide +kernel), List.mem_of_getElem? (i := 764) (by decide +kernel)⟩
theorem lw_p17 : lw_okq (⟨"PhraseDesk$Parser", "chain", "(I)LPhraseDesk$Node;"⟩, 4) := ⟨⟨by decide +kernel, by decide +kernel⟩, List.mem_of_getElem? (i := 39) (by decide +kernel), List.mem_of_getElem? (i := 771) (by decide +kernel), List.mem_of_getElem? (i := 772) (by decide +kernel)⟩
theorem lw_p18 : lw_okq (⟨"PhraseDesk$Parser", "first", "(I)LPhraseDesk$Node;"⟩, 4) := ⟨⟨by decide +kernel, by decide +kernel⟩, List.mem_of_getElem? (i := 39) (by decide +kernel), List.mem_of_getElem? (i := 775) (by decide +kernel), List.mem_of_getElem? (i := 776) (by decide +kernel)⟩
theorem lw_p19 : lw_okq (⟨"PhraseDesk$Parser", "takeName", "()I"⟩, 4) := ⟨⟨by decide +kernel, by decide +kernel⟩, List.mem_of_getElem? (i := 39) (by decide +kernel), List.mem_of_getElem? (i := 826) (by decide +kernel), List.mem_of_getElem? (i := 827) (by decide +kernel)⟩
theorem lw_p20 : lw_okq (⟨"PhraseDesk$Parser", "bracketed", "(I)LPhraseDesk$Node;"⟩, 4) := ⟨⟨by decide +kernel, by decide +kernel⟩, List.mem_of_getElem? (i := 39) (by decide +kernel), List.mem_of_getElem? (i := 837) (by decide +kernel), List.mem_of_getElem? (i := 838) (by decide +kernel)⟩
theorem lw_p21 : lw_okq (⟨"PhraseDesk$Parser", "named", "(I)LPhraseDesk$Node;"⟩, 4) := ⟨⟨by decide +kernel, by decide +kernel⟩, List.mem_of_getElem? (i := 39) (by decide +kernel), List.mem_of_getElem? (i := 841) (by decide +kernel), List.mem_of_getElem? (i := 842) (by decide +kernel)⟩
theorem lw_p22 : lw_okq (⟨"PhraseDesk$Parser", "member", "(LPhraseDesk$Node;I)LPhraseDesk$Node;"⟩, 4) := ⟨⟨by decide +kernel, by decide +kernel⟩, List.mem_of_getElem? (i := 39) (by decide +kernel), List.mem_of_getElem? (i := 852) (by decide +kernel), List.mem_of_getElem? (i := 853) (by decide +kernel)⟩
theorem lw_p23 : lw_okq (⟨"PhraseDesk$Parser", "chosen", "(LPhraseDesk$Node;I)LPhraseDesk$Node;"⟩, 4) := ⟨⟨by decide +kernel, by decide +kernel⟩, List.mem_of_getElem? (i := 39) (by decide +kernel), List.mem_of_getElem? (i := 868) (by decide +kernel), List.mem_of_getElem? (i := 869) (by decide +kernel)⟩
theorem lw_p24 : lw_okq (⟨"PhraseDesk", "familyAt", "(I)LPhraseDesk$Family;"⟩, 9) := ⟨⟨by decide +kernel, by decide +kernel⟩, List.mem_of_getElem? (i := 31) (by decide +kernel), List.mem_of_getElem? (i := 883) (by decide +kernel), List.mem_of_getElem? (i := 884) (by decide +kernel)⟩
theorem lw_p25 : lw_okq (⟨"PhraseDesk", "isType", "(I)Z"⟩, 9) := ⟨⟨by decide +kernel, by decide +kernel⟩, List.mem_of_getElem? (i := 31) (by decide +kernel), List.mem_of_getElem? (i := 938) (by decide +kernel), List.mem_of_getElem? (i := 939) (by decide +kernel)⟩
theorem lw_p26 : lw_okq (⟨"PhraseDesk", "areParameters", "(II)Z"⟩, 9) := ⟨⟨by decide +kernel, by decide +kernel⟩, List.mem_of_getElem? (i := 31) (by decide +kernel), List.mem_of_getElem? (i := 977) (by decide +kernel), List.mem_of_getElem? (i := 978) (by decide +kernel)⟩
theorem lw_p27 : lw_okq (⟨"PhraseDesk$Converters", "isThere", "(II)Z"⟩, 2) := ⟨⟨by decide +kernel, by decide +kernel⟩, List.mem_of_getElem? (i := 178) (by decide +kernel), List.mem_of_getElem? (i := 1066) (by decide +kernel), List.mem_of_getElem? (i := 1067) (by decide +kernel)⟩
theorem lw_p28 : lw_okq (⟨"PhraseDesk", "objectAt", "(I)LPhraseDesk$Value;"⟩, 9) := ⟨⟨by decide +kernel, by decide +kernel⟩, List.mem_of_getElem? (i := 31) (by decide +kernel), List.mem_of_getElem? (i := 1077) (by decide +kernel), List.mem_of_getElem? (i := 1078) (by decide +kernel)⟩
theorem lw_p29 : lw_okq (⟨"PhraseDesk$Runner", "eval", "(LPhraseDesk$Node;I)LPhraseDesk$Value;"⟩, 8) := ⟨⟨by decide +kernel, by decide +kernel⟩, List.mem_of_getElem? (i := 131) (by decide +kernel), List.mem_of_getElem? (i := 1086) (by decide +kernel), List.mem_of_getElem? (i := 1087) (by decide +kernel)⟩
theorem lw_p30 : lw_okq (⟨"PhraseDesk$Runner", "fail", "(I)LPhraseDesk$Value;"⟩, 8) := ⟨⟨by decide +kernel, by decide +kernel⟩, List.mem_of_getElem? (i := 131) (by decide +kernel), List.mem_of_getElem? (i := 1090) (by decide +kernel), List.mem_of_getElem? (i := 1091) (by decide +kernel)⟩
theorem lw_p31 : lw_okq (⟨"PhraseDesk$Runner", "variable", "(I)LPhraseDesk$Value;"⟩, 8) := ⟨⟨by decide +kernel, by decide +kernel⟩, List.mem_of_getElem? (i := 131) (by decide +kernel), List.mem_of_getElem? (i := 1094) (by decide +kernel), List.mem_of_getElem? (i := 1095) (by decide +kernel)⟩
def lw_privs_2 : List (MethodName × Nat) := [(⟨"PhraseDesk$Parser", "kind", "()I"⟩, 4), (⟨"PhraseDesk$Parser", "chain", "(I)LPhraseDesk$Node;"⟩, 4), (⟨"PhraseDesk$Parser", "first", "(I)LPhraseDesk$Node;"⟩, 4), (⟨"PhraseDesk$Parser", "takeName", "()I"⟩, 4), (⟨"PhraseDesk$Parser", "bracketed", "(I)LPhraseDesk$Node;"⟩, 4), (⟨"PhraseDesk$Parser", "named", "(I)LPhraseDesk$Node;"⟩, 4), (⟨"PhraseDesk$Parser", "member", "(LPhraseDesk$Node;I)LPhraseDesk$Node;"⟩, 4), (⟨"PhraseDesk$Parser", "chosen", "(LPhraseDesk$Node;I)LPhraseDesk$Node;"⟩, 4), (⟨"PhraseDesk", "familyAt", "(I)LPhraseDesk$Family;"⟩, 9), (⟨"PhraseDesk", "isType", "(I)Z"⟩, 9), (⟨"PhraseDesk", "areParameters", "(II)Z"⟩, 9), (⟨"PhraseDesk$Converters", "isThere", "(II)Z"⟩, 2), (⟨"PhraseDesk", "objectAt", "(I)LPhraseDesk$Value;"⟩, 9), (⟨"PhraseDesk$Runner", "eval", "(LPhraseDesk$Node;I)LPhraseDesk$Value;"⟩, 8), (⟨"PhraseDesk$Runner", "fail", "(I)LPhraseDesk$Value;"⟩, 8), (⟨"PhraseDesk$Runner", "variable", "(I)LPhraseDesk$Value;"⟩, 8)]
theorem lw_r2 : ∀ q ∈ lw_privs_2, lw_okq q := List.forall_mem_cons.mpr ⟨lw_p16, List.forall_mem_cons.mpr ⟨lw_p17, List.forall_mem_cons.mpr ⟨lw_p18, List.forall_mem_cons.mpr ⟨lw_p19, List.forall_mem_cons.mpr ⟨lw_p20, List.forall_mem_cons.mpr ⟨lw_p21, List.forall_mem_cons.mpr ⟨lw_p22, List.forall_mem_cons.mpr ⟨lw_p23, List.forall_mem_cons.mpr ⟨lw_p24, List.forall_mem_cons.mpr ⟨lw_p25, List.forall_mem_cons.mpr ⟨lw_p26, List.forall_mem_cons.mpr ⟨lw_p27, List.forall_mem_cons.mpr ⟨lw_p28, List.forall_mem_cons.mpr ⟨lw_p29, List.forall_mem_cons.mpr ⟨lw_p30, List.forall_mem_cons.mpr ⟨lw_p31, fun _ h => absurd h List.not_mem_nil⟩⟩⟩⟩⟩⟩⟩⟩⟩⟩⟩⟩⟩⟩⟩⟩
theorem lw_p32 : lw_okq (⟨"PhraseDesk$Runner", "property", "(LPhraseDesk$Value;IZ)LPhraseDesk$Value;"⟩, 8) := ⟨⟨by decide +kernel, by decide +kernel⟩, List.mem_of_getElem? (i := 131) (by decide +kernel), List.mem_of_getElem? (i := 1099) (by decide +kernel), List.mem_of_getElem? (i := 1100) (by decide +kernel)⟩
theorem lw_p33 : lw_okq (⟨"PhraseDesk$Runner", "call", "(LPhraseDesk$Node;I)LPhraseDesk$Value;"⟩, 8) := ⟨⟨by decide +kernel, by decide +kernel⟩, List.mem_of_getElem? (i := 131) (by decide +kernel), List.mem_of_getElem? (i := 1114) (by decide +kernel), List.mem_of_getElem? (i := 1115) (by decide +kernel)⟩
theorem lw_p34 : lw_okq (⟨"PhraseDesk$Finder", "collect", "(LPhraseDesk$Family;II)V"⟩, 3) := ⟨⟨by decide +kernel, by decide +kernel⟩, List.mem_of_getElem? (i := 194) (by decide +kernel), List.mem_of_getElem? (i := 1126) (by decide +kernel), List.mem_of_getElem? (i := 1127) (by decide +kernel)⟩
theorem lw_p35 : lw_okq (⟨"PhraseDesk$Finder", "addUnlessHidden", "(LPhraseDesk$Routine;)V"⟩, 3) := ⟨⟨by decide +kernel, by decide +kernel⟩, List.mem_of_getElem? (i := 194) (by decide +kernel), List.mem_of_getElem? (i := 1134) (by decide +kernel), List.mem_of_getElem? (i := 1135) (by decide +kernel)⟩
theorem lw_p36 : lw_okq (⟨"PhraseDesk$Finder", "exact", "(LPhraseDesk$Value;LPhraseDesk$Value;)LPhraseDesk$Routine;"⟩, 3) := ⟨⟨by decide +kernel, by decide +kernel⟩, List.mem_of_getElem? (i := 194) (by decide +kernel), List.mem_of_getElem? (i := 1138) (by decide +kernel), List.mem_of_getElem? (i := 1139) (by decide +kernel)⟩
theorem lw_p37 : lw_okq (⟨"PhraseDesk$Finder", "closest", "(LPhraseDesk$Value;LPhraseDesk$Value;)LPhraseDesk$Routine;"⟩, 3) := ⟨⟨by decide +kernel, by decide +kernel⟩, List.mem_of_getElem? (i := 194) (by decide +kernel), List.mem_of_getElem? (i := 1142) (by decide +kernel), List.mem_of_getElem? (i := 1143) (by decide +kernel)⟩
theorem lw_p38 : lw_okq (⟨"PhraseDesk$Value", "stepsUpTo", "(I)I"⟩, 5) := ⟨⟨by decide +kernel, by decide +kernel⟩, List.mem_of_getElem? (i := 140) (by decide +kernel), List.mem_of_getElem? (i := 1150) (by decide +kernel), List.mem_of_getElem? (i := 1151) (by decide +kernel)⟩
theorem lw_p39 : lw_okq (⟨"PhraseDesk$Finder", "convertible", "(LPhraseDesk$Value;LPhraseDesk$Value;LPhraseDesk$Converters;)LPhraseDesk$Routine;"⟩, 3) := ⟨⟨by decide +kernel, by decide +kernel⟩, List.mem_of_getElem? (i := 194) (by decide +kernel), List.mem_of_getElem? (i := 1158) (by decide +kernel), List.mem_of_getElem? (i := 1159) (by decide +kernel)⟩
theorem lw_p40 : lw_okq (⟨"PhraseDesk$Runner", "fit", "(LPhraseDesk$Value;I)LPhraseDesk$Value;"⟩, 8) := ⟨⟨by decide +kernel, by decide +kernel⟩, List.mem_of_getElem? (i := 131) (by decide +kernel), List.mem_of_getElem? (i := 1171) (by decide +kernel), List.mem_of_getElem? (i := 1172) (by decide +kernel)⟩
theorem lw_p41 : lw_okq (⟨"PhraseDesk$Runner", "act", "(LPhraseDesk$Routine;LPhraseDesk$Value;LPhraseDesk$Value;LPhraseDesk$Value;)LPhraseDesk$Value;"⟩, 8) := ⟨⟨by decide +kernel, by decide +kernel⟩, List.mem_of_getElem? (i := 131) (by decide +kernel), List.mem_of_getElem? (i := 1212) (by decide +kernel), List.mem_of_getElem? (i := 1213) (by decide +kernel)⟩
theorem lw_p42 : lw_okq (⟨"PhraseDesk$Runner", "add", "(LPhraseDesk$Value;LPhraseDesk$Value;)LPhraseDesk$Value;"⟩, 8) := ⟨⟨by decide +kernel, by decide +kernel⟩, List.mem_of_getElem? (i := 131) (by decide +kernel), List.mem_of_getElem? (i := 1216) (by decide +kernel), List.mem_of_getElem? (i := 1217) (by decide +kernel)⟩
theorem lw_p43 : lw_okq (⟨"PhraseDesk$Runner", "calculate", "(ILPhraseDesk$Value;LPhraseDesk$Value;)LPhraseDesk$Value;"⟩, 8) := ⟨⟨by decide +kernel, by decide +kernel⟩, List.mem_of_getElem? (i := 131) (by decide +kernel), List.mem_of_getElem? (i := 1223) (by decide +kernel), List.mem_of_getElem? (i := 1224) (by decide +kernel)⟩
theorem lw_p44 : lw_okq (⟨"PhraseDesk$Runner", "ofInts", "(III)LPhraseDesk$Value;"⟩, 8) := ⟨⟨by decide +kernel, by decide +kernel⟩, List.mem_of_getElem? (i := 131) (by decide +kernel), List.mem_of_getElem? (i := 1227) (by decide +kernel), List.mem_of_getElem? (i := 1228) (by decide +kernel)⟩
theorem lw_p45 : lw_okq (⟨"PhraseDesk$Runner", "ofReals", "(IDD)LPhraseDesk$Value;"⟩, 8) := ⟨⟨by decide +kernel, by decide +kernel⟩, List.mem_of_getElem? (i := 131) (by decide +kernel), List.mem_of_getElem? (i := 1235) (by decide +kernel), List.mem_of_getElem? (i := 1236) (by decide +kernel)⟩
theorem lw_p46 : lw_okq (⟨"PhraseDesk$Runner", "negative", "(LPhraseDesk$Value;)LPhraseDesk$Value;"⟩, 8) := ⟨⟨by decide +kernel, by decide +kernel⟩, List.mem_of_getElem? (i := 131) (by decide +kernel), List.mem_of_getElem? (i := 1247) (by decide +kernel), List.mem_of_getElem? (i := 1248) (by decide +kernel)⟩
theorem lw_p47 : lw_okq (⟨"PhraseDesk$Runner", "opposite", "(LPhraseDesk$Value;)LPhraseDesk$Value;"⟩, 8) := ⟨⟨by decide +kernel, by decide +kernel⟩, List.mem_of_getElem? (i := 131) (by decide +kernel), List.mem_of_getElem? (i := 1251) (by decide +kernel), List.mem_of_getElem? (i := 1252) (by decide +kernel)⟩
def lw_privs_3 : List (MethodName × Nat) := [(⟨"PhraseDesk$Runner", "property", "(LPhraseDesk$Value;IZ)LPhraseDesk$Value;"⟩, 8), (⟨"PhraseDesk$Runner", "call", "(LPhraseDesk$Node;I)LPhraseDesk$Value;"⟩, 8), (⟨"PhraseDesk$Finder", "collect", "(LPhraseDesk$Family;II)V"⟩, 3), (⟨"PhraseDesk$Finder", "addUnlessHidden", "(LPhraseDesk$Routine;)V"⟩, 3), (⟨"PhraseDesk$Finder", "exact", "(LPhraseDesk$Value;LPhraseDesk$Value;)LPhraseDesk$Routine;"⟩, 3), (⟨"PhraseDesk$Finder", "closest", "(LPhraseDesk$Value;LPhraseDesk$Value;)LPhraseDesk$Routine;"⟩, 3), (⟨"PhraseDesk$Value", "stepsUpTo", "(I)I"⟩, 5), (⟨"PhraseDesk$Finder", "convertible", "(LPhraseDesk$Value;LPhraseDesk$Value;LPhraseDesk$Converters;)LPhraseDesk$Routine;"⟩, 3), (⟨"PhraseDesk$Runner", "fit", "(LPhraseDesk$Value;I)LPhraseDesk$Value;"⟩, 8), (⟨"PhraseDesk$Runner", "act", "(LPhraseDesk$Routine;LPhraseDesk$Value;LPhraseDesk$Value;LPhraseDesk$Value;)LPhraseDesk$Value;"⟩, 8), (⟨"PhraseDesk$Runner", "add", "(LPhraseDesk$Value;LPhraseDesk$Value;)LPhraseDesk$Value;"⟩, 8), (⟨"PhraseDesk$Runner", "calculate", "(ILPhraseDesk$Value;LPhraseDesk$Value;)LPhraseDesk$Value;"⟩, 8), (⟨"PhraseDesk$Runner", "ofInts", "(III)LPhraseDesk$Value;"⟩, 8), (⟨"PhraseDesk$Runner", "ofReals", "(IDD)LPhraseDesk$Value;"⟩, 8), (⟨"PhraseDesk$Runner", "negative", "(LPhraseDesk$Value;)LPhraseDesk$Value;"⟩, 8), (⟨"PhraseDesk$Runner", "opposite", "(LPhraseDesk$Value;)LPhraseDesk$Value;"⟩, 8)]
theorem lw_r3 : ∀ q ∈ lw_privs_3, lw_okq q := List.forall_mem_cons.mpr ⟨lw_p32, List.forall_mem_cons.mpr ⟨lw_p33, List.forall_mem_cons.mpr ⟨lw_p34, List.forall_mem_cons.mpr ⟨lw_p35, List.forall_mem_cons.mpr ⟨lw_p36, List.forall_mem_cons.mpr ⟨lw_p37, List.forall_mem_cons.mpr ⟨lw_p38, List.forall_mem_cons.mpr ⟨lw_p39, List.forall_mem_cons.mpr ⟨lw_p40, List.forall_mem_cons.mpr ⟨lw_p41, List.forall_mem_cons.mpr ⟨lw_p42, List.forall_mem_cons.mpr ⟨lw_p43, List.forall_mem_cons.mpr ⟨lw_p44, List.forall_mem_cons.mpr ⟨lw_p45, List.forall_mem_cons.mpr ⟨lw_p46, List.forall_mem_cons.mpr ⟨lw_p47, fun _ h => absurd h List.not_mem_nil⟩⟩⟩⟩⟩⟩⟩⟩⟩⟩⟩⟩⟩⟩⟩⟩
theorem lw_p48 : lw_okq (⟨"PhraseDesk$Runner", "logic", "(LPhraseDesk$Node;I)LPhraseDesk$Value;"⟩, 8) := ⟨⟨by decide +kernel, by decide +kernel⟩, List.mem_of_getElem? (i := 131) (by decide +kernel), List.mem_of_getElem? (i := 1260) (by decide +kernel), List.mem_of_getElem? (i := 1261) (by decide +kernel)⟩
theorem lw_p49 : lw_okq (⟨"PhraseDesk$Runner", "bool", "(LPhraseDesk$Value;)LPhraseDesk$Value;"⟩, 8) := ⟨⟨by decide +kernel, by decide +kernel⟩, List.mem_of_getElem? (i := 131) (by decide +kernel), List.mem_of_getElem? (i := 1264) (by decide +kernel), List.mem_of_getElem? (i := 1265) (by decide +kernel)⟩
theorem lw_p50 : lw_okq (⟨"PhraseDesk$Runner", "chosen", "(LPhraseDesk$Node;I)LPhraseDesk$Value;"⟩, 8) := ⟨⟨by decide +kernel, by decide +kernel⟩, List.mem_of_getElem? (i := 131) (by decide +kernel), List.mem_of_getElem? (i := 1268) (by decide +kernel), List.mem_of_getElem? (i := 1269) (by decide +kernel)⟩
theorem lw_p51 : lw_okq (⟨"PhraseDesk$Runner", "orElse", "(LPhraseDesk$Node;I)LPhraseDesk$Value;"⟩, 8) := ⟨⟨by decide +kernel, by decide +kernel⟩, List.mem_of_getElem? (i := 131) (by decide +kernel), List.mem_of_getElem? (i := 1272) (by decide +kernel), List.mem_of_getElem? (i := 1273) (by decide +kernel)⟩
theorem lw_p52 : lw_okq (⟨"PhraseDesk$Runner", "set", "(LPhraseDesk$Node;I)LPhraseDesk$Value;"⟩, 8) := ⟨⟨by decide +kernel, by decide +kernel⟩, List.mem_of_getElem? (i := 131) (by decide +kernel), List.mem_of_getElem? (i := 1280) (by decide +kernel), List.mem_of_getElem? (i := 1281) (by decide +kernel)⟩
theorem lw_p53 : lw_okq (⟨"PhraseDesk$Runner", "setProperty", "(LPhraseDesk$Node;LPhraseDesk$Node;I)LPhraseDesk$Value;"⟩, 8) := ⟨⟨by decide +kernel, by decide +kernel⟩, List.mem_of_getElem? (i := 131) (by decide +kernel), List.mem_of_getElem? (i := 1284) (by decide +kernel), List.mem_of_getElem? (i := 1285) (by decide +kernel)⟩
theorem lw_p54 : lw_okq (⟨"PhraseDesk$Runner", "setField", "(LPhraseDesk$Value;ILPhraseDesk$Value;)LPhraseDesk$Value;"⟩, 8) := ⟨⟨by decide +kernel, by decide +kernel⟩, List.mem_of_getElem? (i := 131) (by decide +kernel), List.mem_of_getElem? (i := 1288) (by decide +kernel), List.mem_of_getElem? (i := 1289) (by decide +kernel)⟩
theorem lw_p55 : lw_okq (⟨"PhraseDesk$Runner", "combined", "(LPhraseDesk$Node;I)LPhraseDesk$Value;"⟩, 8) := ⟨⟨by decide +kernel, by decide +kernel⟩, List.mem_of_getElem? (i := 131) (by decide +kernel), List.mem_of_getElem? (i := 1301) (by decide +kernel), List.mem_of_getElem? (i := 1302) (by decide +kernel)⟩
theorem lw_p56 : lw_okq (⟨"PhraseDesk$Runner", "compare", "(ILPhraseDesk$Value;LPhraseDesk$Value;)LPhraseDesk$Value;"⟩, 8) := ⟨⟨by decide +kernel, by decide +kernel⟩, List.mem_of_getElem? (i := 131) (by decide +kernel), List.mem_of_getElem? (i := 1309) (by decide +kernel), List.mem_of_getElem? (i := 1310) (by decide +kernel)⟩
theorem lw_p57 : lw_okq (⟨"PhraseDeskModel", "cut", "()V"⟩, 60) := ⟨⟨by decide +kernel, by decide +kernel⟩, List.mem_of_getElem? (i := 1332) (by decide +kernel), List.mem_of_getElem? (i := 1533) (by decide +kernel), List.mem_of_getElem? (i := 1534) (by decide +kernel)⟩
theorem lw_p58 : lw_okq (⟨"PhraseDeskModel", "at", "(I)I"⟩, 60) := ⟨⟨by decide +kernel, by decide +kernel⟩, List.mem_of_getElem? (i := 1332) (by decide +kernel), List.mem_of_getElem? (i := 1537) (by decide +kernel), List.mem_of_getElem? (i := 1538) (by decide +kernel)⟩
theorem lw_p59 : lw_okq (⟨"PhraseDeskModel", "digit", "(I)Z"⟩, 60) := ⟨⟨by decide +kernel, by decide +kernel⟩, List.mem_of_getElem? (i := 1332) (by decide +kernel), List.mem_of_getElem? (i := 1541) (by decide +kernel), List.mem_of_getElem? (i := 1542) (by decide +kernel)⟩
theorem lw_p60 : lw_okq (⟨"PhraseDeskModel", "number", "(I)I"⟩, 60) := ⟨⟨by decide +kernel, by decide +kernel⟩, List.mem_of_getElem? (i := 1332) (by decide +kernel), List.mem_of_getElem? (i := 1545) (by decide +kernel), List.mem_of_getElem? (i := 1546) (by decide +kernel)⟩
theorem lw_p61 : lw_okq (⟨"PhraseDeskModel", "wrong", "(II)V"⟩, 60) := ⟨⟨by decide +kernel, by decide +kernel⟩, List.mem_of_getElem? (i := 1332) (by decide +kernel), List.mem_of_getElem? (i := 1551) (by decide +kernel), List.mem_of_getElem? (i := 1552) (by decide +kernel)⟩
theorem lw_p62 : lw_okq (⟨"PhraseDeskModel", "add", "(IIJ)V"⟩, 60) := ⟨⟨by decide +kernel, by decide +kernel⟩, List.mem_of_getElem? (i := 1332) (by decide +kernel), List.mem_of_getElem? (i := 1555) (by decide +kernel), List.mem_of_getElem? (i := 1556) (by decide +kernel)⟩
theorem lw_p63 : lw_okq (⟨"PhraseDeskModel", "lower", "(I)Z"⟩, 60) := ⟨⟨by decide +kernel, by decide +kernel⟩, List.mem_of_getElem? (i := 1332) (by decide +kernel), List.mem_of_getElem? (i := 1559) (by decide +kernel), List.mem_of_getElem? (i := 1560) (by decide +kernel)⟩
def lw_privs_4 : List (MethodName × Nat) := [(⟨"PhraseDesk$Runner", "logic", "(LPhraseDesk$Node;I)LPhraseDesk$Value;"⟩, 8), (⟨"PhraseDesk$Runner", "bool", "(LPhraseDesk$Value;)LPhraseDesk$Value;"⟩, 8), (⟨"PhraseDesk$Runner", "chosen", "(LPhraseDesk$Node;I)LPhraseDesk$Value;"⟩, 8), (⟨"PhraseDesk$Runner", "orElse", "(LPhraseDesk$Node;I)LPhraseDesk$Value;"⟩, 8), (⟨"PhraseDesk$Runner", "set", "(LPhraseDesk$Node;I)LPhraseDesk$Value;"⟩, 8), (⟨"PhraseDesk$Runner", "setProperty", "(LPhraseDesk$Node;LPhraseDesk$Node;I)LPhraseDesk$Value;"⟩, 8), (⟨"PhraseDesk$Runner", "setField", "(LPhraseDesk$Value;ILPhraseDesk$Value;)LPhraseDesk$Value;"⟩, 8), (⟨"PhraseDesk$Runner", "combined", "(LPhraseDesk$Node;I)LPhraseDesk$Value;"⟩, 8), (⟨"PhraseDesk$Runner", "compare", "(ILPhraseDesk$Value;LPhraseDesk$Value;)LPhraseDesk$Value;"⟩, 8), (⟨"PhraseDeskModel", "cut", "()V"⟩, 60), (⟨"PhraseDeskModel", "at", "(I)I"⟩, 60), (⟨"PhraseDeskModel", "digit", "(I)Z"⟩, 60), (⟨"PhraseDeskModel", "number", "(I)I"⟩, 60), (⟨"PhraseDeskModel", "wrong", "(II)V"⟩, 60), (⟨"PhraseDeskModel", "add", "(IIJ)V"⟩, 60), (⟨"PhraseDeskModel", "lower", "(I)Z"⟩, 60)]
theorem lw_r4 : ∀ q ∈ lw_privs_4, lw_okq q := List.forall_mem_cons.mpr ⟨lw_p48, List.forall_mem_cons.mpr ⟨lw_p49, List.forall_mem_cons.mpr ⟨lw_p50, List.forall_mem_cons.mpr ⟨lw_p51, List.forall_mem_cons.mpr ⟨lw_p52, List.forall_mem_cons.mpr ⟨lw_p53, List.forall_mem_cons.mpr ⟨lw_p54, List.forall_mem_cons.mpr ⟨lw_p55, List.forall_mem_cons.mpr ⟨lw_p56, List.forall_mem_cons.mpr ⟨lw_p57, List.forall_mem_cons.mpr ⟨lw_p58, List.forall_mem_cons.mpr ⟨lw_p59, List.forall_mem_cons.mpr ⟨lw_p60, List.forall_mem_cons.mpr ⟨lw_p61, List.forall_mem_cons.mpr ⟨lw_p62, List.forall_mem_cons.mpr ⟨lw_p63, fun _ h => absurd h List.not_mem_nil⟩⟩⟩⟩⟩⟩⟩⟩⟩⟩⟩⟩⟩⟩⟩⟩
theorem lw_p64 : lw_okq (⟨"PhraseDeskModel", "name", "(I)I"⟩, 60) := ⟨⟨by decide +kernel, by decide +kernel⟩, List.mem_of_getElem? (i := 1332) (by decide +kernel), List.mem_of_getElem? (i := 1563) (by decide +kernel), List.mem_of_getElem? (i := 1564) (by decide +kernel)⟩
theorem lw_p65 : lw_okq (⟨"PhraseDeskModel", "quoted", "(I)I"⟩, 60) := ⟨⟨by decide +kernel, by decide +kernel⟩, List.mem_of_getElem? (i := 1332) (by decide +kernel), List.mem_of_getElem? (i := 1569) (by decide +kernel), List.mem_of_getElem? (i := 1570) (by decide +kernel)⟩
theorem lw_p66 : lw_okq (⟨"PhraseDeskModel", "sign", "(I)I"⟩, 60) := ⟨⟨by decide +kernel, by decide +kernel⟩, List.mem_of_getElem? (i := 1332) (by decide +kernel), List.mem_of_getElem? (i := 1573) (by decide +kernel), List.mem_of_getElem? (i := 1574) (by decide +kernel)⟩
theorem lw_p67 : lw_okq (⟨"PhraseDeskModel", "open", "(I)V"⟩, 60) := ⟨⟨by decide +kernel, by decide +kernel⟩, List.mem_of_getElem? (i := 1332) (by decide +kernel), List.mem_of_getElem? (i := 1584) (by decide +kernel), List.mem_of_getElem? (i := 1585) (by decide +kernel)⟩
theorem lw_p68 : lw_okq (⟨"PhraseDeskModel", "fresh", "()V"⟩, 60) := ⟨⟨by decide +kernel, by decide +kernel⟩, List.mem_of_getElem? (i := 1332) (by decide +kernel), List.mem_of_getElem? (i := 1588) (by decide +kernel), List.mem_of_getElem? (i := 1589) (by decide +kernel)⟩
theorem lw_p69 : lw_okq (⟨"PhraseDeskModel", "first", "()V"⟩, 60) := ⟨⟨by decide +kernel, by decide +kernel⟩, List.mem_of_getElem? (i := 1332) (by decide +kernel), List.mem_of_getElem? (i := 1592) (by decide +kernel), List.mem_of_getElem? (i := 1593) (by decide +kernel)⟩
theorem lw_p70 : lw_okq (⟨"PhraseDeskModel", "emit", "(IJ)I"⟩, 60) := ⟨⟨by decide +kernel, by decide +kernel⟩, List.mem_of_getElem? (i := 1332) (by decide +kernel), List.mem_of_getElem? (i := 1596) (by decide +kernel), List.mem_of_getElem? (i := 1597) (by decide +kernel)⟩
theorem lw_p71 : lw_okq (⟨"PhraseDeskModel", "ready", "(Z)V"⟩, 60) := ⟨⟨by decide +kernel, by decide +kernel⟩, List.mem_of_getElem? (i := 1332) (by decide +kernel), List.mem_of_getElem? (i := 1600) (by decide +kernel), List.mem_of_getElem? (i := 1601) (by decide +kernel)⟩
theorem lw_p72 : lw_okq (⟨"PhraseDeskModel", "word", "()V"⟩, 60) := ⟨⟨by decide +kernel, by decide +kernel⟩, List.mem_of_getElem? (i := 1332) (by decide +kernel), List.mem_of_getElem? (i := 1604) (by decide +kernel), List.mem_of_getElem? (i := 1605) (by decide +kernel)⟩
theorem lw_p73 : lw_okq (⟨"PhraseDeskModel", "named", "(IZ)V"⟩, 60) := ⟨⟨by decide +kernel, by decide +kernel⟩, List.mem_of_getElem? (i := 1332) (by decide +kernel), List.mem_of_getElem? (i := 1611) (by decide +kernel), List.mem_of_getElem? (i := 1612) (by decide +kernel)⟩
theorem lw_p74 : lw_okq (⟨"PhraseDeskModel", "isSign", "(I)Z"⟩, 60) := ⟨⟨by decide +kernel, by decide +kernel⟩, List.mem_of_getElem? (i := 1332) (by decide +kernel), List.mem_of_getElem? (i := 1615) (by decide +kernel), List.mem_of_getElem? (i := 1616) (by decide +kernel)⟩
theorem lw_p75 : lw_okq (⟨"PhraseDeskModel", "call", "(IZ)V"⟩, 60) := ⟨⟨by decide +kernel, by decide +kernel⟩, List.mem_of_getElem? (i := 1332) (by decide +kernel), List.mem_of_getElem? (i := 1619) (by decide +kernel), List.mem_of_getElem? (i := 1620) (by decide +kernel)⟩
theorem lw_p76 : lw_okq (⟨"PhraseDeskModel", "misfit", "()V"⟩, 60) := ⟨⟨by decide +kernel, by decide +kernel⟩, List.mem_of_getElem? (i := 1332) (by decide +kernel), List.mem_of_getElem? (i := 1624) (by decide +kernel), List.mem_of_getElem? (i := 1625) (by decide +kernel)⟩
theorem lw_p77 : lw_okq (⟨"PhraseDeskModel", "behind", "()V"⟩, 60) := ⟨⟨by decide +kernel, by decide +kernel⟩, List.mem_of_getElem? (i := 1332) (by decide +kernel), List.mem_of_getElem? (i := 1628) (by decide +kernel), List.mem_of_getElem? (i := 1629) (by decide +kernel)⟩
theorem lw_p78 : lw_okq (⟨"PhraseDeskModel", "finish", "()V"⟩, 60) := ⟨⟨by decide +kernel, by decide +kernel⟩, List.mem_of_getElem? (i := 1332) (by decide +kernel), List.mem_of_getElem? (i := 1632) (by decide +kernel), List.mem_of_getElem? (i := 1633) (by decide +kernel)⟩
theorem lw_p79 : lw_okq (⟨"PhraseDeskModel", "reduce", "(I)V"⟩, 60) := ⟨⟨by decide +kernel, by decide +kernel⟩, List.mem_of_getElem? (i := 1332) (by decide +kernel), List.mem_of_getElem? (i := 1636) (by decide +kernel), List.mem_of_getElem? (i := 1637) (by decide +kernel)⟩
def lw_privs_5 : List (MethodName × Nat) := [(⟨"PhraseDeskModel", "name", "(I)I"⟩, 60), (⟨"PhraseDeskModel", "quoted", "(I)I"⟩, 60), (⟨"PhraseDeskModel", "sign", "(I)I"⟩, 60), (⟨"PhraseDeskModel", "open", "(I)V"⟩, 60), (⟨"PhraseDeskModel", "fresh", "()V"⟩, 60), (⟨"PhraseDeskModel", "first", "()V"⟩, 60), (⟨"PhraseDeskModel", "emit", "(IJ)I"⟩, 60), (⟨"PhraseDeskModel", "ready", "(Z)V"⟩, 60), (⟨"PhraseDeskModel", "word", "()V"⟩, 60), (⟨"PhraseDeskModel", "named", "(IZ)V"⟩, 60), (⟨"PhraseDeskModel", "isSign", "(I)Z"⟩, 60), (⟨"PhraseDeskModel", "call", "(IZ)V"⟩, 60), (⟨"PhraseDeskModel", "misfit", "()V"⟩, 60), (⟨"PhraseDeskModel", "behind", "()V"⟩, 60), (⟨"PhraseDeskModel", "finish", "()V"⟩, 60), (⟨"PhraseDeskModel", "reduce", "(I)V"⟩, 60)]
theorem lw_r5 : ∀ q ∈ lw_privs_5, lw_okq q := List.forall_mem_cons.mpr ⟨lw_p64, List.forall_mem_cons.mpr ⟨lw_p65, List.forall_mem_cons.mpr ⟨lw_p66, List.forall_mem_cons.mpr ⟨lw_p67, List.forall_mem_cons.mpr ⟨lw_p68, List.forall_mem_cons.mpr ⟨lw_p69, List.forall_mem_cons.mpr ⟨lw_p70, List.forall_mem_cons.mpr ⟨lw_p71, List.forall_mem_cons.mpr ⟨lw_p72, List.forall_mem_cons.mpr ⟨lw_p73, List.forall_mem_cons.mpr ⟨lw_p74, List.forall_mem_cons.mpr ⟨lw_p75, List.forall_mem_cons.mpr ⟨lw_p76, List.forall_mem_cons.mpr ⟨lw_p77, List.forall_mem_cons.mpr ⟨lw_p78, List.forall_mem_cons.mpr ⟨lw_p79, fun _ h => absurd h List.not_mem_nil⟩⟩⟩⟩⟩⟩⟩⟩⟩⟩⟩⟩⟩⟩⟩⟩
theorem lw_p80 : lw_okq (⟨"PhraseDeskModel", "argument", "()V"⟩, 60) := ⟨⟨by decide +kernel, by decide +kernel⟩, List.mem_of_getElem? (i := 1332) (by decide +kernel), List.mem_of_getElem? (i := 1640) (by decide +kernel), List.mem_of_getElem? (i := 1641) (by decide +kernel)⟩
theorem lw_p81 : lw_okq (⟨"PhraseDeskModel", "assign", "()V"⟩, 60) := ⟨⟨by decide +kernel, by decide +kernel⟩, List.mem_of_getElem? (i := 1332) (by decide +kernel), List.mem_of_getElem? (i := 1644) (by decide +kernel), List.mem_of_getElem? (i := 1645) (by decide +kernel)⟩
theorem lw_p82 : lw_okq (⟨"PhraseDeskModel", "suffix", "()Z"⟩, 60) := ⟨⟨by decide +kernel, by decide +kernel⟩, List.mem_of_getElem? (i := 1332) (by decide +kernel), List.mem_of_getElem? (i := 1648) (by decide +kernel), List.mem_of_getElem? (i := 1649) (by decide +kernel)⟩
theorem lw_p83 : lw_okq (⟨"PhraseDeskModel", "levelNext", "()I"⟩, 60) := ⟨⟨by decide +kernel, by decide +kernel⟩, List.mem_of_getElem? (i := 1332) (by decide +kernel), List.mem_of_getElem? (i := 1652) (by decide +kernel), List.mem_of_getElem? (i := 1653) (by decide +kernel)⟩
theorem lw_p84 : lw_okq (⟨"PhraseDeskModel", "compared", "()Z"⟩, 60) := ⟨⟨by decide +kernel, by decide +kernel⟩, List.mem_of_getElem? (i := 1332) (by decide +kernel), List.mem_of_getElem? (i := 1656) (by decide +kernel), List.mem_of_getElem? (i := 1657) (by decide +kernel)⟩
theorem lw_p85 : lw_okq (⟨"PhraseDeskModel", "binary", "(I)V"⟩, 60) := ⟨⟨by decide +kernel, by decide +kernel⟩, List.mem_of_getElem? (i := 1332) (by decide +kernel), List.mem_of_getElem? (i := 1660) (by decide +kernel), List.mem_of_getElem? (i := 1661) (by decide +kernel)⟩
theorem lw_p86 : lw_okq (⟨"PhraseDeskModel", "isClass", "(I)Z"⟩, 60) := ⟨⟨by decide +kernel, by decide +kernel⟩, List.mem_of_getElem? (i := 1332) (by decide +kernel), List.mem_of_getElem? (i := 1671) (by decide +kernel), List.mem_of_getElem? (i := 1672) (by decide +kernel)⟩
theorem lw_p87 : lw_okq (⟨"PhraseDeskModel", "isType", "(I)Z"⟩, 60) := ⟨⟨by decide +kernel, by decide +kernel⟩, List.mem_of_getElem? (i := 1332) (by decide +kernel), List.mem_of_getElem? (i := 1683) (by decide +kernel), List.mem_of_getElem? (i := 1684) (by decide +kernel)⟩
theorem lw_p88 : lw_okq (⟨"PhraseDeskModel", "jumps", "(I)Z"⟩, 60) := ⟨⟨by decide +kernel, by decide +kernel⟩, List.mem_of_getElem? (i := 1332) (by decide +kernel), List.mem_of_getElem? (i := 1703) (by decide +kernel), List.mem_of_getElem? (i := 1704) (by decide +kernel)⟩
theorem lw_p89 : lw_okq (⟨"PhraseDeskModel", "empty", "(I)Z"⟩, 60) := ⟨⟨by decide +kernel, by decide +kernel⟩, List.mem_of_getElem? (i := 1332) (by decide +kernel), List.mem_of_getElem? (i := 1707) (by decide +kernel), List.mem_of_getElem? (i := 1708) (by decide +kernel)⟩
theorem lw_p90 : lw_okq (⟨"PhraseDeskModel", "lengthOf", "(I)I"⟩, 60) := ⟨⟨by decide +kernel, by decide +kernel⟩, List.mem_of_getElem? (i := 1332) (by decide +kernel), List.mem_of_getElem? (i := 1711) (by decide +kernel), List.mem_of_getElem? (i := 1712) (by decide +kernel)⟩
theorem lw_p91 : lw_okq (⟨"PhraseDeskModel", "does", "(IJ)V"⟩, 60) := ⟨⟨by decide +kernel, by decide +kernel⟩, List.mem_of_getElem? (i := 1332) (by decide +kernel), List.mem_of_getElem? (i := 1715) (by decide +kernel), List.mem_of_getElem? (i := 1716) (by decide +kernel)⟩
theorem lw_p92 : lw_okq (⟨"PhraseDeskModel", "loads", "(IJ)V"⟩, 60) := ⟨⟨by decide +kernel, by decide +kernel⟩, List.mem_of_getElem? (i := 1332) (by decide +kernel), List.mem_of_getElem? (i := 1719) (by decide +kernel), List.mem_of_getElem? (i := 1720) (by decide +kernel)⟩
theorem lw_p93 : lw_okq (⟨"PhraseDeskModel", "push", "(IJ)V"⟩, 60) := ⟨⟨by decide +kernel, by decide +kernel⟩, List.mem_of_getElem? (i := 1332) (by decide +kernel), List.mem_of_getElem? (i := 1723) (by decide +kernel), List.mem_of_getElem? (i := 1724) (by decide +kernel)⟩
theorem lw_p94 : lw_okq (⟨"PhraseDeskModel", "set", "(IIJD)V"⟩, 60) := ⟨⟨by decide +kernel, by decide +kernel⟩, List.mem_of_getElem? (i := 1332) (by decide +kernel), List.mem_of_getElem? (i := 1727) (by decide +kernel), List.mem_of_getElem? (i := 1728) (by decide +kernel)⟩
theorem lw_p95 : lw_okq (⟨"PhraseDeskModel", "placeOf", "(I)I"⟩, 60) := ⟨⟨by decide +kernel, by decide +kernel⟩, List.mem_of_getElem? (i := 1332) (by decide +kernel), List.mem_of_getElem? (i := 1734) (by decide +kernel), List.mem_of_getElem? (i := 1735) (by decide +kernel)⟩
def lw_privs_6 : List (MethodName × Nat) := [(⟨"PhraseDeskModel", "argument", "()V"⟩, 60), (⟨"PhraseDeskModel", "assign", "()V"⟩, 60), (⟨"PhraseDeskModel", "suffix", "()Z"⟩, 60), (⟨"PhraseDeskModel", "levelNext", "()I"⟩, 60), (⟨"PhraseDeskModel", "compared", "()Z"⟩, 60), (⟨"PhraseDeskModel", "binary", "(I)V"⟩, 60), (⟨"PhraseDeskModel", "isClass", "(I)Z"⟩, 60), (⟨"PhraseDeskModel", "isType", "(I)Z"⟩, 60), (⟨"PhraseDeskModel", "jumps", "(I)Z"⟩, 60), (⟨"PhraseDeskModel", "empty", "(I)Z"⟩, 60), (⟨"PhraseDeskModel", "lengthOf", "(I)I"⟩, 60), (⟨"PhraseDeskModel", "does", "(IJ)V"⟩, 60), (⟨"PhraseDeskModel", "loads", "(IJ)V"⟩, 60), (⟨"PhraseDeskModel", "push", "(IJ)V"⟩, 60), (⟨"PhraseDeskModel", "set", "(IIJD)V"⟩, 60), (⟨"PhraseDeskModel", "placeOf", "(I)I"⟩, 60)]
theorem lw_r6 : ∀ q ∈ lw_privs_6, lw_okq q := List.forall_mem_cons.mpr ⟨lw_p80, List.forall_mem_cons.mpr ⟨lw_p81, List.forall_mem_cons.mpr ⟨lw_p82, List.forall_mem_cons.mpr ⟨lw_p83, List.forall_mem_cons.mpr ⟨lw_p84, List.forall_mem_cons.mpr ⟨lw_p85, List.forall_mem_cons.mpr ⟨lw_p86, List.forall_mem_cons.mpr ⟨lw_p87, List.forall_mem_cons.mpr ⟨lw_p88, List.forall_mem_cons.mpr ⟨lw_p89, List.forall_mem_cons.mpr ⟨lw_p90, List.forall_mem_cons.mpr ⟨lw_p91, List.forall_mem_cons.mpr ⟨lw_p92, List.forall_mem_cons.mpr ⟨lw_p93, List.forall_mem_cons.mpr ⟨lw_p94, List.forall_mem_cons.mpr ⟨lw_p95, fun _ h => absurd h List.not_mem_nil⟩⟩⟩⟩⟩⟩⟩⟩⟩⟩⟩⟩⟩⟩⟩⟩
theorem lw_p96 : lw_okq (⟨"PhraseDeskModel", "copy", "(II)V"⟩, 60) := ⟨⟨by decide +kernel, by decide +kernel⟩, List.mem_of_getElem? (i := 1332) (by decide +kernel), List.mem_of_getElem? (i := 1738) (by decide +kernel), List.mem_of_getElem? (i := 1739) (by decide +kernel)⟩
theorem lw_p97 : lw_okq (⟨"PhraseDeskModel", "property", "(IZ)V"⟩, 60) := ⟨⟨by decide +kernel, by decide +kernel⟩, List.mem_of_getElem? (i := 1332) (by decide +kernel), List.mem_of_getElem? (i := 1742) (by decide +kernel), List.mem_of_getElem? (i := 1743) (by decide +kernel)⟩
theorem lw_p98 : lw_okq (⟨"PhraseDeskModel", "fieldOf", "(II)I"⟩, 60) := ⟨⟨by decide +kernel, by decide +kernel⟩, List.mem_of_getElem? (i := 1332) (by decide +kernel), List.mem_of_getElem? (i := 1746) (by decide +kernel), List.mem_of_getElem? (i := 1747) (by decide +kernel)⟩
theorem lw_p99 : lw_okq (⟨"PhraseDeskModel", "calls", "(II)V"⟩, 60) := ⟨⟨by decide +kernel, by decide +kernel⟩, List.mem_of_getElem? (i := 1332) (by decide +kernel), List.mem_of_getElem? (i := 1750) (by decide +kernel), List.mem_of_getElem? (i := 1751) (by decide +kernel)⟩
theorem lw_p100 : lw_okq (⟨"PhraseDeskModel", "found", "(IIII)I"⟩, 60) := ⟨⟨by decide +kernel, by decide +kernel⟩, List.mem_of_getElem? (i := 1332) (by decide +kernel), List.mem_of_getElem? (i := 1754) (by decide +kernel), List.mem_of_getElem? (i := 1755) (by decide +kernel)⟩
theorem lw_p101 : lw_okq (⟨"PhraseDeskModel", "stands", "(IIII)Z"⟩, 60) := ⟨⟨by decide +kernel, by decide +kernel⟩, List.mem_of_getElem? (i := 1332) (by decide +kernel), List.mem_of_getElem? (i := 1758) (by decide +kernel), List.mem_of_getElem? (i := 1759) (by decide +kernel)⟩
theorem lw_p102 : lw_okq (⟨"PhraseDeskModel", "suits", "(III)I"⟩, 60) := ⟨⟨by decide +kernel, by decide +kernel⟩, List.mem_of_getElem? (i := 1332) (by decide +kernel), List.mem_of_getElem? (i := 1765) (by decide +kernel), List.mem_of_getElem? (i := 1766) (by decide +kernel)⟩
theorem lw_p103 : lw_okq (⟨"PhraseDeskModel", "fitsType", "(II)Z"⟩, 60) := ⟨⟨by decide +kernel, by decide +kernel⟩, List.mem_of_getElem? (i := 1332) (by decide +kernel), List.mem_of_getElem? (i := 1769) (by decide +kernel), List.mem_of_getElem? (i := 1770) (by decide +kernel)⟩
theorem lw_p104 : lw_okq (⟨"PhraseDeskModel", "steps", "(II)I"⟩, 60) := ⟨⟨by decide +kernel, by decide +kernel⟩, List.mem_of_getElem? (i := 1332) (by decide +kernel), List.mem_of_getElem? (i := 1773) (by decide +kernel), List.mem_of_getElem? (i := 1774) (by decide +kernel)⟩
theorem lw_p105 : lw_okq (⟨"PhraseDeskModel", "convertible", "(II)Z"⟩, 60) := ⟨⟨by decide +kernel, by decide +kernel⟩, List.mem_of_getElem? (i := 1332) (by decide +kernel), List.mem_of_getElem? (i := 1777) (by decide +kernel), List.mem_of_getElem? (i := 1778) (by decide +kernel)⟩
theorem lw_p106 : lw_okq (⟨"PhraseDeskModel", "weight", "(II)I"⟩, 60) := ⟨⟨by decide +kernel, by decide +kernel⟩, List.mem_of_getElem? (i := 1332) (by decide +kernel), List.mem_of_getElem? (i := 1781) (by decide +kernel), List.mem_of_getElem? (i := 1782) (by decide +kernel)⟩
theorem lw_p107 : lw_okq (⟨"PhraseDeskModel", "fit", "(II)V"⟩, 60) := ⟨⟨by decide +kernel, by decide +kernel⟩, List.mem_of_getElem? (i := 1332) (by decide +kernel), List.mem_of_getElem? (i := 1785) (by decide +kernel), List.mem_of_getElem? (i := 1786) (by decide +kernel)⟩
theorem lw_p108 : lw_okq (⟨"PhraseDeskModel", "convert", "(II)V"⟩, 60) := ⟨⟨by decide +kernel, by decide +kernel⟩, List.mem_of_getElem? (i := 1332) (by decide +kernel), List.mem_of_getElem? (i := 1789) (by decide +kernel), List.mem_of_getElem? (i := 1790) (by decide +kernel)⟩
theorem lw_p109 : lw_okq (⟨"PhraseDeskModel", "spell", "(I)V"⟩, 60) := ⟨⟨by decide +kernel, by decide +kernel⟩, List.mem_of_getElem? (i := 1332) (by decide +kernel), List.mem_of_getElem? (i := 1793) (by decide +kernel), List.mem_of_getElem? (i := 1794) (by decide +kernel)⟩
theorem lw_p110 : lw_okq (⟨"PhraseDeskModel", "sign8", "(II)I"⟩, 60) := ⟨⟨by decide +kernel, by decide +kernel⟩, List.mem_of_getElem? (i := 1332) (by decide +kernel), List.mem_of_getElem? (i := 1797) (by decide +kernel), List.mem_of_getElem? (i := 1798) (by decide +kernel)⟩
theorem lw_p111 : lw_okq (⟨"PhraseDeskModel", "build", "(I)V"⟩, 60) := ⟨⟨by decide +kernel, by decide +kernel⟩, List.mem_of_getElem? (i := 1332) (by decide +kernel), List.mem_of_getElem? (i := 1802) (by decide +kernel), List.mem_of_getElem? (i := 1803) (by decide +kernel)⟩
def lw_privs_7 : List (MethodName × Nat) := [(⟨"PhraseDeskModel", "copy", "(II)V"⟩, 60), (⟨"PhraseDeskModel", "property", "(IZ)V"⟩, 60), (⟨"PhraseDeskModel", "fieldOf", "(II)I"⟩, 60), (⟨"PhraseDeskModel", "calls", "(II)V"⟩, 60), (⟨"PhraseDeskModel", "found", "(IIII)I"⟩, 60), (⟨"PhraseDeskModel", "stands", "(IIII)Z"⟩, 60), (⟨"PhraseDeskModel", "suits", "(III)I"⟩, 60), (⟨"PhraseDeskModel", "fitsType", "(II)Z"⟩, 60), (⟨"PhraseDeskModel", "steps", "(II)I"⟩, 60), (⟨"PhraseDeskModel", "convertible", "(II)Z"⟩, 60), (⟨"PhraseDeskModel", "weight", "(II)I"⟩, 60), (⟨"PhraseDeskModel", "fit", "(II)V"⟩, 60), (⟨"PhraseDeskModel", "convert", "(II)V"⟩, 60), (⟨"PhraseDeskModel", "spell", "(I)V"⟩, 60), (⟨"PhraseDeskModel", "sign8", "(II)I"⟩, 60), (⟨"PhraseDeskModel", "build", "(I)V"⟩, 60)]
theorem lw_r7 : ∀ q ∈ lw_privs_7, lw_okq q := List.forall_mem_cons.mpr ⟨lw_p96, List.forall_mem_cons.mpr ⟨lw_p97, List.forall_mem_cons.mpr ⟨lw_p98, List.forall_mem_cons.mpr ⟨lw_p99, List.forall_mem_cons.mpr ⟨lw_p100, List.forall_mem_cons.mpr ⟨lw_p101, List.forall_mem_cons.mpr ⟨lw_p102, List.forall_mem_cons.mpr ⟨lw_p103, List.forall_mem_cons.mpr ⟨lw_p104, List.forall_mem_cons.mpr ⟨lw_p105, List.forall_mem_cons.mpr ⟨lw_p106, List.forall_mem_cons.mpr ⟨lw_p107, List.forall_mem_cons.mpr ⟨lw_p108, List.forall_mem_cons.mpr ⟨lw_p109, List.forall_mem_cons.mpr ⟨lw_p110, List.forall_mem_cons.mpr ⟨lw_p111, fun _ h => absurd h List.not_mem_nil⟩⟩⟩⟩⟩⟩⟩⟩⟩⟩⟩⟩⟩⟩⟩⟩
theorem lw_p112 : lw_okq (⟨"PhraseDeskModel", "buildNumber", "(I)V"⟩, 60) := ⟨⟨by decide +kernel, by decide +kernel⟩, List.mem_of_getElem? (i := 1332) (by decide +kernel), List.mem_of_getElem? (i := 1806) (by decide +kernel), List.mem_of_getElem? (i := 1807) (by decide +kernel)⟩
theorem lw_p113 : lw_okq (⟨"PhraseDeskModel", "buildWord", "(IIIII)V"⟩, 60) := ⟨⟨by decide +kernel, by decide +kernel⟩, List.mem_of_getElem? (i := 1332) (by decide +kernel), List.mem_of_getElem? (i := 1810) (by decide +kernel), List.mem_of_getElem? (i := 1811) (by decide +kernel)⟩
theorem lw_p114 : lw_okq (⟨"PhraseDeskModel", "settle", "(I)V"⟩, 60) := ⟨⟨by decide +kernel, by decide +kernel⟩, List.mem_of_getElem? (i := 1332) (by decide +kernel), List.mem_of_getElem? (i := 1814) (by decide +kernel), List.mem_of_getElem? (i := 1815) (by decide +kernel)⟩
theorem lw_p115 : lw_okq (⟨"PhraseDeskModel", "toBool", "(I)V"⟩, 60) := ⟨⟨by decide +kernel, by decide +kernel⟩, List.mem_of_getElem? (i := 1332) (by decide +kernel), List.mem_of_getElem? (i := 1818) (by decide +kernel), List.mem_of_getElem? (i := 1819) (by decide +kernel)⟩
theorem lw_p116 : lw_okq (⟨"PhraseDeskModel", "spells", "(IIIIII)Z"⟩, 60) := ⟨⟨by decide +kernel, by decide +kernel⟩, List.mem_of_getElem? (i := 1332) (by decide +kernel), List.mem_of_getElem? (i := 1822) (by decide +kernel), List.mem_of_getElem? (i := 1823) (by decide +kernel)⟩
theorem lw_p117 : lw_okq (⟨"PhraseDeskModel", "whole", "(I)I"⟩, 60) := ⟨⟨by decide +kernel, by decide +kernel⟩, List.mem_of_getElem? (i := 1332) (by decide +kernel), List.mem_of_getElem? (i := 1826) (by decide +kernel), List.mem_of_getElem? (i := 1827) (by decide +kernel)⟩
theorem lw_p118 : lw_okq (⟨"PhraseDeskModel", "intOf", "(I)I"⟩, 60) := ⟨⟨by decide +kernel, by decide +kernel⟩, List.mem_of_getElem? (i := 1332) (by decide +kernel), List.mem_of_getElem? (i := 1830) (by decide +kernel), List.mem_of_getElem? (i := 1831) (by decide +kernel)⟩
theorem lw_p119 : lw_okq (⟨"PhraseDeskModel", "act", "(III)V"⟩, 60) := ⟨⟨by decide +kernel, by decide +kernel⟩, List.mem_of_getElem? (i := 1332) (by decide +kernel), List.mem_of_getElem? (i := 1834) (by decide +kernel), List.mem_of_getElem? (i := 1835) (by decide +kernel)⟩
theorem lw_p120 : lw_okq (⟨"PhraseDeskModel", "reckon", "(III)V"⟩, 60) := ⟨⟨by decide +kernel, by decide +kernel⟩, List.mem_of_getElem? (i := 1332) (by decide +kernel), List.mem_of_getElem? (i := 1838) (by decide +kernel), List.mem_of_getElem? (i := 1839) (by decide +kernel)⟩
theorem lw_p121 : lw_okq (⟨"PhraseDeskModel", "joins", "(I)Z"⟩, 60) := ⟨⟨by decide +kernel, by decide +kernel⟩, List.mem_of_getElem? (i := 1332) (by decide +kernel), List.mem_of_getElem? (i := 1842) (by decide +kernel), List.mem_of_getElem? (i := 1843) (by decide +kernel)⟩
theorem lw_p122 : lw_okq (⟨"PhraseDeskModel", "isNumber", "(I)Z"⟩, 60) := ⟨⟨by decide +kernel, by decide +kernel⟩, List.mem_of_getElem? (i := 1332) (by decide +kernel), List.mem_of_getElem? (i := 1846) (by decide +kernel), List.mem_of_getElem? (i := 1847) (by decide +kernel)⟩
theorem lw_p123 : lw_okq (⟨"PhraseDeskModel", "reals", "(III)V"⟩, 60) := ⟨⟨by decide +kernel, by decide +kernel⟩, List.mem_of_getElem? (i := 1332) (by decide +kernel), List.mem_of_getElem? (i := 1850) (by decide +kernel), List.mem_of_getElem? (i := 1851) (by decide +kernel)⟩
theorem lw_p124 : lw_okq (⟨"PhraseDeskModel", "realOf", "(I)D"⟩, 60) := ⟨⟨by decide +kernel, by decide +kernel⟩, List.mem_of_getElem? (i := 1332) (by decide +kernel), List.mem_of_getElem? (i := 1854) (by decide +kernel), List.mem_of_getElem? (i := 1855) (by decide +kernel)⟩
theorem lw_p125 : lw_okq (⟨"PhraseDeskModel", "ints", "(III)V"⟩, 60) := ⟨⟨by decide +kernel, by decide +kernel⟩, List.mem_of_getElem? (i := 1332) (by decide +kernel), List.mem_of_getElem? (i := 1860) (by decide +kernel), List.mem_of_getElem? (i := 1861) (by decide +kernel)⟩
theorem lw_p126 : lw_okq (⟨"PhraseDeskModel", "compare", "(III)V"⟩, 60) := ⟨⟨by decide +kernel, by decide +kernel⟩, List.mem_of_getElem? (i := 1332) (by decide +kernel), List.mem_of_getElem? (i := 1864) (by decide +kernel), List.mem_of_getElem? (i := 1865) (by decide +kernel)⟩
theorem lw_p127 : lw_okq (⟨"PhraseDeskModel", "alike", "(II)Z"⟩, 60) := ⟨⟨by decide +kernel, by decide +kernel⟩, List.mem_of_getElem? (i := 1332) (by decide +kernel), List.mem_of_getElem? (i := 1868) (by decide +kernel), List.mem_of_getElem? (i := 1869) (by decide +kernel)⟩
def lw_privs_8 : List (MethodName × Nat) := [(⟨"PhraseDeskModel", "buildNumber", "(I)V"⟩, 60), (⟨"PhraseDeskModel", "buildWord", "(IIIII)V"⟩, 60), (⟨"PhraseDeskModel", "settle", "(I)V"⟩, 60), (⟨"PhraseDeskModel", "toBool", "(I)V"⟩, 60), (⟨"PhraseDeskModel", "spells", "(IIIIII)Z"⟩, 60), (⟨"PhraseDeskModel", "whole", "(I)I"⟩, 60), (⟨"PhraseDeskModel", "intOf", "(I)I"⟩, 60), (⟨"PhraseDeskModel", "act", "(III)V"⟩, 60), (⟨"PhraseDeskModel", "reckon", "(III)V"⟩, 60), (⟨"PhraseDeskModel", "joins", "(I)Z"⟩, 60), (⟨"PhraseDeskModel", "isNumber", "(I)Z"⟩, 60), (⟨"PhraseDeskModel", "reals", "(III)V"⟩, 60), (⟨"PhraseDeskModel", "realOf", "(I)D"⟩, 60), (⟨"PhraseDeskModel", "ints", "(III)V"⟩, 60), (⟨"PhraseDeskModel", "compare", "(III)V"⟩, 60), (⟨"PhraseDeskModel", "alike", "(II)Z"⟩, 60)]
theorem lw_r8 : ∀ q ∈ lw_privs_8, lw_okq q := List.forall_mem_cons.mpr ⟨lw_p112, List.forall_mem_cons.mpr ⟨lw_p113, List.forall_mem_cons.mpr ⟨lw_p114, List.forall_mem_cons.mpr ⟨lw_p115, List.forall_mem_cons.mpr ⟨lw_p116, List.forall_mem_cons.mpr ⟨lw_p117, List.forall_mem_cons.mpr ⟨lw_p118, List.forall_mem_cons.mpr ⟨lw_p119, List.forall_mem_cons.mpr ⟨lw_p120, List.forall_mem_cons.mpr ⟨lw_p121, List.forall_mem_cons.mpr ⟨lw_p122, List.forall_mem_cons.mpr ⟨lw_p123, List.forall_mem_cons.mpr ⟨lw_p124, List.forall_mem_cons.mpr ⟨lw_p125, List.forall_mem_cons.mpr ⟨lw_p126, List.forall_mem_cons.mpr ⟨lw_p127, fun _ h => absurd h List.not_mem_nil⟩⟩⟩⟩⟩⟩⟩⟩⟩⟩⟩⟩⟩⟩⟩⟩
theorem lw_p128 : lw_okq (⟨"PhraseDeskModel", "unary", "(I)V"⟩, 60) := ⟨⟨by decide +kernel, by decide +kernel⟩, List.mem_of_getElem? (i := 1332) (by decide +kernel), List.mem_of_getElem? (i := 1872) (by decide +kernel), List.mem_of_getElem? (i := 1873) (by decide +kernel)⟩
theorem lw_p129 : lw_okq (⟨"PhraseDeskModel", "aim", "(I)V"⟩, 60) := ⟨⟨by decide +kernel, by decide +kernel⟩, List.mem_of_getElem? (i := 1332) (by decide +kernel), List.mem_of_getElem? (i := 1876) (by decide +kernel), List.mem_of_getElem? (i := 1877) (by decide +kernel)⟩
theorem lw_p130 : lw_okq (⟨"PhraseDeskModel", "assigns", "(II)V"⟩, 60) := ⟨⟨by decide +kernel, by decide +kernel⟩, List.mem_of_getElem? (i := 1332) (by decide +kernel), List.mem_of_getElem? (i := 1880) (by decide +kernel), List.mem_of_getElem? (i := 1881) (by decide +kernel)⟩
theorem lw_p131 : lw_okq (⟨"PhraseDeskModel", "placeFor", "(I)I"⟩, 60) := ⟨⟨by decide +kernel, by decide +kernel⟩, List.mem_of_getElem? (i := 1332) (by decide +kernel), List.mem_of_getElem? (i := 1884) (by decide +kernel), List.mem_of_getElem? (i := 1885) (by decide +kernel)⟩
theorem lw_p132 : lw_okq (⟨"PhraseDeskModel", "typeAt", "(I)I"⟩, 60) := ⟨⟨by decide +kernel, by decide +kernel⟩, List.mem_of_getElem? (i := 1332) (by decide +kernel), List.mem_of_getElem? (i := 1888) (by decide +kernel), List.mem_of_getElem? (i := 1889) (by decide +kernel)⟩
def lw_privs_9 : List (MethodName × Nat) := [(⟨"PhraseDeskModel", "unary", "(I)V"⟩, 60), (⟨"PhraseDeskModel", "aim", "(I)V"⟩, 60), (⟨"PhraseDeskModel", "assigns", "(II)V"⟩, 60), (⟨"PhraseDeskModel", "placeFor", "(I)I"⟩, 60), (⟨"PhraseDeskModel", "typeAt", "(I)I"⟩, 60)]
theorem lw_r9 : ∀ q ∈ lw_privs_9, lw_okq q := List.forall_mem_cons.mpr ⟨lw_p128, List.forall_mem_cons.mpr ⟨lw_p129, List.forall_mem_cons.mpr ⟨lw_p130, List.forall_mem_cons.mpr ⟨lw_p131, List.forall_mem_cons.mpr ⟨lw_p132, fun _ h => absurd h List.not_mem_nil⟩⟩⟩⟩⟩
def lw_privs : List (MethodName × Nat) := lw_privs_1 ++ (lw_privs_2 ++ (lw_privs_3 ++ (lw_privs_4 ++ (lw_privs_5 ++ (lw_privs_6 ++ (lw_privs_7 ++ (lw_privs_8 ++ (lw_privs_9))))))))
def lw_tbl : List Cond := k2_sels lw_privs ++ tables_1
theorem lw_privs_ok : ∀ q ∈ lw_privs, lw_okq q := by
  show ∀ q ∈ lw_privs_1 ++ (lw_privs_2 ++ (lw_privs_3 ++ (lw_privs_4 ++ (lw_privs_5 ++ (lw_privs_6 ++ (lw_privs_7 ++ (lw_privs_8 ++ (lw_privs_9)))))))), lw_okq q
  exact List.forall_mem_append.mpr ⟨lw_r1, List.forall_mem_append.mpr ⟨lw_r2, List.forall_mem_append.mpr ⟨lw_r3, List.forall_mem_append.mpr ⟨lw_r4, List.forall_mem_append.mpr ⟨lw_r5, List.forall_mem_append.mpr ⟨lw_r6, List.forall_mem_append.mpr ⟨lw_r7, List.forall_mem_append.mpr ⟨lw_r8, lw_r9⟩⟩⟩⟩⟩⟩⟩⟩
-- ===== end of PART A; then your names; then what follows =====
end
section
def RX0 : String := "PhraseDesk$Converters"
def TX0 : u_T := fun k => match k with
  | 0 => ("PhraseDesk$Converters", "there", "[Z", true)
  | _ => ("PhraseDesk$Converters", "scratch", "Ljava/lang/StringBuilder;", true)
def tyX0 : Nat → FieldType := fun k => match k with
  | 0 => .array .boolean
  | _ => .object "java/lang/StringBuilder"
abbrev wsX00 : List Cond := u_ws RX0 TX0 2
theorem nmX0 : ∀ a, a < 2 → ∀ b, b < 2 → a ≠ b → (TX0 a).2.1 ≠ (TX0 b).2.1 := by decide +kernel
theorem tyX0_ok : ∀ k, k < 2 → parseFieldDescriptor (TX0 k).2.2.1 = some (tyX0 k) := by decide +kernel
abbrev cX0_init : ByteArray := prog_2_method_1_code
def yX0_init : MethodName := ⟨RX0, "<init>", "()V"⟩
def RX1 : String := "PhraseDesk$Family"
def TX1 : u_T := fun k => match k with
  | 0 => ("PhraseDesk$Family", "number", "I", true)
  | 1 => ("PhraseDesk$Family", "kind", "I", true)
  | 2 => ("PhraseDesk$Family", "parent", "LPhraseDesk$Family;", true)
  | 3 => ("PhraseDesk$Family", "fields", "[LPhraseDesk$Field;", true)
  | 4 => ("PhraseDesk$Family", "fieldCount", "I", false)
  | 5 => ("PhraseDesk$Family", "routines", "[LPhraseDesk$Routine;", true)
  | _ => ("PhraseDesk$Family", "routineCount", "I", false)
def RX2 : String := "PhraseDesk$Field"
def TX2 : u_T := fun k => match k with
  | 0 => ("PhraseDesk$Field", "name", "I", true)
  | 1 => ("PhraseDesk$Field", "type", "I", true)
  | _ => ("PhraseDesk$Field", "slot", "I", true)
def RX3 : String := "PhraseDesk$Finder"
def TX3 : u_T := fun k => match k with
  | 0 => ("PhraseDesk$Finder", "candidates", "[LPhraseDesk$Routine;", true)
  | 1 => ("PhraseDesk$Finder", "count", "I", false)
  | _ => ("PhraseDesk$Finder", "failure", "I", false)
def tyX3 : Nat → FieldType := fun k => match k with
  | 0 => .array (.object "PhraseDesk$Routine")
  | 1 => .int
  | _ => .int
abbrev wsX30 : List Cond := u_ws RX3 TX3 3
theorem nmX3 : ∀ a, a < 3 → ∀ b, b < 3 → a ≠ b → (TX3 a).2.1 ≠ (TX3 b).2.1 := by decide +kernel
theorem tyX3_ok : ∀ k, k < 3 → parseFieldDescriptor (TX3 k).2.2.1 = some (tyX3 k) := by decide +kernel
abbrev cX3_init : ByteArray := prog_5_method_1_code
def yX3_init : MethodName := ⟨RX3, "<init>", "()V"⟩
def RX4 : String := "PhraseDesk$Lexer"
def TX4 : u_T := fun k => match k with
  | 0 => ("PhraseDesk$Lexer", "letters", "[C", true)
  | 1 => ("PhraseDesk$Lexer", "length", "I", false)
  | 2 => ("PhraseDesk$Lexer", "kinds", "[I", true)
  | 3 => ("PhraseDesk$Lexer", "places", "[I", true)
  | 4 => ("PhraseDesk$Lexer", "names", "[I", true)
  | 5 => ("PhraseDesk$Lexer", "literals", "[LPhraseDesk$Value;", true)
  | 6 => ("PhraseDesk$Lexer", "count", "I", false)
  | _ => ("PhraseDesk$Lexer", "scratch", "Ljava/lang/StringBuilder;", true)
def tyX4 : Nat → FieldType := fun k => match k with
  | 0 => .array .char
  | 1 => .int
  | 2 => .array .int
  | 3 => .array .int
  | 4 => .array .int
  | 5 => .array (.object "PhraseDesk$Value")
  | 6 => .int
  | _ => .object "java/lang/StringBuilder"
abbrev wsX40 : List Cond := u_ws RX4 TX4 8
theorem nmX4 : ∀ a, a < 8 → ∀ b, b < 8 → a ≠ b → (TX4 a).2.1 ≠ (TX4 b).2.1 := by decide +kernel
theorem tyX4_ok : ∀ k, k < 8 → parseFieldDescriptor (TX4 k).2.2.1 = some (tyX4 k) := by decide +kernel
abbrev cX4_init : ByteArray := prog_6_method_1_code
def yX4_init : MethodName := ⟨RX4, "<init>", "()V"⟩
def RX5 : String := "PhraseDesk$Node"
def TX5 : u_T := fun k => match k with
  | 0 => ("PhraseDesk$Node", "op", "I", true)
  | 1 => ("PhraseDesk$Node", "name", "I", true)
  | 2 => ("PhraseDesk$Node", "literal", "LPhraseDesk$Value;", true)
  | 3 => ("PhraseDesk$Node", "one", "LPhraseDesk$Node;", true)
  | 4 => ("PhraseDesk$Node", "two", "LPhraseDesk$Node;", true)
  | 5 => ("PhraseDesk$Node", "three", "LPhraseDesk$Node;", true)
  | 6 => ("PhraseDesk$Node", "lenient", "Z", false)
  | _ => ("PhraseDesk$Node", "bracketed", "Z", false)
def RX6 : String := "PhraseDesk$Parser"
def TX6 : u_T := fun k => match k with
  | 0 => ("PhraseDesk$Parser", "lexer", "LPhraseDesk$Lexer;", true)
  | 1 => ("PhraseDesk$Parser", "at", "I", false)
  | 2 => ("PhraseDesk$Parser", "error", "I", false)
  | _ => ("PhraseDesk$Parser", "place", "I", false)
def tyX6 : Nat → FieldType := fun k => match k with
  | 0 => .object "PhraseDesk$Lexer"
  | 1 => .int
  | 2 => .int
  | _ => .int
abbrev wsX60 : List Cond := u_ws RX6 TX6 4
theorem nmX6 : ∀ a, a < 4 → ∀ b, b < 4 → a ≠ b → (TX6 a).2.1 ≠ (TX6 b).2.1 := by decide +kernel
theorem tyX6_ok : ∀ k, k < 4 → parseFieldDescriptor (TX6 k).2.2.1 = some (tyX6 k) := by decide +kernel
abbrev cX6_init : ByteArray := prog_8_method_1_code
def yX6_init : MethodName := ⟨RX6, "<init>", "()V"⟩
def RX7 : String := "PhraseDesk$Routine"
def TX7 : u_T := fun k => match k with
  | 0 => ("PhraseDesk$Routine", "name", "I", true)
  | 1 => ("PhraseDesk$Routine", "one", "I", true)
  | 2 => ("PhraseDesk$Routine", "two", "I", true)
  | 3 => ("PhraseDesk$Routine", "parameters", "I", true)
  | 4 => ("PhraseDesk$Routine", "action", "I", true)
  | _ => ("PhraseDesk$Routine", "number", "I", true)
def RX8 : String := "PhraseDesk$Runner"
def TX8 : u_T := fun k => match k with
  | 0 => ("PhraseDesk$Runner", "nothing", "LPhraseDesk$Value;", true)
  | 1 => ("PhraseDesk$Runner", "converters", "LPhraseDesk$Converters;", true)
  | 2 => ("PhraseDesk$Runner", "finder", "LPhraseDesk$Finder;", true)
  | 3 => ("PhraseDesk$Runner", "variableNames", "[I", true)
  | 4 => ("PhraseDesk$Runner", "variableValues", "[LPhraseDesk$Value;", true)
  | 5 => ("PhraseDesk$Runner", "variableCount", "I", false)
  | 6 => ("PhraseDesk$Runner", "root", "LPhraseDesk$Value;", false)
  | _ => ("PhraseDesk$Runner", "failure", "I", false)
def tyX8 : Nat → FieldType := fun k => match k with
  | 0 => .object "PhraseDesk$Value"
  | 1 => .object "PhraseDesk$Converters"
  | 2 => .object "PhraseDesk$Finder"
  | 3 => .array .int
  | 4 => .array (.object "PhraseDesk$Value")
  | 5 => .int
  | 6 => .object "PhraseDesk$Value"
  | _ => .int
abbrev wsX80 : List Cond := u_ws RX8 TX8 8
theorem nmX8 : ∀ a, a < 8 → ∀ b, b < 8 → a ≠ b → (TX8 a).2.1 ≠ (TX8 b).2.1 := by decide +kernel
theorem tyX8_ok : ∀ k, k < 8 → parseFieldDescriptor (TX8 k).2.2.1 = some (tyX8 k) := by decide +kernel
abbrev cX8_init : ByteArray := prog_10_method_1_code
def yX8_init : MethodName := ⟨RX8, "<init>", "()V"⟩
def RX9 : String := "PhraseDesk$Thing"
def TX9 : u_T := fun k => match k with
  | 0 => ("PhraseDesk$Thing", "number", "I", true)
  | 1 => ("PhraseDesk$Thing", "family", "LPhraseDesk$Family;", true)
  | _ => ("PhraseDesk$Thing", "values", "[LPhraseDesk$Value;", true)
def RX10 : String := "PhraseDesk$Value"
def TX10 : u_T := fun k => match k with
  | 0 => ("PhraseDesk$Value", "kind", "I", true)
  | 1 => ("PhraseDesk$Value", "number", "I", true)
  | 2 => ("PhraseDesk$Value", "real", "D", true)
  | 3 => ("PhraseDesk$Value", "chars", "Ljava/lang/String;", true)
  | _ => ("PhraseDesk$Value", "thing", "LPhraseDesk$Thing;", true)
def tyX10 : Nat → FieldType := fun k => match k with
  | 0 => .int
  | 1 => .int
  | 2 => .double
  | 3 => .object "java/lang/String"
  | _ => .object "PhraseDesk$Thing"
abbrev wsX100 : List Cond := u_ws RX10 TX10 5
theorem nmX10 : ∀ a, a < 5 → ∀ b, b < 5 → a ≠ b → (TX10 a).2.1 ≠ (TX10 b).2.1 := by decide +kernel
theorem tyX10_ok : ∀ k, k < 5 → parseFieldDescriptor (TX10 k).2.2.1 = some (tyX10 k) := by decide +kernel
abbrev cX10_init : ByteArray := prog_12_method_1_code
def yX10_init : MethodName := ⟨RX10, "<init>", "(IIDLjava/lang/String;LPhraseDesk$Thing;)V"⟩
abbrev cX10_ofNull : ByteArray := prog_12_method_2_code
def yX10_ofNull : MethodName := ⟨RX10, "ofNull", "()LPhraseDesk$Value;"⟩
def RX11 : String := "PhraseDesk"
def TX11 : u_T := fun k => match k with
  | 0 => ("PhraseDesk", "parser", "LPhraseDesk$Parser;", true)
  | 1 => ("PhraseDesk", "runner", "LPhraseDesk$Runner;", true)
  | 2 => ("PhraseDesk", "programs", "[LPhraseDesk$Node;", true)
  | 3 => ("PhraseDesk", "programCount", "I", false)
  | 4 => ("PhraseDesk", "families", "[LPhraseDesk$Family;", true)
  | 5 => ("PhraseDesk", "familyCount", "I", false)
  | 6 => ("PhraseDesk", "objects", "[LPhraseDesk$Value;", true)
  | 7 => ("PhraseDesk", "objectCount", "I", false)
  | _ => ("PhraseDesk", "latest", "LPhraseDesk$Value;", false)
def tyX11 : Nat → FieldType := fun k => match k with
  | 0 => .object "PhraseDesk$Parser"
  | 1 => .object "PhraseDesk$Runner"
  | 2 => .array (.object "PhraseDesk$Node")
  | 3 => .int
  | 4 => .array (.object "PhraseDesk$Family")
  | 5 => .int
  | 6 => .array (.object "PhraseDesk$Value")
  | 7 => .int
  | _ => .object "PhraseDesk$Value"
abbrev wsX110 : List Cond := u_ws RX11 TX11 9
theorem nmX11 : ∀ a, a < 9 → ∀ b, b < 9 → a ≠ b → (TX11 a).2.1 ≠ (TX11 b).2.1 := by decide +kernel
theorem tyX11_ok : ∀ k, k < 9 → parseFieldDescriptor (TX11 k).2.2.1 = some (tyX11 k) := by decide +kernel
abbrev cX11_init : ByteArray := prog_1_method_1_code
def yX11_init : MethodName := ⟨RX11, "<init>", "()V"⟩
def RX12 : String := "PhraseDeskModel"
def TX12 : u_T := fun k => match k with
  | 0 => ("PhraseDeskModel", "threw", "I", false)
  | 1 => ("PhraseDeskModel", "size", "I", false)
  | 2 => ("PhraseDeskModel", "letters", "[I", true)
  | 3 => ("PhraseDeskModel", "tokens", "I", false)
  | 4 => ("PhraseDeskModel", "tokenKind", "[I", true)
  | 5 => ("PhraseDeskModel", "tokenAt", "[I", true)
  | 6 => ("PhraseDeskModel", "token", "[J", true)
  | 7 => ("PhraseDeskModel", "scale", "[I", true)
  | 8 => ("PhraseDeskModel", "error", "I", false)
  | 9 => ("PhraseDeskModel", "where", "I", false)
  | 10 => ("PhraseDeskModel", "programs", "I", false)
  | 11 => ("PhraseDeskModel", "step", "[I", true)
  | 12 => ("PhraseDeskModel", "with", "[J", true)
  | 13 => ("PhraseDeskModel", "lengths", "[I", true)
  | 14 => ("PhraseDeskModel", "next", "I", false)
  | 15 => ("PhraseDeskModel", "start", "I", false)
  | 16 => ("PhraseDeskModel", "written", "I", false)
  | 17 => ("PhraseDeskModel", "operand", "Z", false)
  | 18 => ("PhraseDeskModel", "done", "Z", false)
  | 19 => ("PhraseDeskModel", "frames", "I", false)
  | 20 => ("PhraseDeskModel", "frame", "[I", true)
  | 21 => ("PhraseDeskModel", "base", "[I", true)
  | 22 => ("PhraseDeskModel", "sign", "[I", true)
  | 23 => ("PhraseDeskModel", "patch", "[I", true)
  | 24 => ("PhraseDeskModel", "callName", "[I", true)
  | 25 => ("PhraseDeskModel", "callCount", "[I", true)
  | 26 => ("PhraseDeskModel", "closed", "[Z", true)
  | 27 => ("PhraseDeskModel", "plain", "[Z", true)
  | 28 => ("PhraseDeskModel", "aims", "[Z", true)
  | 29 => ("PhraseDeskModel", "waiting", "I", false)
  | 30 => ("PhraseDeskModel", "operation", "[I", true)
  | 31 => ("PhraseDeskModel", "level", "[I", true)
  | 32 => ("PhraseDeskModel", "jump", "[I", true)
  | 33 => ("PhraseDeskModel", "target", "I", false)
  | 34 => ("PhraseDeskModel", "targetStep", "I", false)
  | 35 => ("PhraseDeskModel", "classes", "I", false)
  | 36 => ("PhraseDeskModel", "parent", "[I", true)
  | 37 => ("PhraseDeskModel", "fields", "[I", true)
  | 38 => ("PhraseDeskModel", "fieldName", "[I", true)
  | 39 => ("PhraseDeskModel", "fieldType", "[I", true)
  | 40 => ("PhraseDeskModel", "methods", "[I", true)
  | 41 => ("PhraseDeskModel", "methodName", "[I", true)
  | 42 => ("PhraseDeskModel", "one", "[I", true)
  | 43 => ("PhraseDeskModel", "two", "[I", true)
  | 44 => ("PhraseDeskModel", "action", "[I", true)
  | 45 => ("PhraseDeskModel", "methodNumber", "[I", true)
  | 46 => ("PhraseDeskModel", "converts", "[Z", true)
  | 47 => ("PhraseDeskModel", "objects", "I", false)
  | 48 => ("PhraseDeskModel", "classOf", "[I", true)
  | 49 => ("PhraseDeskModel", "variables", "I", false)
  | 50 => ("PhraseDeskModel", "variable", "[I", true)
  | 51 => ("PhraseDeskModel", "kind", "[I", true)
  | 52 => ("PhraseDeskModel", "a", "[J", true)
  | 53 => ("PhraseDeskModel", "b", "[J", true)
  | 54 => ("PhraseDeskModel", "real", "[D", true)
  | 55 => ("PhraseDeskModel", "top", "I", false)
  | 56 => ("PhraseDeskModel", "failure", "I", false)
  | 57 => ("PhraseDeskModel", "root", "I", false)
  | 58 => ("PhraseDeskModel", "built", "[I", true)
  | _ => ("PhraseDeskModel", "builtSize", "I", false)
def tyX12 : Nat → FieldType := fun k => match k with
  | 0 => .int
  | 1 => .int
  | 2 => .array .int
  | 3 => .int
  | 4 => .array .int
  | 5 => .array .int
  | 6 => .array .long
  | 7 => .array .int
  | 8 => .int
  | 9 => .int
  | 10 => .int
  | 11 => .array .int
  | 12 => .array .long
  | 13 => .array .int
  | 14 => .int
  | 15 => .int
  | 16 => .int
  | 17 => .boolean
  | 18 => .boolean
  | 19 => .int
  | 20 => .array .int
  | 21 => .array .int
  | 22 => .array .int
  | 23 => .array .int
  | 24 => .array .int
  | 25 => .array .int
  | 26 => .array .boolean
  | 27 => .array .boolean
  | 28 => .array .boolean
  | 29 => .int
  | 30 => .array .int
  | 31 => .array .int
  | 32 => .array .int
  | 33 => .int
  | 34 => .int
  | 35 => .int
  | 36 => .array .int
  | 37 => .array .int
  | 38 => .array .int
  | 39 => .array .int
  | 40 => .array .int
  | 41 => .array .int
  | 42 => .array .int
  | 43 => .array .int
  | 44 => .array .int
  | 45 => .array .int
  | 46 => .array .boolean
  | 47 => .int
  | 48 => .array .int
  | 49 => .int
  | 50 => .array .int
  | 51 => .array .int
  | 52 => .array .long
  | 53 => .array .long
  | 54 => .array .double
  | 55 => .int
  | 56 => .int
  | 57 => .int
  | 58 => .array .int
  | _ => .int
abbrev wsX120 : List Cond := u_ws RX12 TX12 60
theorem nmX12 : ∀ a, a < 60 → ∀ b, b < 60 → a ≠ b → (TX12 a).2.1 ≠ (TX12 b).2.1 := by decide +kernel
theorem tyX12_ok : ∀ k, k < 60 → parseFieldDescriptor (TX12 k).2.2.1 = some (tyX12 k) := by decide +kernel
abbrev cX12_init : ByteArray := prog_14_method_1_code
def yX12_init : MethodName := ⟨RX12, "<init>", "()V"⟩
def RJ5 : String := "java/lang/AbstractStringBuilder"
abbrev cJ5_init_d00df : ByteArray := prog_15_method_2_code
def yJ5_init_d00df : MethodName := ⟨RJ5, "<init>", "(I)V"⟩
def RJ0 : String := "java/lang/String"
def TJ0 : u_T := fun k => match k with
  | 0 => ("java/lang/String", "value", "[B", true)
  | 1 => ("java/lang/String", "coder", "B", true)
  | 2 => ("java/lang/String", "hash", "I", false)
  | _ => ("java/lang/String", "hashIsZero", "Z", false)
def RJ4 : String := "java/lang/StringBuilder"
def TJ4 : u_T := fun k => match k with
  | 0 => ("java/lang/AbstractStringBuilder", "value", "[B", false)
  | 1 => ("java/lang/AbstractStringBuilder", "coder", "B", false)
  | 2 => ("java/lang/AbstractStringBuilder", "maybeLatin1", "Z", false)
  | _ => ("java/lang/AbstractStringBuilder", "count", "I", false)
def tyJ4 : Nat → FieldType := fun k => match k with
  | 0 => .array .byte
  | 1 => .byte
  | 2 => .boolean
  | _ => .int
abbrev wsJ40 : List Cond := u_ws RJ4 TJ4 4
theorem nmJ4 : ∀ a, a < 4 → ∀ b, b < 4 → a ≠ b → (TJ4 a).2.1 ≠ (TJ4 b).2.1 := by decide +kernel
theorem tyJ4_ok : ∀ k, k < 4 → parseFieldDescriptor (TJ4 k).2.2.1 = some (tyJ4 k) := by decide +kernel
abbrev cJ4_init_da8c8 : ByteArray := prog_24_method_1_code
def yJ4_init_da8c8 : MethodName := ⟨RJ4, "<init>", "()V"⟩
def RJ2 : String := "java/lang/StringUTF16"
abbrev cJ2_newBytesFor_77867 : ByteArray := prog_26_method_2_code
def yJ2_newBytesFor_77867 : MethodName := ⟨RJ2, "newBytesFor", "(I)[B"⟩
abbrev cJ2_newBytesLength_0f7a4 : ByteArray := prog_26_method_3_code
def yJ2_newBytesLength_0f7a4 : MethodName := ⟨RJ2, "newBytesLength", "(I)I"⟩
def wsJ5_init_d00df : List Cond := .code yJ5_init_d00df cJ5_init_d00df 2 none :: ([.methodLink RJ5 3 objectInit, .instanceMethod objectInit, .code objectInit ⟨#[0xb1]⟩ 1 none, .fieldLink RJ5 18 "java/lang/String" "COMPACT_STRINGS" "Z", .arrayClass .byte, .fieldLink RJ5 15 "java/lang/AbstractStringBuilder" "value" "[B", .fieldLink RJ5 22 "java/lang/AbstractStringBuilder" "coder" "B", .methodLink RJ5 26 yJ2_newBytesFor_77867, .static yJ2_newBytesFor_77867, .initialized RJ2, .code yJ2_newBytesFor_77867 cJ2_newBytesFor_77867 1 (some (.array .byte)), .methodLink RJ2 11 yJ2_newBytesLength_0f7a4, .static yJ2_newBytesLength_0f7a4, .code yJ2_newBytesLength_0f7a4 cJ2_newBytesLength_0f7a4 1 (some .int), .constant RJ2 20 (1073741823)] ++ wsJ40)
def wsJ4_init_da8c8 : List Cond := .code yJ4_init_da8c8 cJ4_init_da8c8 1 none :: ([.methodLink RJ4 1 yJ5_init_d00df, .instanceMethod yJ5_init_d00df, .initialized RJ5, .code yJ5_init_d00df cJ5_init_d00df 2 none, .methodLink RJ5 3 objectInit, .instanceMethod objectInit, .code objectInit ⟨#[0xb1]⟩ 1 none, .fieldLink RJ5 18 "java/lang/String" "COMPACT_STRINGS" "Z", .arrayClass .byte, .fieldLink RJ5 15 "java/lang/AbstractStringBuilder" "value" "[B", .fieldLink RJ5 22 "java/lang/AbstractStringBuilder" "coder" "B", .methodLink RJ5 26 yJ2_newBytesFor_77867, .static yJ2_newBytesFor_77867, .initialized RJ2, .code yJ2_newBytesFor_77867 cJ2_newBytesFor_77867 1 (some (.array .byte)), .methodLink RJ2 11 yJ2_newBytesLength_0f7a4, .static yJ2_newBytesLength_0f7a4, .code yJ2_newBytesLength_0f7a4 cJ2_newBytesLength_0f7a4 1 (some .int), .constant RJ2 20 (1073741823)] ++ wsJ40)
def wsX0_init_r1 : List Cond := [Cond.methodLink RX0 3 objectInit, Cond.instanceMethod objectInit, Cond.code objectInit ⟨#[0xb1]⟩ 1 none, Cond.arrayClass .boolean, Cond.fieldLink RX0 11 "PhraseDesk$Converters" "there" "[Z", Cond.classLink RX0 15 RJ4, Cond.instantiable RJ4 4, Cond.initialized RJ4, Cond.fieldLink RX0 18 "PhraseDesk$Converters" "scratch" "Ljava/lang/StringBuilder;", Cond.methodLink RX0 17 yJ4_init_da8c8, Cond.instanceMethod yJ4_init_da8c8, Cond.code yJ4_init_da8c8 cJ4_init_da8c8 1 none, Cond.methodLink RJ4 1 yJ5_init_d00df, Cond.instanceMethod yJ5_init_d00df, Cond.initialized RJ5, Cond.code yJ5_init_d00df cJ5_init_d00df 2 none, Cond.methodLink RJ5 3 objectInit, Cond.fieldLink RJ5 18 "java/lang/String" "COMPACT_STRINGS" "Z", Cond.arrayClass .byte, Cond.fieldLink RJ5 15 "java/lang/AbstractStringBuilder" "value" "[B", Cond.fieldLink RJ5 22 "java/lang/AbstractStringBuilder" "coder" "B", Cond.methodLink RJ5 26 yJ2_newBytesFor_77867, Cond.static yJ2_newBytesFor_77867, Cond.initialized RJ2]
def wsX0_init_r2 : List Cond := [Cond.code yJ2_newBytesFor_77867 cJ2_newBytesFor_77867 1 (some (.array .byte)), Cond.methodLink RJ2 11 yJ2_newBytesLength_0f7a4, Cond.static yJ2_newBytesLength_0f7a4, Cond.code yJ2_newBytesLength_0f7a4 cJ2_newBytesLength_0f7a4 1 (some .int), Cond.constant RJ2 20 (1073741823)]
def wsX0_init : List Cond := .code yX0_init cX0_init 1 none :: ((wsX0_init_r1 ++ wsX0_init_r2) ++ wsX00 ++ wsJ40)
def wsX10_init : List Cond := .code yX10_init cX10_init 7 none :: ([.methodLink RX10 3 objectInit, .instanceMethod objectInit, .code objectInit ⟨#[0xb1]⟩ 1 none, .fieldLink RX10 9 "PhraseDesk$Value" "kind" "I", .fieldLink RX10 15 "PhraseDesk$Value" "number" "I", .fieldLink RX10 18 "PhraseDesk$Value" "real" "D", .fieldLink RX10 22 "PhraseDesk$Value" "chars" "Ljava/lang/String;", .fieldLink RX10 26 "PhraseDesk$Value" "thing" "LPhraseDesk$Thing;"] ++ wsX100)
def wsX3_init : List Cond := .code yX3_init cX3_init 1 none :: ([.methodLink RX3 3 objectInit, .instanceMethod objectInit, .code objectInit ⟨#[0xb1]⟩ 1 none, .classLink RX3 9 RX7, .fieldLink RX3 11 "PhraseDesk$Finder" "candidates" "[LPhraseDesk$Routine;"] ++ wsX30)
def wsX4_init_r1 : List Cond := [Cond.methodLink RX4 3 objectInit, Cond.instanceMethod objectInit, Cond.code objectInit ⟨#[0xb1]⟩ 1 none, Cond.arrayClass .char, Cond.fieldLink RX4 9 "PhraseDesk$Lexer" "letters" "[C", Cond.arrayClass .int, Cond.fieldLink RX4 15 "PhraseDesk$Lexer" "kinds" "[I", Cond.fieldLink RX4 19 "PhraseDesk$Lexer" "places" "[I", Cond.fieldLink RX4 22 "PhraseDesk$Lexer" "names" "[I", Cond.classLink RX4 25 RX10, Cond.fieldLink RX4 27 "PhraseDesk$Lexer" "literals" "[LPhraseDesk$Value;", Cond.classLink RX4 31 RJ4, Cond.instantiable RJ4 4, Cond.initialized RJ4, Cond.fieldLink RX4 34 "PhraseDesk$Lexer" "scratch" "Ljava/lang/StringBuilder;", Cond.methodLink RX4 33 yJ4_init_da8c8, Cond.instanceMethod yJ4_init_da8c8, Cond.code yJ4_init_da8c8 cJ4_init_da8c8 1 none, Cond.methodLink RJ4 1 yJ5_init_d00df, Cond.instanceMethod yJ5_init_d00df, Cond.initialized RJ5, Cond.code yJ5_init_d00df cJ5_init_d00df 2 none, Cond.methodLink RJ5 3 objectInit, Cond.fieldLink RJ5 18 "java/lang/String" "COMPACT_STRINGS" "Z"]
def wsX4_init_r2 : List Cond := [Cond.arrayClass .byte, Cond.fieldLink RJ5 15 "java/lang/AbstractStringBuilder" "value" "[B", Cond.fieldLink RJ5 22 "java/lang/AbstractStringBuilder" "coder" "B", Cond.methodLink RJ5 26 yJ2_newBytesFor_77867, Cond.static yJ2_newBytesFor_77867, Cond.initialized RJ2, Cond.code yJ2_newBytesFor_77867 cJ2_newBytesFor_77867 1 (some (.array .byte)), Cond.methodLink RJ2 11 yJ2_newBytesLength_0f7a4, Cond.static yJ2_newBytesLength_0f7a4, Cond.code yJ2_newBytesLength_0f7a4 cJ2_newBytesLength_0f7a4 1 (some .int), Cond.constant RJ2 20 (1073741823)]
def wsX4_init : List Cond := .code yX4_init cX4_init 1 none :: ((wsX4_init_r1 ++ wsX4_init_r2) ++ wsX40 ++ wsJ40)
def wsX6_init_r1 : List Cond := [Cond.methodLink RX6 3 objectInit, Cond.instanceMethod objectInit, Cond.code objectInit ⟨#[0xb1]⟩ 1 none, Cond.classLink RX6 9 RX4, Cond.instantiable RX4 8, Cond.initialized RX4, Cond.fieldLink RX6 12 "PhraseDesk$Parser" "lexer" "LPhraseDesk$Lexer;", Cond.methodLink RX6 11 yX4_init, Cond.instanceMethod yX4_init, Cond.code yX4_init cX4_init 1 none, Cond.methodLink RX4 3 objectInit, Cond.arrayClass .char, Cond.fieldLink RX4 9 "PhraseDesk$Lexer" "letters" "[C", Cond.arrayClass .int, Cond.fieldLink RX4 15 "PhraseDesk$Lexer" "kinds" "[I", Cond.fieldLink RX4 19 "PhraseDesk$Lexer" "places" "[I", Cond.fieldLink RX4 22 "PhraseDesk$Lexer" "names" "[I", Cond.classLink RX4 25 RX10, Cond.fieldLink RX4 27 "PhraseDesk$Lexer" "literals" "[LPhraseDesk$Value;", Cond.classLink RX4 31 RJ4, Cond.instantiable RJ4 4, Cond.initialized RJ4, Cond.fieldLink RX4 34 "PhraseDesk$Lexer" "scratch" "Ljava/lang/StringBuilder;", Cond.methodLink RX4 33 yJ4_init_da8c8]
def wsX6_init_r2 : List Cond := [Cond.instanceMethod yJ4_init_da8c8, Cond.code yJ4_init_da8c8 cJ4_init_da8c8 1 none, Cond.methodLink RJ4 1 yJ5_init_d00df, Cond.instanceMethod yJ5_init_d00df, Cond.initialized RJ5, Cond.code yJ5_init_d00df cJ5_init_d00df 2 none, Cond.methodLink RJ5 3 objectInit, Cond.fieldLink RJ5 18 "java/lang/String" "COMPACT_STRINGS" "Z", Cond.arrayClass .byte, Cond.fieldLink RJ5 15 "java/lang/AbstractStringBuilder" "value" "[B", Cond.fieldLink RJ5 22 "java/lang/AbstractStringBuilder" "coder" "B", Cond.methodLink RJ5 26 yJ2_newBytesFor_77867, Cond.static yJ2_newBytesFor_77867, Cond.initialized RJ2, Cond.code yJ2_newBytesFor_77867 cJ2_newBytesFor_77867 1 (some (.array .byte)), Cond.methodLink RJ2 11 yJ2_newBytesLength_0f7a4, Cond.static yJ2_newBytesLength_0f7a4, Cond.code yJ2_newBytesLength_0f7a4 cJ2_newBytesLength_0f7a4 1 (some .int), Cond.constant RJ2 20 (1073741823)]
def wsX6_init : List Cond := .code yX6_init cX6_init 1 none :: ((wsX6_init_r1 ++ wsX6_init_r2) ++ wsX40 ++ wsX60 ++ wsJ40)
def wsX10_ofNull : List Cond := .code yX10_ofNull cX10_ofNull 0 (some (.object "PhraseDesk$Value")) :: ([.classLink RX10 10 RX10, .instantiable RX10 5, .initialized RX10, .methodLink RX10 32 yX10_init, .instanceMethod yX10_init, .code yX10_init cX10_init 7 none, .methodLink RX10 3 objectInit, .instanceMethod objectInit, .code objectInit ⟨#[0xb1]⟩ 1 none, .fieldLink RX10 9 "PhraseDesk$Value" "kind" "I", .fieldLink RX10 15 "PhraseDesk$Value" "number" "I", .fieldLink RX10 18 "PhraseDesk$Value" "real" "D", .fieldLink RX10 22 "PhraseDesk$Value" "chars" "Ljava/lang/String;", .fieldLink RX10 26 "PhraseDesk$Value" "thing" "LPhraseDesk$Thing;"] ++ wsX100)
def wsX8_init_r1 : List Cond := [Cond.methodLink RX8 3 objectInit, Cond.instanceMethod objectInit, Cond.code objectInit ⟨#[0xb1]⟩ 1 none, Cond.fieldLink RX8 15 "PhraseDesk$Runner" "nothing" "LPhraseDesk$Value;", Cond.classLink RX8 21 RX0, Cond.instantiable RX0 2, Cond.initialized RX0, Cond.fieldLink RX8 24 "PhraseDesk$Runner" "converters" "LPhraseDesk$Converters;", Cond.classLink RX8 28 RX3, Cond.instantiable RX3 3, Cond.initialized RX3, Cond.fieldLink RX8 31 "PhraseDesk$Runner" "finder" "LPhraseDesk$Finder;", Cond.arrayClass .int, Cond.fieldLink RX8 35 "PhraseDesk$Runner" "variableNames" "[I", Cond.classLink RX8 10 RX10, Cond.fieldLink RX8 39 "PhraseDesk$Runner" "variableValues" "[LPhraseDesk$Value;", Cond.fieldLink RX8 43 "PhraseDesk$Runner" "root" "LPhraseDesk$Value;", Cond.methodLink RX8 9 yX10_ofNull, Cond.static yX10_ofNull, Cond.initialized RX10, Cond.code yX10_ofNull cX10_ofNull 0 (some (.object "PhraseDesk$Value")), Cond.classLink RX10 10 RX10, Cond.instantiable RX10 5, Cond.methodLink RX10 32 yX10_init]
def wsX8_init_r2 : List Cond := [Cond.instanceMethod yX10_init, Cond.code yX10_init cX10_init 7 none, Cond.methodLink RX10 3 objectInit, Cond.fieldLink RX10 9 "PhraseDesk$Value" "kind" "I", Cond.fieldLink RX10 15 "PhraseDesk$Value" "number" "I", Cond.fieldLink RX10 18 "PhraseDesk$Value" "real" "D", Cond.fieldLink RX10 22 "PhraseDesk$Value" "chars" "Ljava/lang/String;", Cond.fieldLink RX10 26 "PhraseDesk$Value" "thing" "LPhraseDesk$Thing;", Cond.methodLink RX8 23 yX0_init, Cond.instanceMethod yX0_init, Cond.code yX0_init cX0_init 1 none, Cond.methodLink RX0 3 objectInit, Cond.arrayClass .boolean, Cond.fieldLink RX0 11 "PhraseDesk$Converters" "there" "[Z", Cond.classLink RX0 15 RJ4, Cond.instantiable RJ4 4, Cond.initialized RJ4, Cond.fieldLink RX0 18 "PhraseDesk$Converters" "scratch" "Ljava/lang/StringBuilder;", Cond.methodLink RX0 17 yJ4_init_da8c8, Cond.instanceMethod yJ4_init_da8c8, Cond.code yJ4_init_da8c8 cJ4_init_da8c8 1 none, Cond.methodLink RJ4 1 yJ5_init_d00df, Cond.instanceMethod yJ5_init_d00df, Cond.initialized RJ5]
def wsX8_init_r3 : List Cond := [Cond.code yJ5_init_d00df cJ5_init_d00df 2 none, Cond.methodLink RJ5 3 objectInit, Cond.fieldLink RJ5 18 "java/lang/String" "COMPACT_STRINGS" "Z", Cond.arrayClass .byte, Cond.fieldLink RJ5 15 "java/lang/AbstractStringBuilder" "value" "[B", Cond.fieldLink RJ5 22 "java/lang/AbstractStringBuilder" "coder" "B", Cond.methodLink RJ5 26 yJ2_newBytesFor_77867, Cond.static yJ2_newBytesFor_77867, Cond.initialized RJ2, Cond.code yJ2_newBytesFor_77867 cJ2_newBytesFor_77867 1 (some (.array .byte)), Cond.methodLink RJ2 11 yJ2_newBytesLength_0f7a4, Cond.static yJ2_newBytesLength_0f7a4, Cond.code yJ2_newBytesLength_0f7a4 cJ2_newBytesLength_0f7a4 1 (some .int), Cond.constant RJ2 20 (1073741823), Cond.methodLink RX8 30 yX3_init, Cond.instanceMethod yX3_init, Cond.code yX3_init cX3_init 1 none, Cond.methodLink RX3 3 objectInit, Cond.classLink RX3 9 RX7, Cond.fieldLink RX3 11 "PhraseDesk$Finder" "candidates" "[LPhraseDesk$Routine;"]
def wsX8_init : List Cond := .code yX8_init cX8_init 1 none :: ((wsX8_init_r1 ++ (wsX8_init_r2 ++ wsX8_init_r3)) ++ wsX80 ++ wsX00 ++ wsX30 ++ wsX100 ++ wsJ40)
def wsX11_init_r1 : List Cond := [Cond.methodLink RX11 1 objectInit, Cond.instanceMethod objectInit, Cond.code objectInit ⟨#[0xb1]⟩ 1 none, Cond.classLink RX11 7 RX6, Cond.instantiable RX6 4, Cond.initialized RX6, Cond.fieldLink RX11 10 "PhraseDesk" "parser" "LPhraseDesk$Parser;", Cond.classLink RX11 16 RX8, Cond.instantiable RX8 8, Cond.initialized RX8, Cond.fieldLink RX11 19 "PhraseDesk" "runner" "LPhraseDesk$Runner;", Cond.classLink RX11 23 RX5, Cond.fieldLink RX11 25 "PhraseDesk" "programs" "[LPhraseDesk$Node;", Cond.classLink RX11 29 RX1, Cond.fieldLink RX11 31 "PhraseDesk" "families" "[LPhraseDesk$Family;", Cond.classLink RX11 35 RX10, Cond.fieldLink RX11 37 "PhraseDesk" "objects" "[LPhraseDesk$Value;", Cond.fieldLink RX11 45 "PhraseDesk" "latest" "LPhraseDesk$Value;", Cond.methodLink RX11 9 yX6_init, Cond.instanceMethod yX6_init, Cond.code yX6_init cX6_init 1 none, Cond.methodLink RX6 3 objectInit, Cond.classLink RX6 9 RX4, Cond.instantiable RX4 8]
def wsX11_init_r2 : List Cond := [Cond.initialized RX4, Cond.fieldLink RX6 12 "PhraseDesk$Parser" "lexer" "LPhraseDesk$Lexer;", Cond.methodLink RX6 11 yX4_init, Cond.instanceMethod yX4_init, Cond.code yX4_init cX4_init 1 none, Cond.methodLink RX4 3 objectInit, Cond.arrayClass .char, Cond.fieldLink RX4 9 "PhraseDesk$Lexer" "letters" "[C", Cond.arrayClass .int, Cond.fieldLink RX4 15 "PhraseDesk$Lexer" "kinds" "[I", Cond.fieldLink RX4 19 "PhraseDesk$Lexer" "places" "[I", Cond.fieldLink RX4 22 "PhraseDesk$Lexer" "names" "[I", Cond.classLink RX4 25 RX10, Cond.fieldLink RX4 27 "PhraseDesk$Lexer" "literals" "[LPhraseDesk$Value;", Cond.classLink RX4 31 RJ4, Cond.instantiable RJ4 4, Cond.initialized RJ4, Cond.fieldLink RX4 34 "PhraseDesk$Lexer" "scratch" "Ljava/lang/StringBuilder;", Cond.methodLink RX4 33 yJ4_init_da8c8, Cond.instanceMethod yJ4_init_da8c8, Cond.code yJ4_init_da8c8 cJ4_init_da8c8 1 none, Cond.methodLink RJ4 1 yJ5_init_d00df, Cond.instanceMethod yJ5_init_d00df, Cond.initialized RJ5]
def wsX11_init_r3 : List Cond := [Cond.code yJ5_init_d00df cJ5_init_d00df 2 none, Cond.methodLink RJ5 3 objectInit, Cond.fieldLink RJ5 18 "java/lang/String" "COMPACT_STRINGS" "Z", Cond.arrayClass .byte, Cond.fieldLink RJ5 15 "java/lang/AbstractStringBuilder" "value" "[B", Cond.fieldLink RJ5 22 "java/lang/AbstractStringBuilder" "coder" "B", Cond.methodLink RJ5 26 yJ2_newBytesFor_77867, Cond.static yJ2_newBytesFor_77867, Cond.initialized RJ2, Cond.code yJ2_newBytesFor_77867 cJ2_newBytesFor_77867 1 (some (.array .byte)), Cond.methodLink RJ2 11 yJ2_newBytesLength_0f7a4, Cond.static yJ2_newBytesLength_0f7a4, Cond.code yJ2_newBytesLength_0f7a4 cJ2_newBytesLength_0f7a4 1 (some .int), Cond.constant RJ2 20 (1073741823), Cond.methodLink RX11 18 yX8_init, Cond.instanceMethod yX8_init, Cond.code yX8_init cX8_init 1 none, Cond.methodLink RX8 3 objectInit, Cond.fieldLink RX8 15 "PhraseDesk$Runner" "nothing" "LPhraseDesk$Value;", Cond.classLink RX8 21 RX0, Cond.instantiable RX0 2, Cond.initialized RX0, Cond.fieldLink RX8 24 "PhraseDesk$Runner" "converters" "LPhraseDesk$Converters;", Cond.classLink RX8 28 RX3]
def wsX11_init_r4 : List Cond := [Cond.instantiable RX3 3, Cond.initialized RX3, Cond.fieldLink RX8 31 "PhraseDesk$Runner" "finder" "LPhraseDesk$Finder;", Cond.fieldLink RX8 35 "PhraseDesk$Runner" "variableNames" "[I", Cond.classLink RX8 10 RX10, Cond.fieldLink RX8 39 "PhraseDesk$Runner" "variableValues" "[LPhraseDesk$Value;", Cond.fieldLink RX8 43 "PhraseDesk$Runner" "root" "LPhraseDesk$Value;", Cond.methodLink RX8 9 yX10_ofNull, Cond.static yX10_ofNull, Cond.initialized RX10, Cond.code yX10_ofNull cX10_ofNull 0 (some (.object "PhraseDesk$Value")), Cond.classLink RX10 10 RX10, Cond.instantiable RX10 5, Cond.methodLink RX10 32 yX10_init, Cond.instanceMethod yX10_init, Cond.code yX10_init cX10_init 7 none, Cond.methodLink RX10 3 objectInit, Cond.fieldLink RX10 9 "PhraseDesk$Value" "kind" "I", Cond.fieldLink RX10 15 "PhraseDesk$Value" "number" "I", Cond.fieldLink RX10 18 "PhraseDesk$Value" "real" "D", Cond.fieldLink RX10 22 "PhraseDesk$Value" "chars" "Ljava/lang/String;", Cond.fieldLink RX10 26 "PhraseDesk$Value" "thing" "LPhraseDesk$Thing;", Cond.methodLink RX8 23 yX0_init, Cond.instanceMethod yX0_init]
def wsX11_init_r5 : List Cond := [Cond.code yX0_init cX0_init 1 none, Cond.methodLink RX0 3 objectInit, Cond.arrayClass .boolean, Cond.fieldLink RX0 11 "PhraseDesk$Converters" "there" "[Z", Cond.classLink RX0 15 RJ4, Cond.fieldLink RX0 18 "PhraseDesk$Converters" "scratch" "Ljava/lang/StringBuilder;", Cond.methodLink RX0 17 yJ4_init_da8c8, Cond.methodLink RX8 30 yX3_init, Cond.instanceMethod yX3_init, Cond.code yX3_init cX3_init 1 none, Cond.methodLink RX3 3 objectInit, Cond.classLink RX3 9 RX7, Cond.fieldLink RX3 11 "PhraseDesk$Finder" "candidates" "[LPhraseDesk$Routine;", Cond.methodLink RX11 41 yX10_ofNull]
def wsX11_init : List Cond := .code yX11_init cX11_init 1 none :: ((wsX11_init_r1 ++ (wsX11_init_r2 ++ (wsX11_init_r3 ++ (wsX11_init_r4 ++ wsX11_init_r5)))) ++ wsX60 ++ wsX110 ++ wsX80 ++ wsX40 ++ wsJ40 ++ wsX00 ++ wsX30 ++ wsX100)
def wsX12_init_r1 : List Cond := [Cond.methodLink RX12 1 objectInit, Cond.instanceMethod objectInit, Cond.code objectInit ⟨#[0xb1]⟩ 1 none, Cond.arrayClass .int, Cond.fieldLink RX12 7 "PhraseDeskModel" "letters" "[I", Cond.fieldLink RX12 13 "PhraseDeskModel" "tokenKind" "[I", Cond.fieldLink RX12 16 "PhraseDeskModel" "tokenAt" "[I", Cond.arrayClass .long, Cond.fieldLink RX12 19 "PhraseDeskModel" "token" "[J", Cond.fieldLink RX12 23 "PhraseDeskModel" "scale" "[I", Cond.fieldLink RX12 26 "PhraseDeskModel" "step" "[I", Cond.fieldLink RX12 29 "PhraseDeskModel" "with" "[J", Cond.fieldLink RX12 32 "PhraseDeskModel" "lengths" "[I", Cond.fieldLink RX12 35 "PhraseDeskModel" "frame" "[I", Cond.fieldLink RX12 38 "PhraseDeskModel" "base" "[I", Cond.fieldLink RX12 41 "PhraseDeskModel" "sign" "[I", Cond.fieldLink RX12 44 "PhraseDeskModel" "patch" "[I", Cond.fieldLink RX12 47 "PhraseDeskModel" "callName" "[I", Cond.fieldLink RX12 50 "PhraseDeskModel" "callCount" "[I", Cond.arrayClass .boolean, Cond.fieldLink RX12 53 "PhraseDeskModel" "closed" "[Z", Cond.fieldLink RX12 57 "PhraseDeskModel" "plain" "[Z", Cond.fieldLink RX12 60 "PhraseDeskModel" "aims" "[Z", Cond.fieldLink RX12 63 "PhraseDeskModel" "operation" "[I"]
def wsX12_init_r2 : List Cond := [Cond.fieldLink RX12 66 "PhraseDeskModel" "level" "[I", Cond.fieldLink RX12 69 "PhraseDeskModel" "jump" "[I", Cond.fieldLink RX12 72 "PhraseDeskModel" "parent" "[I", Cond.fieldLink RX12 75 "PhraseDeskModel" "fields" "[I", Cond.fieldLink RX12 78 "PhraseDeskModel" "fieldName" "[I", Cond.fieldLink RX12 81 "PhraseDeskModel" "fieldType" "[I", Cond.fieldLink RX12 84 "PhraseDeskModel" "methods" "[I", Cond.fieldLink RX12 87 "PhraseDeskModel" "methodName" "[I", Cond.fieldLink RX12 90 "PhraseDeskModel" "one" "[I", Cond.fieldLink RX12 93 "PhraseDeskModel" "two" "[I", Cond.fieldLink RX12 96 "PhraseDeskModel" "action" "[I", Cond.fieldLink RX12 99 "PhraseDeskModel" "methodNumber" "[I", Cond.fieldLink RX12 102 "PhraseDeskModel" "converts" "[Z", Cond.fieldLink RX12 105 "PhraseDeskModel" "classOf" "[I", Cond.fieldLink RX12 108 "PhraseDeskModel" "variable" "[I", Cond.fieldLink RX12 111 "PhraseDeskModel" "kind" "[I", Cond.fieldLink RX12 114 "PhraseDeskModel" "a" "[J", Cond.fieldLink RX12 117 "PhraseDeskModel" "b" "[J", Cond.arrayClass .double, Cond.fieldLink RX12 120 "PhraseDeskModel" "real" "[D", Cond.fieldLink RX12 124 "PhraseDeskModel" "built" "[I"]
def wsX12_init : List Cond := .code yX12_init cX12_init 1 none :: ((wsX12_init_r1 ++ wsX12_init_r2) ++ wsX120)
set_option maxRecDepth 20000 in
theorem ggX0_init_J4_init_da8c8 : GoodIn wsX0_init wsJ4_init_da8c8 := goodIn_r _ [12, 13, 14, 15, 16, 17, 2, 3, 18, 19, 20, 21, 22, 23, 24, 25, 26, 27, 28, 29, 32, 33, 34, 35] (by decide +kernel) (by decide +kernel)
set_option maxRecDepth 20000 in
theorem gX0_init_J4_init_da8c8 : GoodIn wsX0_init (wsJ4_init_da8c8) := ggX0_init_J4_init_da8c8
theorem dX0_init_0 : decode cX0_init 0 = .ok (.aload_n 0, 1) := by decide +kernel
theorem dX0_init_1 : decode cX0_init 1 = .ok (.invokespecial 3, 3) := by decide +kernel
theorem dX0_init_4 : decode cX0_init 4 = .ok (.aload_n 0, 1) := by decide +kernel
theorem dX0_init_5 : decode cX0_init 5 = .ok (.bipush 65, 2) := by decide +kernel
theorem dX0_init_7 : decode cX0_init 7 = .ok (.newarray .boolean, 2) := by decide +kernel
theorem dX0_init_9 : decode cX0_init 9 = .ok (.putfield 11, 3) := by decide +kernel
theorem dX0_init_12 : decode cX0_init 12 = .ok (.aload_n 0, 1) := by decide +kernel
theorem dX0_init_13 : decode cX0_init 13 = .ok (.new 15, 3) := by decide +kernel
theorem dX0_init_16 : decode cX0_init 16 = .ok (.dup, 1) := by decide +kernel
theorem dX0_init_17 : decode cX0_init 17 = .ok (.invokespecial 17, 3) := by decide +kernel
theorem dX0_init_20 : decode cX0_init 20 = .ok (.putfield 18, 3) := by decide +kernel
theorem dX0_init_23 : decode cX0_init 23 = .ok (.return_, 1) := by decide +kernel
theorem dX3_init_0 : decode cX3_init 0 = .ok (.aload_n 0, 1) := by decide +kernel
theorem dX3_init_1 : decode cX3_init 1 = .ok (.invokespecial 3, 3) := by decide +kernel
theorem dX3_init_4 : decode cX3_init 4 = .ok (.aload_n 0, 1) := by decide +kernel
theorem dX3_init_5 : decode cX3_init 5 = .ok (.bipush 30, 2) := by decide +kernel
theorem dX3_init_7 : decode cX3_init 7 = .ok (.anewarray 9, 3) := by decide +kernel
theorem dX3_init_10 : decode cX3_init 10 = .ok (.putfield 11, 3) := by decide +kernel
theorem dX3_init_13 : decode cX3_init 13 = .ok (.return_, 1) := by decide +kernel
set_option maxRecDepth 20000 in
theorem ggX4_init_J4_init_da8c8 : GoodIn wsX4_init wsJ4_init_da8c8 := goodIn_r _ [18, 19, 20, 21, 22, 23, 2, 3, 24, 25, 26, 27, 28, 29, 30, 31, 32, 33, 34, 35, 44, 45, 46, 47] (by decide +kernel) (by decide +kernel)
set_option maxRecDepth 20000 in
theorem gX4_init_J4_init_da8c8 : GoodIn wsX4_init (wsJ4_init_da8c8) := ggX4_init_J4_init_da8c8
theorem dX4_init_0 : decode cX4_init 0 = .ok (.aload_n 0, 1) := by decide +kernel
theorem dX4_init_1 : decode cX4_init 1 = .ok (.invokespecial 3, 3) := by decide +kernel
theorem dX4_init_4 : decode cX4_init 4 = .ok (.aload_n 0, 1) := by decide +kernel
theorem dX4_init_5 : decode cX4_init 5 = .ok (.bipush 40, 2) := by decide +kernel
theorem dX4_init_7 : decode cX4_init 7 = .ok (.newarray .char, 2) := by decide +kernel
theorem dX4_init_9 : decode cX4_init 9 = .ok (.putfield 9, 3) := by decide +kernel
theorem dX4_init_12 : decode cX4_init 12 = .ok (.aload_n 0, 1) := by decide +kernel
theorem dX4_init_13 : decode cX4_init 13 = .ok (.bipush 41, 2) := by decide +kernel
theorem dX4_init_15 : decode cX4_init 15 = .ok (.newarray .int, 2) := by decide +kernel
theorem dX4_init_17 : decode cX4_init 17 = .ok (.putfield 15, 3) := by decide +kernel
theorem dX4_init_20 : decode cX4_init 20 = .ok (.aload_n 0, 1) := by decide +kernel
theorem dX4_init_21 : decode cX4_init 21 = .ok (.bipush 41, 2) := by decide +kernel
theorem dX4_init_23 : decode cX4_init 23 = .ok (.newarray .int, 2) := by decide +kernel
theorem dX4_init_25 : decode cX4_init 25 = .ok (.putfield 19, 3) := by decide +kernel
theorem dX4_init_28 : decode cX4_init 28 = .ok (.aload_n 0, 1) := by decide +kernel
theorem dX4_init_29 : decode cX4_init 29 = .ok (.bipush 41, 2) := by decide +kernel
theorem dX4_init_31 : decode cX4_init 31 = .ok (.newarray .int, 2) := by decide +kernel
theorem dX4_init_33 : decode cX4_init 33 = .ok (.putfield 22, 3) := by decide +kernel
theorem dX4_init_36 : decode cX4_init 36 = .ok (.aload_n 0, 1) := by decide +kernel
theorem dX4_init_37 : decode cX4_init 37 = .ok (.bipush 41, 2) := by decide +kernel
theorem dX4_init_39 : decode cX4_init 39 = .ok (.anewarray 25, 3) := by decide +kernel
theorem dX4_init_42 : decode cX4_init 42 = .ok (.putfield 27, 3) := by decide +kernel
theorem dX4_init_45 : decode cX4_init 45 = .ok (.aload_n 0, 1) := by decide +kernel
theorem dX4_init_46 : decode cX4_init 46 = .ok (.new 31, 3) := by decide +kernel
theorem dX4_init_49 : decode cX4_init 49 = .ok (.dup, 1) := by decide +kernel
theorem dX4_init_50 : decode cX4_init 50 = .ok (.invokespecial 33, 3) := by decide +kernel
theorem dX4_init_53 : decode cX4_init 53 = .ok (.putfield 34, 3) := by decide +kernel
theorem dX4_init_56 : decode cX4_init 56 = .ok (.return_, 1) := by decide +kernel
set_option maxRecDepth 20000 in
theorem ggX6_init_X4_init : GoodIn wsX6_init wsX4_init := goodIn_r _ [10, 11, 2, 3, 12, 13, 14, 15, 16, 17, 18, 19, 20, 21, 22, 23, 24, 25, 26, 27, 28, 29, 30, 31, 32, 33, 34, 35, 36, 37, 38, 39, 40, 41, 42, 43, 44, 45, 46, 47, 48, 49, 50, 51, 56, 57, 58, 59] (by decide +kernel) (by decide +kernel)
set_option maxRecDepth 20000 in
theorem gX6_init_X4_init : GoodIn wsX6_init (wsX4_init) := ggX6_init_X4_init
theorem dX6_init_0 : decode cX6_init 0 = .ok (.aload_n 0, 1) := by decide +kernel
theorem dX6_init_1 : decode cX6_init 1 = .ok (.invokespecial 3, 3) := by decide +kernel
theorem dX6_init_4 : decode cX6_init 4 = .ok (.aload_n 0, 1) := by decide +kernel
theorem dX6_init_5 : decode cX6_init 5 = .ok (.new 9, 3) := by decide +kernel
theorem dX6_init_8 : decode cX6_init 8 = .ok (.dup, 1) := by decide +kernel
theorem dX6_init_9 : decode cX6_init 9 = .ok (.invokespecial 11, 3) := by decide +kernel
theorem dX6_init_12 : decode cX6_init 12 = .ok (.putfield 12, 3) := by decide +kernel
theorem dX6_init_15 : decode cX6_init 15 = .ok (.return_, 1) := by decide +kernel
set_option maxRecDepth 20000 in
theorem ggX8_init_X10_ofNull : GoodIn wsX8_init wsX10_ofNull := goodIn_r _ [21, 22, 23, 20, 24, 25, 26, 27, 2, 3, 28, 29, 30, 31, 32, 82, 83, 84, 85, 86] (by decide +kernel) (by decide +kernel)
set_option maxRecDepth 20000 in
theorem gX8_init_X10_ofNull : GoodIn wsX8_init (va_wsS RX8 9 yX10_ofNull wsX10_ofNull) := goodIn_app (goodIn_of _ (by decide +kernel)) ggX8_init_X10_ofNull
set_option maxRecDepth 20000 in
theorem ggX8_init_X0_init : GoodIn wsX8_init wsX0_init := goodIn_r _ [35, 36, 2, 3, 37, 38, 39, 40, 41, 42, 43, 44, 45, 46, 47, 48, 49, 50, 51, 52, 53, 54, 55, 56, 57, 58, 59, 60, 61, 62, 77, 78, 87, 88, 89, 90] (by decide +kernel) (by decide +kernel)
set_option maxRecDepth 20000 in
theorem gX8_init_X0_init : GoodIn wsX8_init (wsX0_init) := ggX8_init_X0_init
set_option maxRecDepth 20000 in
theorem ggX8_init_X3_init : GoodIn wsX8_init wsX3_init := goodIn_r _ [65, 66, 2, 3, 67, 68, 79, 80, 81] (by decide +kernel) (by decide +kernel)
set_option maxRecDepth 20000 in
theorem gX8_init_X3_init : GoodIn wsX8_init (wsX3_init) := ggX8_init_X3_init
theorem dX8_init_0 : decode cX8_init 0 = .ok (.aload_n 0, 1) := by decide +kernel
theorem dX8_init_1 : decode cX8_init 1 = .ok (.invokespecial 3, 3) := by decide +kernel
theorem dX8_init_4 : decode cX8_init 4 = .ok (.aload_n 0, 1) := by decide +kernel
theorem dX8_init_5 : decode cX8_init 5 = .ok (.invokestatic 9, 3) := by decide +kernel
theorem dX8_init_8 : decode cX8_init 8 = .ok (.putfield 15, 3) := by decide +kernel
theorem dX8_init_11 : decode cX8_init 11 = .ok (.aload_n 0, 1) := by decide +kernel
theorem dX8_init_12 : decode cX8_init 12 = .ok (.new 21, 3) := by decide +kernel
theorem dX8_init_15 : decode cX8_init 15 = .ok (.dup, 1) := by decide +kernel
theorem dX8_init_16 : decode cX8_init 16 = .ok (.invokespecial 23, 3) := by decide +kernel
theorem dX8_init_19 : decode cX8_init 19 = .ok (.putfield 24, 3) := by decide +kernel
theorem dX8_init_22 : decode cX8_init 22 = .ok (.aload_n 0, 1) := by decide +kernel
theorem dX8_init_23 : decode cX8_init 23 = .ok (.new 28, 3) := by decide +kernel
theorem dX8_init_26 : decode cX8_init 26 = .ok (.dup, 1) := by decide +kernel
theorem dX8_init_27 : decode cX8_init 27 = .ok (.invokespecial 30, 3) := by decide +kernel
theorem dX8_init_30 : decode cX8_init 30 = .ok (.putfield 31, 3) := by decide +kernel
theorem dX8_init_33 : decode cX8_init 33 = .ok (.aload_n 0, 1) := by decide +kernel
theorem dX8_init_34 : decode cX8_init 34 = .ok (.bipush 12, 2) := by decide +kernel
theorem dX8_init_36 : decode cX8_init 36 = .ok (.newarray .int, 2) := by decide +kernel
theorem dX8_init_38 : decode cX8_init 38 = .ok (.putfield 35, 3) := by decide +kernel
theorem dX8_init_41 : decode cX8_init 41 = .ok (.aload_n 0, 1) := by decide +kernel
theorem dX8_init_42 : decode cX8_init 42 = .ok (.bipush 12, 2) := by decide +kernel
theorem dX8_init_44 : decode cX8_init 44 = .ok (.anewarray 10, 3) := by decide +kernel
theorem dX8_init_47 : decode cX8_init 47 = .ok (.putfield 39, 3) := by decide +kernel
theorem dX8_init_50 : decode cX8_init 50 = .ok (.aload_n 0, 1) := by decide +kernel
theorem dX8_init_51 : decode cX8_init 51 = .ok (.aload_n 0, 1) := by decide +kernel
theorem dX8_init_52 : decode cX8_init 52 = .ok (.getfield 15, 3) := by decide +kernel
theorem dX8_init_55 : decode cX8_init 55 = .ok (.putfield 43, 3) := by decide +kernel
theorem dX8_init_58 : decode cX8_init 58 = .ok (.return_, 1) := by decide +kernel
theorem dX10_init_0 : decode cX10_init 0 = .ok (.aload_n 0, 1) := by decide +kernel
theorem dX10_init_1 : decode cX10_init 1 = .ok (.invokespecial 3, 3) := by decide +kernel
theorem dX10_init_4 : decode cX10_init 4 = .ok (.aload_n 0, 1) := by decide +kernel
theorem dX10_init_5 : decode cX10_init 5 = .ok (.iload_n 1, 1) := by decide +kernel
theorem dX10_init_6 : decode cX10_init 6 = .ok (.putfield 9, 3) := by decide +kernel
theorem dX10_init_9 : decode cX10_init 9 = .ok (.aload_n 0, 1) := by decide +kernel
theorem dX10_init_10 : decode cX10_init 10 = .ok (.iload_n 2, 1) := by decide +kernel
theorem dX10_init_11 : decode cX10_init 11 = .ok (.putfield 15, 3) := by decide +kernel
theorem dX10_init_14 : decode cX10_init 14 = .ok (.aload_n 0, 1) := by decide +kernel
theorem dX10_init_15 : decode cX10_init 15 = .ok (.dload_n 3, 1) := by decide +kernel
theorem dX10_init_16 : decode cX10_init 16 = .ok (.putfield 18, 3) := by decide +kernel
theorem dX10_init_19 : decode cX10_init 19 = .ok (.aload_n 0, 1) := by decide +kernel
theorem dX10_init_20 : decode cX10_init 20 = .ok (.aload 5, 2) := by decide +kernel
theorem dX10_init_22 : decode cX10_init 22 = .ok (.putfield 22, 3) := by decide +kernel
theorem dX10_init_25 : decode cX10_init 25 = .ok (.aload_n 0, 1) := by decide +kernel
theorem dX10_init_26 : decode cX10_init 26 = .ok (.aload 6, 2) := by decide +kernel
theorem dX10_init_28 : decode cX10_init 28 = .ok (.putfield 26, 3) := by decide +kernel
theorem dX10_init_31 : decode cX10_init 31 = .ok (.return_, 1) := by decide +kernel
set_option maxRecDepth 20000 in
theorem ggX10_ofNull_X10_init : GoodIn wsX10_ofNull wsX10_init := goodIn_r _ [6, 7, 8, 9, 10, 11, 12, 13, 14, 15, 16, 17, 18, 19] (by decide +kernel) (by decide +kernel)
set_option maxRecDepth 20000 in
theorem gX10_ofNull_X10_init : GoodIn wsX10_ofNull (wsX10_init) := ggX10_ofNull_X10_init
theorem dX10_ofNull_0 : decode cX10_ofNull 0 = .ok (.new 10, 3) := by decide +kernel
theorem dX10_ofNull_3 : decode cX10_ofNull 3 = .ok (.dup, 1) := by decide +kernel
theorem dX10_ofNull_4 : decode cX10_ofNull 4 = .ok (.iconst 0, 1) := by decide +kernel
theorem dX10_ofNull_5 : decode cX10_ofNull 5 = .ok (.iconst 0, 1) := by decide +kernel
theorem dX10_ofNull_6 : decode cX10_ofNull 6 = .ok (.dconst 0, 1) := by decide +kernel
theorem dX10_ofNull_7 : decode cX10_ofNull 7 = .ok (.ldc 30, 2) := by decide +kernel
theorem dX10_ofNull_9 : decode cX10_ofNull 9 = .ok (.aconst_null, 1) := by decide +kernel
theorem dX10_ofNull_10 : decode cX10_ofNull 10 = .ok (.invokespecial 32, 3) := by decide +kernel
theorem dX10_ofNull_13 : decode cX10_ofNull 13 = .ok (.areturn, 1) := by decide +kernel
set_option maxRecDepth 20000 in
theorem ggX11_init_X6_init : GoodIn wsX11_init wsX6_init := goodIn_r _ [21, 22, 2, 3, 23, 24, 25, 26, 27, 28, 29, 30, 31, 32, 33, 34, 35, 36, 37, 38, 39, 40, 41, 42, 43, 44, 45, 46, 47, 48, 49, 50, 51, 52, 53, 54, 55, 56, 57, 58, 59, 60, 61, 62, 132, 133, 134, 135, 136, 137, 138, 139, 111, 112, 113, 114, 140, 141, 142, 143] (by decide +kernel) (by decide +kernel)
set_option maxRecDepth 20000 in
theorem gX11_init_X6_init : GoodIn wsX11_init (wsX6_init) := ggX11_init_X6_init
set_option maxRecDepth 20000 in
theorem ggX11_init_X8_init : GoodIn wsX11_init wsX8_init := goodIn_r _ [65, 66, 2, 3, 67, 68, 69, 70, 71, 72, 73, 74, 75, 33, 76, 77, 78, 79, 80, 81, 82, 83, 84, 85, 86, 87, 88, 89, 90, 91, 92, 93, 94, 95, 96, 97, 98, 99, 100, 101, 40, 41, 102, 103, 44, 45, 46, 47, 48, 49, 50, 51, 52, 53, 54, 55, 56, 57, 58, 59, 60, 61, 62, 104, 105, 106, 107, 108, 109, 124, 125, 126, 127, 128, 129, 130, 131, 144, 145, 146, 147, 148, 149, 150, 151, 152, 153, 140, 141, 142, 143] (by decide +kernel) (by decide +kernel)
set_option maxRecDepth 20000 in
theorem gX11_init_X8_init : GoodIn wsX11_init (wsX8_init) := ggX11_init_X8_init
set_option maxRecDepth 20000 in
theorem ggX11_init_X10_ofNull : GoodIn wsX11_init wsX10_ofNull := goodIn_r _ [83, 84, 85, 82, 86, 87, 88, 89, 2, 3, 90, 91, 92, 93, 94, 149, 150, 151, 152, 153] (by decide +kernel) (by decide +kernel)
set_option maxRecDepth 20000 in
theorem gX11_init_X10_ofNull : GoodIn wsX11_init (va_wsS RX11 41 yX10_ofNull wsX10_ofNull) := goodIn_app (goodIn_of _ (by decide +kernel)) ggX11_init_X10_ofNull
theorem dX11_init_0 : decode cX11_init 0 = .ok (.aload_n 0, 1) := by decide +kernel
theorem dX11_init_1 : decode cX11_init 1 = .ok (.invokespecial 1, 3) := by decide +kernel
theorem dX11_init_4 : decode cX11_init 4 = .ok (.aload_n 0, 1) := by decide +kernel
theorem dX11_init_5 : decode cX11_init 5 = .ok (.new 7, 3) := by decide +kernel
theorem dX11_init_8 : decode cX11_init 8 = .ok (.dup, 1) := by decide +kernel
theorem dX11_init_9 : decode cX11_init 9 = .ok (.invokespecial 9, 3) := by decide +kernel
theorem dX11_init_12 : decode cX11_init 12 = .ok (.putfield 10, 3) := by decide +kernel
theorem dX11_init_15 : decode cX11_init 15 = .ok (.aload_n 0, 1) := by decide +kernel
theorem dX11_init_16 : decode cX11_init 16 = .ok (.new 16, 3) := by decide +kernel
theorem dX11_init_19 : decode cX11_init 19 = .ok (.dup, 1) := by decide +kernel
theorem dX11_init_20 : decode cX11_init 20 = .ok (.invokespecial 18, 3) := by decide +kernel
theorem dX11_init_23 : decode cX11_init 23 = .ok (.putfield 19, 3) := by decide +kernel
theorem dX11_init_26 : decode cX11_init 26 = .ok (.aload_n 0, 1) := by decide +kernel
theorem dX11_init_27 : decode cX11_init 27 = .ok (.bipush 40, 2) := by decide +kernel
theorem dX11_init_29 : decode cX11_init 29 = .ok (.anewarray 23, 3) := by decide +kernel
theorem dX11_init_32 : decode cX11_init 32 = .ok (.putfield 25, 3) := by decide +kernel
theorem dX11_init_35 : decode cX11_init 35 = .ok (.aload_n 0, 1) := by decide +kernel
theorem dX11_init_36 : decode cX11_init 36 = .ok (.iconst 5, 1) := by decide +kernel
theorem dX11_init_37 : decode cX11_init 37 = .ok (.anewarray 29, 3) := by decide +kernel
theorem dX11_init_40 : decode cX11_init 40 = .ok (.putfield 31, 3) := by decide +kernel
theorem dX11_init_43 : decode cX11_init 43 = .ok (.aload_n 0, 1) := by decide +kernel
theorem dX11_init_44 : decode cX11_init 44 = .ok (.bipush 30, 2) := by decide +kernel
theorem dX11_init_46 : decode cX11_init 46 = .ok (.anewarray 35, 3) := by decide +kernel
theorem dX11_init_49 : decode cX11_init 49 = .ok (.putfield 37, 3) := by decide +kernel
theorem dX11_init_52 : decode cX11_init 52 = .ok (.aload_n 0, 1) := by decide +kernel
theorem dX11_init_53 : decode cX11_init 53 = .ok (.invokestatic 41, 3) := by decide +kernel
theorem dX11_init_56 : decode cX11_init 56 = .ok (.putfield 45, 3) := by decide +kernel
theorem dX11_init_59 : decode cX11_init 59 = .ok (.return_, 1) := by decide +kernel
theorem dX12_init_0 : decode cX12_init 0 = .ok (.aload_n 0, 1) := by decide +kernel
theorem dX12_init_1 : decode cX12_init 1 = .ok (.invokespecial 1, 3) := by decide +kernel
theorem dX12_init_4 : decode cX12_init 4 = .ok (.aload_n 0, 1) := by decide +kernel
theorem dX12_init_5 : decode cX12_init 5 = .ok (.bipush 40, 2) := by decide +kernel
theorem dX12_init_7 : decode cX12_init 7 = .ok (.newarray .int, 2) := by decide +kernel
theorem dX12_init_9 : decode cX12_init 9 = .ok (.putfield 7, 3) := by decide +kernel
theorem dX12_init_12 : decode cX12_init 12 = .ok (.aload_n 0, 1) := by decide +kernel
theorem dX12_init_13 : decode cX12_init 13 = .ok (.bipush 42, 2) := by decide +kernel
theorem dX12_init_15 : decode cX12_init 15 = .ok (.newarray .int, 2) := by decide +kernel
theorem dX12_init_17 : decode cX12_init 17 = .ok (.putfield 13, 3) := by decide +kernel
theorem dX12_init_20 : decode cX12_init 20 = .ok (.aload_n 0, 1) := by decide +kernel
theorem dX12_init_21 : decode cX12_init 21 = .ok (.bipush 42, 2) := by decide +kernel
theorem dX12_init_23 : decode cX12_init 23 = .ok (.newarray .int, 2) := by decide +kernel
theorem dX12_init_25 : decode cX12_init 25 = .ok (.putfield 16, 3) := by decide +kernel
theorem dX12_init_28 : decode cX12_init 28 = .ok (.aload_n 0, 1) := by decide +kernel
theorem dX12_init_29 : decode cX12_init 29 = .ok (.bipush 42, 2) := by decide +kernel
theorem dX12_init_31 : decode cX12_init 31 = .ok (.newarray .long, 2) := by decide +kernel
theorem dX12_init_33 : decode cX12_init 33 = .ok (.putfield 19, 3) := by decide +kernel
theorem dX12_init_36 : decode cX12_init 36 = .ok (.aload_n 0, 1) := by decide +kernel
theorem dX12_init_37 : decode cX12_init 37 = .ok (.bipush 42, 2) := by decide +kernel
theorem dX12_init_39 : decode cX12_init 39 = .ok (.newarray .int, 2) := by decide +kernel
theorem dX12_init_41 : decode cX12_init 41 = .ok (.putfield 23, 3) := by decide +kernel
theorem dX12_init_44 : decode cX12_init 44 = .ok (.aload_n 0, 1) := by decide +kernel
theorem dX12_init_45 : decode cX12_init 45 = .ok (.sipush 3600, 3) := by decide +kernel
theorem dX12_init_48 : decode cX12_init 48 = .ok (.newarray .int, 2) := by decide +kernel
theorem dX12_init_50 : decode cX12_init 50 = .ok (.putfield 26, 3) := by decide +kernel
theorem dX12_init_53 : decode cX12_init 53 = .ok (.aload_n 0, 1) := by decide +kernel
theorem dX12_init_54 : decode cX12_init 54 = .ok (.sipush 3600, 3) := by decide +kernel
theorem dX12_init_57 : decode cX12_init 57 = .ok (.newarray .long, 2) := by decide +kernel
theorem dX12_init_59 : decode cX12_init 59 = .ok (.putfield 29, 3) := by decide +kernel
theorem dX12_init_62 : decode cX12_init 62 = .ok (.aload_n 0, 1) := by decide +kernel
theorem dX12_init_63 : decode cX12_init 63 = .ok (.bipush 40, 2) := by decide +kernel
theorem dX12_init_65 : decode cX12_init 65 = .ok (.newarray .int, 2) := by decide +kernel
theorem dX12_init_67 : decode cX12_init 67 = .ok (.putfield 32, 3) := by decide +kernel
theorem dX12_init_70 : decode cX12_init 70 = .ok (.aload_n 0, 1) := by decide +kernel
theorem dX12_init_71 : decode cX12_init 71 = .ok (.bipush 8, 2) := by decide +kernel
theorem dX12_init_73 : decode cX12_init 73 = .ok (.newarray .int, 2) := by decide +kernel
theorem dX12_init_75 : decode cX12_init 75 = .ok (.putfield 35, 3) := by decide +kernel
theorem dX12_init_78 : decode cX12_init 78 = .ok (.aload_n 0, 1) := by decide +kernel
theorem dX12_init_79 : decode cX12_init 79 = .ok (.bipush 8, 2) := by decide +kernel
theorem dX12_init_81 : decode cX12_init 81 = .ok (.newarray .int, 2) := by decide +kernel
theorem dX12_init_83 : decode cX12_init 83 = .ok (.putfield 38, 3) := by decide +kernel
theorem dX12_init_86 : decode cX12_init 86 = .ok (.aload_n 0, 1) := by decide +kernel
theorem dX12_init_87 : decode cX12_init 87 = .ok (.bipush 8, 2) := by decide +kernel
theorem dX12_init_89 : decode cX12_init 89 = .ok (.newarray .int, 2) := by decide +kernel
theorem dX12_init_91 : decode cX12_init 91 = .ok (.putfield 41, 3) := by decide +kernel
theorem dX12_init_94 : decode cX12_init 94 = .ok (.aload_n 0, 1) := by decide +kernel
theorem dX12_init_95 : decode cX12_init 95 = .ok (.bipush 8, 2) := by decide +kernel
theorem dX12_init_97 : decode cX12_init 97 = .ok (.newarray .int, 2) := by decide +kernel
theorem dX12_init_99 : decode cX12_init 99 = .ok (.putfield 44, 3) := by decide +kernel
theorem dX12_init_102 : decode cX12_init 102 = .ok (.aload_n 0, 1) := by decide +kernel
theorem dX12_init_103 : decode cX12_init 103 = .ok (.bipush 8, 2) := by decide +kernel
theorem dX12_init_105 : decode cX12_init 105 = .ok (.newarray .int, 2) := by decide +kernel
theorem dX12_init_107 : decode cX12_init 107 = .ok (.putfield 47, 3) := by decide +kernel
theorem dX12_init_110 : decode cX12_init 110 = .ok (.aload_n 0, 1) := by decide +kernel
theorem dX12_init_111 : decode cX12_init 111 = .ok (.bipush 8, 2) := by decide +kernel
theorem dX12_init_113 : decode cX12_init 113 = .ok (.newarray .int, 2) := by decide +kernel
theorem dX12_init_115 : decode cX12_init 115 = .ok (.putfield 50, 3) := by decide +kernel
theorem dX12_init_118 : decode cX12_init 118 = .ok (.aload_n 0, 1) := by decide +kernel
theorem dX12_init_119 : decode cX12_init 119 = .ok (.bipush 8, 2) := by decide +kernel
theorem dX12_init_121 : decode cX12_init 121 = .ok (.newarray .boolean, 2) := by decide +kernel
theorem dX12_init_123 : decode cX12_init 123 = .ok (.putfield 53, 3) := by decide +kernel
theorem dX12_init_126 : decode cX12_init 126 = .ok (.aload_n 0, 1) := by decide +kernel
theorem dX12_init_127 : decode cX12_init 127 = .ok (.bipush 8, 2) := by decide +kernel
theorem dX12_init_129 : decode cX12_init 129 = .ok (.newarray .boolean, 2) := by decide +kernel
theorem dX12_init_131 : decode cX12_init 131 = .ok (.putfield 57, 3) := by decide +kernel
theorem dX12_init_134 : decode cX12_init 134 = .ok (.aload_n 0, 1) := by decide +kernel
theorem dX12_init_135 : decode cX12_init 135 = .ok (.bipush 8, 2) := by decide +kernel
theorem dX12_init_137 : decode cX12_init 137 = .ok (.newarray .boolean, 2) := by decide +kernel
theorem dX12_init_139 : decode cX12_init 139 = .ok (.putfield 60, 3) := by decide +kernel
theorem dX12_init_142 : decode cX12_init 142 = .ok (.aload_n 0, 1) := by decide +kernel
theorem dX12_init_143 : decode cX12_init 143 = .ok (.bipush 48, 2) := by decide +kernel
theorem dX12_init_145 : decode cX12_init 145 = .ok (.newarray .int, 2) := by decide +kernel
theorem dX12_init_147 : decode cX12_init 147 = .ok (.putfield 63, 3) := by decide +kernel
theorem dX12_init_150 : decode cX12_init 150 = .ok (.aload_n 0, 1) := by decide +kernel
theorem dX12_init_151 : decode cX12_init 151 = .ok (.bipush 48, 2) := by decide +kernel
theorem dX12_init_153 : decode cX12_init 153 = .ok (.newarray .int, 2) := by decide +kernel
theorem dX12_init_155 : decode cX12_init 155 = .ok (.putfield 66, 3) := by decide +kernel
theorem dX12_init_158 : decode cX12_init 158 = .ok (.aload_n 0, 1) := by decide +kernel
theorem dX12_init_159 : decode cX12_init 159 = .ok (.bipush 48, 2) := by decide +kernel
theorem dX12_init_161 : decode cX12_init 161 = .ok (.newarray .int, 2) := by decide +kernel
theorem dX12_init_163 : decode cX12_init 163 = .ok (.putfield 69, 3) := by decide +kernel
theorem dX12_init_166 : decode cX12_init 166 = .ok (.aload_n 0, 1) := by decide +kernel
theorem dX12_init_167 : decode cX12_init 167 = .ok (.iconst 5, 1) := by decide +kernel
theorem dX12_init_168 : decode cX12_init 168 = .ok (.newarray .int, 2) := by decide +kernel
theorem dX12_init_170 : decode cX12_init 170 = .ok (.putfield 72, 3) := by decide +kernel
theorem dX12_init_173 : decode cX12_init 173 = .ok (.aload_n 0, 1) := by decide +kernel
theorem dX12_init_174 : decode cX12_init 174 = .ok (.iconst 5, 1) := by decide +kernel
theorem dX12_init_175 : decode cX12_init 175 = .ok (.newarray .int, 2) := by decide +kernel
theorem dX12_init_177 : decode cX12_init 177 = .ok (.putfield 75, 3) := by decide +kernel
theorem dX12_init_180 : decode cX12_init 180 = .ok (.aload_n 0, 1) := by decide +kernel
theorem dX12_init_181 : decode cX12_init 181 = .ok (.bipush 30, 2) := by decide +kernel
theorem dX12_init_183 : decode cX12_init 183 = .ok (.newarray .int, 2) := by decide +kernel
theorem dX12_init_185 : decode cX12_init 185 = .ok (.putfield 78, 3) := by decide +kernel
theorem dX12_init_188 : decode cX12_init 188 = .ok (.aload_n 0, 1) := by decide +kernel
theorem dX12_init_189 : decode cX12_init 189 = .ok (.bipush 30, 2) := by decide +kernel
theorem dX12_init_191 : decode cX12_init 191 = .ok (.newarray .int, 2) := by decide +kernel
theorem dX12_init_193 : decode cX12_init 193 = .ok (.putfield 81, 3) := by decide +kernel
theorem dX12_init_196 : decode cX12_init 196 = .ok (.aload_n 0, 1) := by decide +kernel
theorem dX12_init_197 : decode cX12_init 197 = .ok (.iconst 5, 1) := by decide +kernel
theorem dX12_init_198 : decode cX12_init 198 = .ok (.newarray .int, 2) := by decide +kernel
theorem dX12_init_200 : decode cX12_init 200 = .ok (.putfield 84, 3) := by decide +kernel
theorem dX12_init_203 : decode cX12_init 203 = .ok (.aload_n 0, 1) := by decide +kernel
theorem dX12_init_204 : decode cX12_init 204 = .ok (.bipush 30, 2) := by decide +kernel
theorem dX12_init_206 : decode cX12_init 206 = .ok (.newarray .int, 2) := by decide +kernel
theorem dX12_init_208 : decode cX12_init 208 = .ok (.putfield 87, 3) := by decide +kernel
theorem dX12_init_211 : decode cX12_init 211 = .ok (.aload_n 0, 1) := by decide +kernel
theorem dX12_init_212 : decode cX12_init 212 = .ok (.bipush 30, 2) := by decide +kernel
theorem dX12_init_214 : decode cX12_init 214 = .ok (.newarray .int, 2) := by decide +kernel
theorem dX12_init_216 : decode cX12_init 216 = .ok (.putfield 90, 3) := by decide +kernel
theorem dX12_init_219 : decode cX12_init 219 = .ok (.aload_n 0, 1) := by decide +kernel
theorem dX12_init_220 : decode cX12_init 220 = .ok (.bipush 30, 2) := by decide +kernel
theorem dX12_init_222 : decode cX12_init 222 = .ok (.newarray .int, 2) := by decide +kernel
theorem dX12_init_224 : decode cX12_init 224 = .ok (.putfield 93, 3) := by decide +kernel
theorem dX12_init_227 : decode cX12_init 227 = .ok (.aload_n 0, 1) := by decide +kernel
theorem dX12_init_228 : decode cX12_init 228 = .ok (.bipush 30, 2) := by decide +kernel
theorem dX12_init_230 : decode cX12_init 230 = .ok (.newarray .int, 2) := by decide +kernel
theorem dX12_init_232 : decode cX12_init 232 = .ok (.putfield 96, 3) := by decide +kernel
theorem dX12_init_235 : decode cX12_init 235 = .ok (.aload_n 0, 1) := by decide +kernel
theorem dX12_init_236 : decode cX12_init 236 = .ok (.bipush 30, 2) := by decide +kernel
theorem dX12_init_238 : decode cX12_init 238 = .ok (.newarray .int, 2) := by decide +kernel
theorem dX12_init_240 : decode cX12_init 240 = .ok (.putfield 99, 3) := by decide +kernel
theorem dX12_init_243 : decode cX12_init 243 = .ok (.aload_n 0, 1) := by decide +kernel
theorem dX12_init_244 : decode cX12_init 244 = .ok (.bipush 65, 2) := by decide +kernel
theorem dX12_init_246 : decode cX12_init 246 = .ok (.newarray .boolean, 2) := by decide +kernel
theorem dX12_init_248 : decode cX12_init 248 = .ok (.putfield 102, 3) := by decide +kernel
theorem dX12_init_251 : decode cX12_init 251 = .ok (.aload_n 0, 1) := by decide +kernel
theorem dX12_init_252 : decode cX12_init 252 = .ok (.bipush 30, 2) := by decide +kernel
theorem dX12_init_254 : decode cX12_init 254 = .ok (.newarray .int, 2) := by decide +kernel
theorem dX12_init_256 : decode cX12_init 256 = .ok (.putfield 105, 3) := by decide +kernel
theorem dX12_init_259 : decode cX12_init 259 = .ok (.aload_n 0, 1) := by decide +kernel
theorem dX12_init_260 : decode cX12_init 260 = .ok (.bipush 12, 2) := by decide +kernel
theorem dX12_init_262 : decode cX12_init 262 = .ok (.newarray .int, 2) := by decide +kernel
theorem dX12_init_264 : decode cX12_init 264 = .ok (.putfield 108, 3) := by decide +kernel
theorem dX12_init_267 : decode cX12_init 267 = .ok (.aload_n 0, 1) := by decide +kernel
theorem dX12_init_268 : decode cX12_init 268 = .ok (.sipush 980, 3) := by decide +kernel
theorem dX12_init_271 : decode cX12_init 271 = .ok (.newarray .int, 2) := by decide +kernel
theorem dX12_init_273 : decode cX12_init 273 = .ok (.putfield 111, 3) := by decide +kernel
theorem dX12_init_276 : decode cX12_init 276 = .ok (.aload_n 0, 1) := by decide +kernel
theorem dX12_init_277 : decode cX12_init 277 = .ok (.sipush 980, 3) := by decide +kernel
theorem dX12_init_280 : decode cX12_init 280 = .ok (.newarray .long, 2) := by decide +kernel
theorem dX12_init_282 : decode cX12_init 282 = .ok (.putfield 114, 3) := by decide +kernel
theorem dX12_init_285 : decode cX12_init 285 = .ok (.aload_n 0, 1) := by decide +kernel
theorem dX12_init_286 : decode cX12_init 286 = .ok (.sipush 980, 3) := by decide +kernel
theorem dX12_init_289 : decode cX12_init 289 = .ok (.newarray .long, 2) := by decide +kernel
theorem dX12_init_291 : decode cX12_init 291 = .ok (.putfield 117, 3) := by decide +kernel
theorem dX12_init_294 : decode cX12_init 294 = .ok (.aload_n 0, 1) := by decide +kernel
theorem dX12_init_295 : decode cX12_init 295 = .ok (.sipush 980, 3) := by decide +kernel
theorem dX12_init_298 : decode cX12_init 298 = .ok (.newarray .double, 2) := by decide +kernel
theorem dX12_init_300 : decode cX12_init 300 = .ok (.putfield 120, 3) := by decide +kernel
theorem dX12_init_303 : decode cX12_init 303 = .ok (.aload_n 0, 1) := by decide +kernel
theorem dX12_init_304 : decode cX12_init 304 = .ok (.bipush 48, 2) := by decide +kernel
theorem dX12_init_306 : decode cX12_init 306 = .ok (.newarray .int, 2) := by decide +kernel
theorem dX12_init_308 : decode cX12_init 308 = .ok (.putfield 124, 3) := by decide +kernel
theorem dX12_init_311 : decode cX12_init 311 = .ok (.return_, 1) := by decide +kernel
theorem dJ5_init_d00df_0 : decode cJ5_init_d00df 0 = .ok (.aload_n 0, 1) := by decide +kernel
theorem dJ5_init_d00df_1 : decode cJ5_init_d00df 1 = .ok (.invokespecial 3, 3) := by decide +kernel
theorem dJ5_init_d00df_4 : decode cJ5_init_d00df 4 = .ok (.getstatic 18, 3) := by decide +kernel
theorem dJ5_init_d00df_7 : decode cJ5_init_d00df 7 = .ok (.ifCond .eq 18, 3) := by decide +kernel
theorem dJ5_init_d00df_10 : decode cJ5_init_d00df 10 = .ok (.aload_n 0, 1) := by decide +kernel
theorem dJ5_init_d00df_11 : decode cJ5_init_d00df 11 = .ok (.iload_n 1, 1) := by decide +kernel
theorem dJ5_init_d00df_12 : decode cJ5_init_d00df 12 = .ok (.newarray .byte, 2) := by decide +kernel
theorem dJ5_init_d00df_14 : decode cJ5_init_d00df 14 = .ok (.putfield 15, 3) := by decide +kernel
theorem dJ5_init_d00df_17 : decode cJ5_init_d00df 17 = .ok (.aload_n 0, 1) := by decide +kernel
theorem dJ5_init_d00df_18 : decode cJ5_init_d00df 18 = .ok (.iconst 0, 1) := by decide +kernel
theorem dJ5_init_d00df_19 : decode cJ5_init_d00df 19 = .ok (.putfield 22, 3) := by decide +kernel
theorem dJ5_init_d00df_22 : decode cJ5_init_d00df 22 = .ok (.goto 16, 3) := by decide +kernel
theorem dJ5_init_d00df_38 : decode cJ5_init_d00df 38 = .ok (.return_, 1) := by decide +kernel
set_option maxRecDepth 20000 in
theorem ggJ4_init_da8c8_J5_init_d00df : GoodIn wsJ4_init_da8c8 wsJ5_init_d00df := goodIn_r _ [4, 5, 6, 7, 8, 9, 10, 11, 12, 13, 14, 15, 16, 17, 18, 19, 20, 21, 22, 23] (by decide +kernel) (by decide +kernel)
set_option maxRecDepth 20000 in
theorem gJ4_init_da8c8_J5_init_d00df : GoodIn wsJ4_init_da8c8 (wsJ5_init_d00df) := ggJ4_init_da8c8_J5_init_d00df
theorem dJ4_init_da8c8_0 : decode cJ4_init_da8c8 0 = .ok (.aload_n 0, 1) := by decide +kernel
theorem dJ4_init_da8c8_1 : decode cJ4_init_da8c8 1 = .ok (.bipush 16, 2) := by decide +kernel
theorem dJ4_init_da8c8_3 : decode cJ4_init_da8c8 3 = .ok (.invokespecial 1, 3) := by decide +kernel
theorem dJ4_init_da8c8_6 : decode cJ4_init_da8c8 6 = .ok (.return_, 1) := by decide +kernel
abbrev vwCl : List vw_C := [(RJ0, TJ0, 4), (RJ4, TJ4, 4), (RX0, TX0, 2), (RX1, TX1, 7), (RX2, TX2, 3), (RX3, TX3, 3), (RX4, TX4, 8), (RX5, TX5, 8), (RX6, TX6, 4), (RX7, TX7, 6), (RX8, TX8, 8), (RX9, TX9, 3), (RX10, TX10, 5), (RX11, TX11, 9), (RX12, TX12, 60)]
end
section
/-! ===== the words of the states: array classes, what nobody writes, a method's start and end ===== -/
def TY (cy : Nat → ClassId) : List (ClassId × FieldType) := [(cy 0, .int), (cy 1, .long), (cy 2, .boolean), (cy 3, .double), (cy 4, .char), (cy 5, .byte), (cy 6, .object "PhraseDesk$Value"), (cy 7, .object "PhraseDesk$Node"), (cy 8, .object "PhraseDesk$Family"), (cy 9, .object "PhraseDesk$Routine"), (cy 10, .object "PhraseDesk$Field")]
def Fr (sz0 : Nat) : Nat → Prop := fun q => sz0 ≤ q
def tIAE : String := "java/lang/IllegalArgumentException"
def tISE : String := "java/lang/IllegalStateException"
def tSup : List String := ["java/lang/RuntimeException", "java/lang/Exception"]
def TXT : List (Nat × String) := [(51, "no character 32 .. 126"), (68, "the text has 40 characters"), (78, "there are 40 programs"), (94, "the parent is no class"), (99, "there are 5 classes"), (111, "no such class, name or type"), (123, "the class can't get this field"), (133, "no such class, name, type or action"), (138, "the class has 6 methods"), (149, "there is no such class"), (151, "there are 30 objects"), (165, "no converter goes from and to such types"), (181, "there is no such program or object"), (194, "not the code of a name"), (200, "there are 12 other variables"), (227, "there is no such object")]
def thrB (X : String) : List Cond := [.declares (Bundle.initS "java/lang/RuntimeException"), .declares (Bundle.initS "java/lang/Exception"), .declares (Bundle.initS "java/lang/Throwable"), .castable X X]
/-- what the tables say that isn't among a method's words -/
def Wm (sa : Nat → Nat) (U : State) : Prop :=
  (∀ q ∈ TXT, vk_R RX11 q.1 q.2 (sa q.1) U) ∧ vk_R RX10 30 "" (sa 0) U ∧ (va_Nw (.declares (Bundle.initS "java/lang/RuntimeException")) U ∧ va_Nw (.declares (Bundle.initS "java/lang/Exception")) U ∧ va_Nw (.declares (Bundle.initS "java/lang/Throwable")) U ∧ va_Nw (.castable tIAE tIAE) U ∧ va_Nw (.castable tISE tISE) U) ∧
  (va_AO "PhraseDesk$Value" U ∧ va_AO "PhraseDesk$Node" U ∧ va_AO "PhraseDesk$Family" U ∧ va_AO "PhraseDesk$Routine" U ∧ va_AO "PhraseDesk$Field" U) ∧ va_Nc tISE tIAE U
theorem Wm.warm {sa : Nat → Nat} {s U : State} (hW : s.WarmedH U.vm) (h : Wm sa s) : Wm sa U := by
  obtain ⟨h1, h2, ⟨d1, d2, d3, d4, d5⟩, ⟨a1, a2, a3, a4, a5⟩, h5⟩ := h
  exact ⟨fun q hq => (h1 q hq).warm hW, h2.warm hW, ⟨va_Nw.warmD hW d1, va_Nw.warmD hW d2, va_Nw.warmD hW d3, va_Nw.warmC hW d4, va_Nw.warmC hW d5⟩, ⟨va_AO.moved hW.alike a1, va_AO.moved hW.alike a2, va_AO.moved hW.alike a3, va_AO.moved hW.alike a4, va_AO.moved hW.alike a5⟩, va_Nc.moved hW.alike h5⟩
theorem Wm.same {sa : Nat → Nat} {u U : State} (hv : U.vm = u.vm) (h : Wm sa u) : Wm sa U := by
  obtain ⟨h1, h2, ⟨d1, d2, d3, d4, d5⟩, ⟨a1, a2, a3, a4, a5⟩, h5⟩ := h
  have hal : u.vm.Alike U.vm := by rw [hv]; exact Vm.Alike.refl u.vm
  exact ⟨fun q hq => (h1 q hq).same hv, h2.same hv, ⟨va_Nw.same rfl hv.symm d1, va_Nw.same rfl hv.symm d2, va_Nw.same rfl hv.symm d3, va_Nw.same rfl hv.symm d4, va_Nw.same rfl hv.symm d5⟩, ⟨va_AO.moved hal a1, va_AO.moved hal a2, va_AO.moved hal a3, va_AO.moved hal a4, va_AO.moved hal a5⟩, va_Nc.moved hal h5⟩
/-- what lies in the heap and nobody writes -/
def Am (sz0 : Nat) (sa : Nat → Nat) (U : State) (H : Heap) : Prop :=
  va_Z "java/lang/String" "COMPACT_STRINGS" "Z" (.int 1) (Fr sz0) U H ∧ vx_Zq Bundle.tN "UNASSIGNED_STACK" Bundle.steD (Fr sz0) U H ∧ vx_Zq Bundle.tN "SUPPRESSED_SENTINEL" Bundle.listD (Fr sz0) U H ∧ vk_S 1 [0] [[]] (fun _ => sa 0) (fun _ => sa 1) (Fr sz0) U H
theorem Am.kept {sz0 : Nat} {sa : Nat → Nat} {U : State} {H H1 : Heap} (h : Am sz0 sa U H) (hq : ∀ a : Nat, a < H.size → ¬ Fr sz0 a → H1[a]? = H[a]?) : Am sz0 sa U H1 := ⟨h.1.kept hq, h.2.1.kept hq, h.2.2.1.kept hq, h.2.2.2.kept hq⟩
theorem Am.moved {sz0 : Nat} {sa : Nat → Nat} {u U : State} {H : Heap} (hvm : u.vm.Alike U.vm) (h : Am sz0 sa u H) : Am sz0 sa U H := ⟨h.1.moved hvm, h.2.1.moved hvm, h.2.2.1.moved hvm, h.2.2.2.moved hvm⟩
def En (D : va_G) (cy : Nat → ClassId) (sz0 : Nat) (sa : Nat → Nat) (U : State) : Prop := va_K D vwCl (TY cy) U ∧ sz0 ≤ U.heap.size ∧ Am sz0 sa U U.heap ∧ Wm sa U
/-- a method's start: the world ws, and what is always there -/
def PcW (D : va_G) (cy : Nat → ClassId) (sz0 : Nat) (sa : Nat → Nat) (av : List Value) (ws : va_W) (sz : Nat) : Array Value → State → Prop := va_Pc av (fun U => U.heap.size = sz ∧ va_P D vwCl ws U.heap ∧ va_D (Fr sz0) ws ∧ En D cy sz0 sa U)
/-- .. and the world behind it -/
def BW (D : va_G) (ws : va_W) (A : Nat → Prop) (t : State) : Prop := va_P D vwCl ws t.heap ∧ va_D A ws
theorem PcW.blind {D : va_G} {cy : Nat → ClassId} {sz0 : Nat} {sa : Nat → Nat} {av : List Value} {ws : va_W} {sz : Nat} : FrameBlind (PcW D cy sz0 sa av ws sz) := fun a U g mk q => by
  obtain ⟨q0, q1, q2, q3, q4, q5, q6, q7⟩ := q
  exact ⟨q0, q1, q2, q3, va_K.moved (u := U) (U := U.calling g mk a) (Vm.Alike.refl U.vm) q4, q5, Am.moved (u := U) (U := U.calling g mk a) (Vm.Alike.refl U.vm) q6, Wm.same (u := U) (U := U.calling g mk a) rfl q7⟩
theorem PcW.mk {D : va_G} {cy : Nat → ClassId} {sz0 : Nat} {sa : Nat → Nat} {av : List Value} {ws : va_W} {s : State} {H : Heap} {A : Nat → Prop} {locs : List Loc} (hE : En D cy sz0 sa s) (hS : va_S A s.heap H locs) (hAF : ∀ q, A q → Fr sz0 q) (hP : va_P D vwCl ws H) (hD : va_D A ws) :
    ∀ U : State, U.heap = H → s.WarmedH U.vm → PcW D cy sz0 sa av ws H.size av.toArray U := fun U hU hW => by
  refine ⟨rfl, by rw [hU], by rw [hU]; exact hP, hD.weaken (fun _ q _ h => hAF q.1 h), va_K.moved hW.alike hE.1, by rw [hU]; exact Nat.le_trans hE.2.1 hS.1, ?_, Wm.warm hW hE.2.2.2⟩
  rw [hU]
  exact (hE.2.2.1.kept (fun a h1 h2 => hS.2.1 a h1 (fun h => h2 (hAF a h)))).moved hW.alike
theorem frA {sz0 sz : Nat} {ws : va_W} (hD : va_D (Fr sz0) ws) (hz : sz0 ≤ sz) : ∀ q, va_A ws sz q → Fr sz0 q := by
  intro q h
  rcases h with ⟨k, e, h⟩ | h
  · exact hD.2 k (q, e) h
  · exact Nat.le_trans hz h
theorem va_RA_inj {U : State} {a b : ClassId} {ty : FieldType} (h1 : va_RA U a ty) (h2 : va_RA U b ty) : a = b := by
  cases ty with
  | object C =>
    obtain ⟨_, _, _, _, _, e1⟩ := h1
    obtain ⟨_, _, _, _, _, e2⟩ := h2
    exact Option.some.inj (e1.symm.trans e2)
  | _ =>
    have e1 : U.vm.findClass _ = some a := h1
    have e2 : U.vm.findClass _ = some b := h2
    exact Option.some.inj (e1.symm.trans e2)
theorem za_0 (n : Nat) : ∀ cA : ClassId, vp_cell cA (n, .inl (fun _ => 0)) = arrV cA n (fun _ => defaultValue .int) := fun _ => rfl
theorem za_1 (n : Nat) : ∀ cA : ClassId, vp_cell cA (n, .inr (.inl (fun _ => 0))) = arrV cA n (fun _ => defaultValue .long) := fun _ => rfl
theorem za_2 (n : Nat) : ∀ cA : ClassId, vp_cell cA (n, .inl (fun _ => 0)) = arrV cA n (fun _ => defaultValue .boolean) := fun _ => rfl
theorem za_3 (n : Nat) : ∀ cA : ClassId, vp_cell cA (n, .inr (.inr (.inr (.inl (fun _ => 0))))) = arrV cA n (fun _ => defaultValue .double) := fun _ => rfl
theorem za_4 (n : Nat) : ∀ cA : ClassId, vp_cell cA (n, .inl (fun _ => 0)) = arrV cA n (fun _ => defaultValue .char) := fun _ => rfl
theorem za_5 (n : Nat) : ∀ cA : ClassId, vp_cell cA (n, .inl (fun _ => 0)) = arrV cA n (fun _ => defaultValue .byte) := fun _ => rfl
section GA
variable {p : Program} {l : Launch} {e : Env} {R : Room} {s : State} {m : MethodId} {args : Array Value} {below : List Frame} {meth : Method} {c : Code} {H : Heap} {locs : List Loc} {cells slots : Nat} {Q : State → Prop}
variable {cc : ByteArray} {pc : Nat} {ls : Array Slot} {rest : List Value} {A : Nat → Prop} {H0 : Heap} {D : va_G} {cl : List vw_C} {ws : va_W} {tys : List (ClassId × FieldType)}
theorem g_newa (hexec : p.tables.exec = Jvm.exec) (hb : c.code = cc) {atype : ArrayType} (harr : (Cond.arrayClass (newarray.typeOf atype)).before args s = true) {ty : FieldType} (hty : newarray.typeOf atype = ty) (hK : va_K D cl tys s) (hP : va_P D cl ws H) (hD : va_D A ws) (hS : va_S A H0 H locs) (hA : ∀ q, H0.size ≤ q → A q)
    (t0 : Nat) {cA0 : ClassId} (ht : tys[t0]? = some (cA0, ty)) {n : Int32} {N' : Nat} {a0 : vp_A} (ha : ∀ cA : ClassId, vp_cell cA a0 = arrV cA N' (fun _ => defaultValue ty)) (hn : ¬ n < 0) (hN : n.toNatClampNeg = N') (hbytes : N' * componentBytes ty ≤ 536870912) (hcells : cells + 1 ≤ R.cells) (hslots : slots + N' ≤ R.slots) (hdg : decode cc pc = .ok (.newarray atype, 2))
    (kk : ∀ (q : Nat) (H1 : Heap), va_P D cl (ws ++ [(q, .inl (cA0, a0))]) H1 → va_D A (ws ++ [(q, .inl (cA0, a0))]) → va_S A H0 H1 locs →
      W p l e R s m args below meth c H1 locs (cells + 1) (slots + N') Q (F0 m (pc + 2) ls (.ref q :: rest))) : W p l e R s m args below meth c H locs cells slots Q (F0 m pc ls (.int n :: rest)) := by
  refine va_newa hexec hb harr hty hK hP hD hS hA ha hn hN hbytes hcells hslots hdg (fun q cA H1 hK1 hP1 hD1 hS1 => ?_)
  have h1 : va_RA s cA0 ty := (hK.2 t0 _ ht).2
  have h2 : va_RA s cA ty := (hK1.2 tys.length (cA, ty) (by rw [List.getElem?_append_right (Nat.le_refl _)]; simp)).2
  cases va_RA_inj h1 h2
  exact kk q H1 hP1 hD1 hS1
theorem g_newq (hexec : p.tables.exec = Jvm.exec) (hb : c.code = cc) {own C : String} {index : Nat} (hown : s.vm.findClass own = some m.cls) (hclink : (Cond.classLink own index C).before args s = true) (hover : va_AO C s) (hK : va_K D cl tys s) (hP : va_P D cl ws H) (hD : va_D A ws) (hS : va_S A H0 H locs) (hA : ∀ q, H0.size ≤ q → A q)
    (t0 : Nat) {cA0 : ClassId} (ht : tys[t0]? = some (cA0, .object C)) {n : Int32} {N' : Nat} (hn : ¬ n < 0) (hN : n.toNatClampNeg = N') (hbytes : N' * 4 ≤ 536870912) (hcells : cells + 1 ≤ R.cells) (hslots : slots + N' ≤ R.slots) (hdg : decode cc pc = .ok (.anewarray index, 3))
    (kk : ∀ (q : Nat) (H1 : Heap), va_P D cl (ws ++ [(q, .inl (cA0, N', .inr (.inr (.inr (.inr (fun _ => none))))))]) H1 → va_D A (ws ++ [(q, .inl (cA0, N', .inr (.inr (.inr (.inr (fun _ => none))))))]) → va_S A H0 H1 locs →
      W p l e R s m args below meth c H1 locs (cells + 1) (slots + N') Q (F0 m (pc + 3) ls (.ref q :: rest))) : W p l e R s m args below meth c H locs cells slots Q (F0 m pc ls (.int n :: rest)) := by
  refine va_newq hexec hb hown hclink hover hK hP hD hS hA hn hN hbytes hcells hslots hdg (fun q cA H1 hK1 hP1 hD1 hS1 => ?_)
  have h1 : va_RA s cA0 (.object C) := (hK.2 t0 _ ht).2
  have h2 : va_RA s cA (.object C) := (hK1.2 tys.length (cA, .object C) (by rw [List.getElem?_append_right (Nat.le_refl _)]; simp)).2
  cases va_RA_inj h1 h2
  exact kk q H1 hP1 hD1 hS1
end GA
theorem z_lt {x y : Int32} (h : x < y) : x.toInt < y.toInt := Int32.lt_iff_toInt_lt.mp h
theorem z_le {x y : Int32} (h : x ≤ y) : x.toInt ≤ y.toInt := Int32.le_iff_toInt_le.mp h
theorem z_nlt {x y : Int32} (h : ¬ x < y) : y.toInt ≤ x.toInt := Int.not_lt.mp (fun q => h (Int32.lt_iff_toInt_lt.mpr q))
theorem z_nle {x y : Int32} (h : ¬ x ≤ y) : y.toInt < x.toInt := Int.not_le.mp (fun q => h (Int32.le_iff_toInt_le.mpr q))
theorem z_eq {x y : Int32} (h : x = y) : x.toInt = y.toInt := by rw [h]
theorem z_ne {x y : Int32} (h : ¬ x = y) : ¬ x.toInt = y.toInt := fun q => h (Int32.toInt_inj.mp q)
theorem thr_no (ic : Nat) : ∀ w ∈ (vx_atS RX11 53 tIAE tSup).filter (fun w => !goodWord w), w ∈ thrB tIAE := by decide +kernel
/-- 'throw new IllegalArgumentException(text)' in a method of PhraseDesk -/
theorem g_iae {p : Program} {l : Launch} {e : Env} {R : Room} {s : State} {m : MethodId} {args : Array Value} {below : List Frame} {meth : Method} {c : Code} {H : Heap} {locs : List Loc} {cells slots : Nat} {Qc : Array Value → State → Outcome → State → Prop} {XC : String → State → State → Prop} {free : Addr → Prop} {mc ms : Nat} {rest : List Value} {ls : Array Slot}
    {cc : ByteArray} {pc : Nat} (hexec : p.tables.exec = Jvm.exec) (hb : c.code = cc) (hl : l.stackTraces = false) {Ts : List Cond} (hts : ∀ w ∈ Ts, w.before args s = true) {text : String} {is : Nat} {D : va_G} {cy : Nat → ClassId} {sz0 : Nat} {sa : Nat → Nat} {A : Nat → Prop} (hE : En D cy sz0 sa s) (hAF : ∀ q, A q → Fr sz0 q)
    (hown : s.vm.findClass RX11 = some m.cls) (hk : Cond.classLink RX11 49 tIAE ∈ Ts) (hini : Cond.initialized tIAE ∈ Ts) (htx : (is, text) ∈ TXT) (hgd : ∀ w ∈ (vx_atS RX11 53 tIAE tSup).filter goodWord, w ∈ Ts) (hS : va_S A s.heap H locs) (hsize : ls.size = c.maxLocals)
    (d0 : decode cc pc = .ok (.new 49, 3)) (d3 : decode cc (pc + 3) = .ok (.dup, 1)) (d4 : decode cc (pc + 4) = .ok (.ldc is, 2)) (d6 : decode cc (pc + 6) = .ok (.invokespecial 53, 3)) (d9 : decode cc (pc + 9) = .ok (.athrow, 1))
    (hout : ∀ x ∈ c.exceptionTable.toList, False) (hRf : 5 < R.frames) (hRl : (rest.map fun v => v.category).sum + 82 ≤ R.locals) (hRc : cells + 1 ≤ R.cells) (hRs : slots + 6 ≤ R.slots) (hlocks : meth.locks = false)
    (hx : ∀ t : State, s.vm.Alike t.vm → H.size ≤ t.heap.size → (∀ q : Nat, q < H.size → t.heap[q]? = H[q]?) → XC tIAE s t) (hf : ∀ z ∈ locs, free z.base) (hc : cells + 1 ≤ mc) (hs : slots + 6 ≤ ms) :
    W p l e R s m args below meth c H locs cells slots (vx_MQ below Qc XC args s mc ms free) (F0 m pc ls rest) := by
  have hU : vx_Zq Bundle.tN "UNASSIGNED_STACK" Bundle.steD A s s.heap := hE.2.2.1.2.1.narrow hAF
  have hN : vx_Zq Bundle.tN "SUPPRESSED_SENTINEL" Bundle.listD A s s.heap := hE.2.2.1.2.2.1.narrow hAF
  have hstr : vk_R RX11 is text (sa is) s := hE.2.2.2.1 _ htx
  obtain ⟨b1, b2, b3, b4, -⟩ := hE.2.2.2.2.2.1
  have hat : ∀ w ∈ vx_atS RX11 53 tIAE tSup, w.before args s = true := vx_hat (fun w h => hts w (hgd w h)) (thr_no 0) (vx_c (va_Nw.use rfl b1) (vx_c (va_Nw.use rfl b2) (vx_c (va_Nw.use rfl b3) (vx_c (va_Nw.use rfl b4) vx_n))))
  exact vx_throwS hexec hb hl hown (by decide +kernel) (by decide +kernel) (hts _ hk) (hts _ hini) hstr hat (by decide +kernel) hU hN hS hsize d0 d3 d4 d6 d9 (fun x hx => absurd (hout x hx) id) (by simpa [tSup] using hRf) (by simpa [tSup] using hRl) hRc hRs hlocks hx hf hc hs
end
section
set_option maxHeartbeats 600000 in
set_option maxRecDepth 100000 in
theorem C_J5_init_d00df_1 (l : Launch) (D : va_G) (cy : Nat → ClassId) (sz0 : Nat) (sa : Nat → Nat) (a0 : Nat) (sz : Nat)  : Met l yJ5_init_d00df wsJ5_init_d00df ({ frames := 1, cells := 1, slots := 16, locals := 20 }) (PcW D cy sz0 sa [.ref a0, .int 16] [(a0, .inr (1, [.null, .int 0, .int 0, .int 0]))] sz) (va_Qv (fun (u : Unit) => True) (fun (u : Unit) (t : State) => ∃ (n0 : Nat), BW D [(a0, .inr (1, [.ref n0, .int 0, .int 0, .int 0])), (n0, .inl (cy 5, 16, .inl (fun _ => 0)))] (va_A [(a0, .inr (1, [.null, .int 0, .int 0, .int 0]))] sz) t) (va_A [(a0, .inr (1, [.null, .int 0, .int 0, .int 0]))] sz)) 1 16 (va_A [(a0, .inr (1, [.null, .int 0, .int 0, .int 0]))] sz) := by
  refine Met.ofW (cc := cJ5_init_d00df) (maxL := 2) (ret := none) (by decide) rfl ?_
  intro p e s m args below meth c s₁ B hml hv
  obtain ⟨rfl, hsz, hP, hD0, hE⟩ := hv
  have hx := B.exec
  have hb := B.bytes
  have hr := B.returns
  have hts := atoms_spec (ws := wsJ5_init_d00df) B.pre
  have hown : s.vm.findClass RJ5 = some m.cls := findClass_of_methodNamed B.named
  have hlocks := B.notSynchronized
  have hin : meth.name = "<init>" := (name_of_methodNamed B.named B.method).1
  subst hsz
  have hK := hE.1
  have hAm := hE.2.2.1
  have hWm := hE.2.2.2
  have hAO := hWm.2.2.2.1
  have hD := hD0.self (sz := s.heap.size)
  have hAF := frA hD0 hE.2.1
  generalize hAe : va_A [(a0, .inr (1, [.null, .int 0, .int 0, .int 0]))] s.heap.size = A at hD hAF ⊢
  have hA : ∀ q : Nat, s.heap.size ≤ q → A q := fun q h => by rw [← hAe]; exact Or.inr h
  have hS : va_S A s.heap s.heap [] := va_S.rf
  have hl := lv_entry ([.ref a0, .int 16]) (n := 2) (Nat.le_of_ble_eq_true rfl)
  rw [lg_entry_eq]
  generalize (lg_sl ([.ref a0, .int 16]) ++ List.replicate (2 - (lg_sl ([.ref a0, .int 16])).length) Slot.unset).toArray = ls at hl ⊢
  have hl : lv_has ls 2 [(0, .ref a0), (1, .int 16)] := hl
  have hP : va_P D vwCl [(a0, .inr (1, [.null, .int 0, .int 0, .int 0]))] s.heap := hP
  refine lv_aload_n hx hb dJ5_init_d00df_0 rfl (lv_at hl 0 rfl) ?_
  refine W.objInit hx hb hown (hts (.methodLink RJ5 3 objectInit) (List.mem_of_getElem? (i := 1) rfl)) (hts (.instanceMethod objectInit) (List.mem_of_getElem? (i := 2) rfl)) (hts (.code objectInit ⟨#[0xb1]⟩ 1 none) (List.mem_of_getElem? (i := 3) rfl)) rfl (by rw [hml]; exact hl.1) rfl dJ5_init_d00df_1 (Nat.le_of_ble_eq_true rfl) (Nat.le_of_ble_eq_true rfl) ?_
  refine W.eq (g2 := F0 m 4 ls []) rfl ?_
  refine va_gets (C := "java/lang/String") (n := "COMPACT_STRINGS") (d := "Z") (A := A) (v := .int 1) hx hb (hAm.1.narrow hAF) hS hown (hts (.fieldLink RJ5 18 "java/lang/String" "COMPACT_STRINGS" "Z") (List.mem_of_getElem? (i := 4) rfl)) (fun _ h9 => h9) dJ5_init_d00df_4 ?_
  refine lv_if_eq (tgt := 25) hx hb dJ5_init_d00df_7 (by decide) (fun c1 => absurd c1 (by decide +kernel)) (fun _ => ?_)
  refine lv_aload_n hx hb dJ5_init_d00df_10 rfl (lv_at hl 0 rfl) ?_
  refine lv_iload_n hx hb dJ5_init_d00df_11 rfl (lv_at hl 1 rfl) ?_
  refine g_newa (atype := .byte) (ty := .byte) hx hb (hts (.arrayClass .byte) (List.mem_of_getElem? (i := 5) rfl)) rfl hK hP hD hS hA 5 rfl (a0 := (16, .inl (fun _ => 0))) (N' := 16) (za_5 16) (by decide +kernel) (by decide +kernel) (by decide +kernel) (Nat.le_of_ble_eq_true rfl) (Nat.le_of_ble_eq_true rfl) dJ5_init_d00df_12 (fun q2 H hP hD hS => ?_)
  have hP : va_P D vwCl [(a0, .inr (1, [.null, .int 0, .int 0, .int 0])), (q2, .inl (cy 5, 16, .inl (fun _ => 0)))] H := hP
  have hD : va_D A [(a0, .inr (1, [.null, .int 0, .int 0, .int 0])), (q2, .inl (cy 5, 16, .inl (fun _ => 0)))] := hD
  refine W.widen (k := 1) (n := 16) (Nat.le_of_ble_eq_true rfl) (Nat.le_of_ble_eq_true rfl) ?_
  refine va_put (D := D) (ci := 1) (v := .ref q2) (ty := .array .byte) (C := RJ4) (T := TJ4) (N := 4) hx hb hts (fun _ h => List.mem_cons_of_mem _ (List.mem_append_right _ h)) tyJ4 tyJ4_ok nmJ4 hown hK hP hD hS 0 rfl rfl 0 (by decide) (hts (.fieldLink RJ5 15 "java/lang/AbstractStringBuilder" "value" "[B") (List.mem_of_getElem? (i := 6) rfl)) (fun _ h9 => h9) rfl (by decide +kernel) rfl rfl (Nat.le_of_ble_eq_true rfl) dJ5_init_d00df_14 (fun H locs hP hD hS => ?_)
  have hP : va_P D vwCl [(a0, .inr (1, [.ref q2, .int 0, .int 0, .int 0])), (q2, .inl (cy 5, 16, .inl (fun _ => 0)))] H := hP
  have hD : va_D A [(a0, .inr (1, [.ref q2, .int 0, .int 0, .int 0])), (q2, .inl (cy 5, 16, .inl (fun _ => 0)))] := hD
  refine lv_aload_n hx hb dJ5_init_d00df_17 rfl (lv_at hl 0 rfl) ?_
  refine lv_iconst (v := 0) hx hb dJ5_init_d00df_18 (by decide +kernel) ?_
  refine va_put (D := D) (ci := 1) (v := .int 0) (ty := .byte) (C := RJ4) (T := TJ4) (N := 4) hx hb hts (fun _ h => List.mem_cons_of_mem _ (List.mem_append_right _ h)) tyJ4 tyJ4_ok nmJ4 hown hK hP hD hS 0 rfl rfl 1 (by decide) (hts (.fieldLink RJ5 22 "java/lang/AbstractStringBuilder" "coder" "B") (List.mem_of_getElem? (i := 7) rfl)) (fun _ h9 => h9) rfl (by decide +kernel) rfl rfl (Nat.le_of_ble_eq_true rfl) dJ5_init_d00df_19 (fun H locs hP hD hS => ?_)
  have hP : va_P D vwCl [(a0, .inr (1, [.ref q2, .int 0, .int 0, .int 0])), (q2, .inl (cy 5, 16, .inl (fun _ => 0)))] H := hP
  have hD : va_D A [(a0, .inr (1, [.ref q2, .int 0, .int 0, .int 0])), (q2, .inl (cy 5, 16, .inl (fun _ => 0)))] := hD
  refine lv_goto (tgt := 38) hx hb dJ5_init_d00df_22 (by decide) ?_
  refine W.widen (k := 1) (n := 16) (Nat.le_of_ble_eq_true rfl) (Nat.le_of_ble_eq_true rfl) ?_
  have hP9 := hP.sub (ws' := [(a0, .inr (1, [.ref q2, .int 0, .int 0, .int 0])), (q2, .inl (cy 5, 16, .inl (fun _ => 0)))]) [0, 1] rfl
  have hD9 := hD.sub (ws' := [(a0, .inr (1, [.ref q2, .int 0, .int 0, .int 0])), (q2, .inl (cy 5, 16, .inl (fun _ => 0)))]) [0, 1] (by decide) rfl
  exact W.vret hx hb hr (fun t ht hW => ⟨⟨(), rfl, trivial, ⟨q2, by rw [ht]; exact hP9, hD9⟩⟩, hS.F ht⟩) hS.2.2 dJ5_init_d00df_38


set_option maxHeartbeats 600000 in
set_option maxRecDepth 100000 in
theorem C_J4_init_da8c8_1 (l : Launch) (D : va_G) (cy : Nat → ClassId) (sz0 : Nat) (sa : Nat → Nat) (a0 : Nat) (sz : Nat)  : Met l yJ4_init_da8c8 wsJ4_init_da8c8 ({ frames := 2, cells := 1, slots := 16, locals := 41 }) (PcW D cy sz0 sa [.ref a0] [(a0, .inr (1, [.null, .int 0, .int 0, .int 0]))] sz) (va_Qv (fun (u : Unit) => True) (fun (u : Unit) (t : State) => ∃ (n0 : Nat), BW D [(a0, .inr (1, [.ref n0, .int 0, .int 0, .int 0])), (n0, .inl (cy 5, 16, .inl (fun _ => 0)))] (va_A [(a0, .inr (1, [.null, .int 0, .int 0, .int 0]))] sz) t) (va_A [(a0, .inr (1, [.null, .int 0, .int 0, .int 0]))] sz)) 1 16 (va_A [(a0, .inr (1, [.null, .int 0, .int 0, .int 0]))] sz) := by
  refine Met.ofW (cc := cJ4_init_da8c8) (maxL := 1) (ret := none) (by decide) rfl ?_
  intro p e s m args below meth c s₁ B hml hv
  obtain ⟨rfl, hsz, hP, hD0, hE⟩ := hv
  have hx := B.exec
  have hb := B.bytes
  have hr := B.returns
  have hts := atoms_spec (ws := wsJ4_init_da8c8) B.pre
  have hown : s.vm.findClass RJ4 = some m.cls := findClass_of_methodNamed B.named
  have hlocks := B.notSynchronized
  have hin : meth.name = "<init>" := (name_of_methodNamed B.named B.method).1
  subst hsz
  have hK := hE.1
  have hAm := hE.2.2.1
  have hWm := hE.2.2.2
  have hAO := hWm.2.2.2.1
  have hD := hD0.self (sz := s.heap.size)
  have hAF := frA hD0 hE.2.1
  generalize hAe : va_A [(a0, .inr (1, [.null, .int 0, .int 0, .int 0]))] s.heap.size = A at hD hAF ⊢
  have hA : ∀ q : Nat, s.heap.size ≤ q → A q := fun q h => by rw [← hAe]; exact Or.inr h
  have hS : va_S A s.heap s.heap [] := va_S.rf
  have hl := lv_entry ([.ref a0]) (n := 1) (Nat.le_of_ble_eq_true rfl)
  rw [lg_entry_eq]
  generalize (lg_sl ([.ref a0]) ++ List.replicate (1 - (lg_sl ([.ref a0])).length) Slot.unset).toArray = ls at hl ⊢
  have hl : lv_has ls 1 [(0, .ref a0)] := hl
  have hP : va_P D vwCl [(a0, .inr (1, [.null, .int 0, .int 0, .int 0]))] s.heap := hP
  refine lv_aload_n hx hb dJ4_init_da8c8_0 rfl (lv_at hl 0 rfl) ?_
  refine lv_bipush (v := 16) hx hb dJ4_init_da8c8_1 (by decide +kernel) ?_
  have hPc := hP.sub (ws' := [(a0, .inr (1, [.null, .int 0, .int 0, .int 0]))]) [0] rfl
  have hDc := hD.sub (ws' := [(a0, .inr (1, [.null, .int 0, .int 0, .int 0]))]) [0] (by decide) rfl
  have hFc := va_free (wc := [(a0, .inr (1, [.null, .int 0, .int 0, .int 0]))]) hD hS hA [0] rfl
  refine va_callv (va_runI (As := [.int 16]) (rest := []) ⟨hx, hb, hml, hown, hts⟩ (C_J5_init_d00df_1 l D cy sz0 sa a0 s.heap.size) (cwI 1 hts gJ4_init_da8c8_J5_init_d00df rfl rfl rfl (hts (.initialized RJ5) (List.mem_of_getElem? (i := 3) rfl)) (hts (.methodLink RJ4 1 yJ5_init_d00df) (List.mem_of_getElem? (i := 1) rfl)) (hts (.instanceMethod yJ5_init_d00df) (List.mem_of_getElem? (i := 2) rfl)) rfl (by decide +kernel) ⟨Nat.le_of_ble_eq_true rfl, Nat.le_of_ble_eq_true rfl⟩) ⟨PcW.blind, PcW.mk hE hS hAF hPc hDc⟩ rfl rfl hl.1 rfl (lv_room (Nat.le_of_ble_eq_true rfl)) dJ4_init_da8c8_3 ⟨Nat.le_of_ble_eq_true rfl, Nat.le_of_ble_eq_true rfl⟩) hS (fun q _ h => hFc q h) hFc (fun u t H1 locs ht hvm hw hB hz1 hk1 hS => ?_)
  obtain ⟨q1, hP1, hD1⟩ := hB
  rw [ht] at hP1
  have hP1 : va_P D vwCl [(a0, .inr (1, [.ref q1, .int 0, .int 0, .int 0])), (q1, .inl (cy 5, 16, .inl (fun _ => 0)))] H1 := hP1
  obtain ⟨hP, hD⟩ := va_join (wr := []) (w1 := [(a0, .inr (1, [.ref q1, .int 0, .int 0, .int 0])), (q1, .inl (cy 5, 16, .inl (fun _ => 0)))]) hP hD [0] [] rfl rfl (by decide) (by decide) hk1 hFc hP1 hD1
  clear hP1 hD1 hPc hDc hFc hk1 hz1
  generalize H1 = H at hP hS ⊢
  have hP : va_P D vwCl [(a0, .inr (1, [.ref q1, .int 0, .int 0, .int 0])), (q1, .inl (cy 5, 16, .inl (fun _ => 0)))] H := hP
  have hD : va_D A [(a0, .inr (1, [.ref q1, .int 0, .int 0, .int 0])), (q1, .inl (cy 5, 16, .inl (fun _ => 0)))] := hD
  refine W.widen (k := 1) (n := 16) (Nat.le_of_ble_eq_true rfl) (Nat.le_of_ble_eq_true rfl) ?_
  refine W.widen (k := 1) (n := 16) (Nat.le_of_ble_eq_true rfl) (Nat.le_of_ble_eq_true rfl) ?_
  have hP9 := hP.sub (ws' := [(a0, .inr (1, [.ref q1, .int 0, .int 0, .int 0])), (q1, .inl (cy 5, 16, .inl (fun _ => 0)))]) [0, 1] rfl
  have hD9 := hD.sub (ws' := [(a0, .inr (1, [.ref q1, .int 0, .int 0, .int 0])), (q1, .inl (cy 5, 16, .inl (fun _ => 0)))]) [0, 1] (by decide) rfl
  exact W.vret hx hb hr (fun t ht hW => ⟨⟨(), rfl, trivial, ⟨q1, by rw [ht]; exact hP9, hD9⟩⟩, hS.F ht⟩) hS.2.2 dJ4_init_da8c8_6


set_option maxHeartbeats 600000 in
set_option maxRecDepth 100000 in
theorem C_X4_init_1 (l : Launch) (D : va_G) (cy : Nat → ClassId) (sz0 : Nat) (sa : Nat → Nat) (a0 : Nat) (sz : Nat)  : Met l yX4_init wsX4_init ({ frames := 3, cells := 7, slots := 224, locals := 61 }) (PcW D cy sz0 sa [.ref a0] [(a0, .inr (6, [.null, .int 0, .null, .null, .null, .null, .int 0, .null]))] sz) (va_Qv (fun (u : Unit) => True) (fun (u : Unit) (t : State) => ∃ (n0 n1 n2 n3 n4 n5 n6 : Nat), BW D [(a0, .inr (6, [.ref n0, .int 0, .ref n1, .ref n2, .ref n3, .ref n4, .int 0, .ref n5])), (n0, .inl (cy 4, 40, .inl (fun _ => 0))), (n1, .inl (cy 0, 41, .inl (fun _ => 0))), (n2, .inl (cy 0, 41, .inl (fun _ => 0))), (n3, .inl (cy 0, 41, .inl (fun _ => 0))), (n4, .inl (cy 6, 41, .inr (.inr (.inr (.inr (fun _ => none)))))), (n5, .inr (1, [.ref n6, .int 0, .int 0, .int 0])), (n6, .inl (cy 5, 16, .inl (fun _ => 0)))] (va_A [(a0, .inr (6, [.null, .int 0, .null, .null, .null, .null, .int 0, .null]))] sz) t) (va_A [(a0, .inr (6, [.null, .int 0, .null, .null, .null, .null, .int 0, .null]))] sz)) 7 224 (va_A [(a0, .inr (6, [.null, .int 0, .null, .null, .null, .null, .int 0, .null]))] sz) := by
  refine Met.ofW (cc := cX4_init) (maxL := 1) (ret := none) (by decide) rfl ?_
  intro p e s m args below meth c s₁ B hml hv
  obtain ⟨rfl, hsz, hP, hD0, hE⟩ := hv
  have hx := B.exec
  have hb := B.bytes
  have hr := B.returns
  have hts := atoms_spec (ws := wsX4_init) B.pre
  have hown : s.vm.findClass RX4 = some m.cls := findClass_of_methodNamed B.named
  have hlocks := B.notSynchronized
  have hin : meth.name = "<init>" := (name_of_methodNamed B.named B.method).1
  subst hsz
  have hK := hE.1
  have hAm := hE.2.2.1
  have hWm := hE.2.2.2
  have hAO := hWm.2.2.2.1
  have hD := hD0.self (sz := s.heap.size)
  have hAF := frA hD0 hE.2.1
  generalize hAe : va_A [(a0, .inr (6, [.null, .int 0, .null, .null, .null, .null, .int 0, .null]))] s.heap.size = A at hD hAF ⊢
  have hA : ∀ q : Nat, s.heap.size ≤ q → A q := fun q h => by rw [← hAe]; exact Or.inr h
  have hS : va_S A s.heap s.heap [] := va_S.rf
  have hl := lv_entry ([.ref a0]) (n := 1) (Nat.le_of_ble_eq_true rfl)
  rw [lg_entry_eq]
  generalize (lg_sl ([.ref a0]) ++ List.replicate (1 - (lg_sl ([.ref a0])).length) Slot.unset).toArray = ls at hl ⊢
  have hl : lv_has ls 1 [(0, .ref a0)] := hl
  have hP : va_P D vwCl [(a0, .inr (6, [.null, .int 0, .null, .null, .null, .null, .int 0, .null]))] s.heap := hP
  refine lv_aload_n hx hb dX4_init_0 rfl (lv_at hl 0 rfl) ?_
  refine W.objInit hx hb hown (hts (.methodLink RX4 3 objectInit) (List.mem_of_getElem? (i := 1) rfl)) (hts (.instanceMethod objectInit) (List.mem_of_getElem? (i := 2) rfl)) (hts (.code objectInit ⟨#[0xb1]⟩ 1 none) (List.mem_of_getElem? (i := 3) rfl)) rfl (by rw [hml]; exact hl.1) rfl dX4_init_1 (Nat.le_of_ble_eq_true rfl) (Nat.le_of_ble_eq_true rfl) ?_
  refine W.eq (g2 := F0 m 4 ls []) rfl ?_
  refine lv_aload_n hx hb dX4_init_4 rfl (lv_at hl 0 rfl) ?_
  refine lv_bipush (v := 40) hx hb dX4_init_5 (by decide +kernel) ?_
  refine g_newa (atype := .char) (ty := .char) hx hb (hts (.arrayClass .char) (List.mem_of_getElem? (i := 4) rfl)) rfl hK hP hD hS hA 4 rfl (a0 := (40, .inl (fun _ => 0))) (N' := 40) (za_4 40) (by decide +kernel) (by decide +kernel) (by decide +kernel) (Nat.le_of_ble_eq_true rfl) (Nat.le_of_ble_eq_true rfl) dX4_init_7 (fun q1 H hP hD hS => ?_)
  have hP : va_P D vwCl [(a0, .inr (6, [.null, .int 0, .null, .null, .null, .null, .int 0, .null])), (q1, .inl (cy 4, 40, .inl (fun _ => 0)))] H := hP
  have hD : va_D A [(a0, .inr (6, [.null, .int 0, .null, .null, .null, .null, .int 0, .null])), (q1, .inl (cy 4, 40, .inl (fun _ => 0)))] := hD
  refine W.widen (k := 1) (n := 40) (Nat.le_of_ble_eq_true rfl) (Nat.le_of_ble_eq_true rfl) ?_
  refine va_putF (D := D) (ci := 6) (v := .ref q1) (ty := .array .char) (C := RX4) (T := TX4) (N := 8) hx hb hts (fun _ h => List.mem_cons_of_mem _ (List.mem_append_left _ (List.mem_append_right _ h))) tyX4 tyX4_ok nmX4 hown hK hP hD hS 0 rfl rfl 0 (by decide) (hts (.fieldLink RX4 9 "PhraseDesk$Lexer" "letters" "[C") (List.mem_of_getElem? (i := 5) rfl)) (fun _ h9 => h9) rfl hin rfl (by decide +kernel) rfl rfl (Nat.le_of_ble_eq_true rfl) dX4_init_9 (fun H locs hP hD hS => ?_)
  have hP : va_P D vwCl [(a0, .inr (6, [.ref q1, .int 0, .null, .null, .null, .null, .int 0, .null])), (q1, .inl (cy 4, 40, .inl (fun _ => 0)))] H := hP
  have hD : va_D A [(a0, .inr (6, [.ref q1, .int 0, .null, .null, .null, .null, .int 0, .null])), (q1, .inl (cy 4, 40, .inl (fun _ => 0)))] := hD
  refine lv_aload_n hx hb dX4_init_12 rfl (lv_at hl 0 rfl) ?_
  refine lv_bipush (v := 41) hx hb dX4_init_13 (by decide +kernel) ?_
  refine g_newa (atype := .int) (ty := .int) hx hb (hts (.arrayClass .int) (List.mem_of_getElem? (i := 6) rfl)) rfl hK hP hD hS hA 0 rfl (a0 := (41, .inl (fun _ => 0))) (N' := 41) (za_0 41) (by decide +kernel) (by decide +kernel) (by decide +kernel) (Nat.le_of_ble_eq_true rfl) (Nat.le_of_ble_eq_true rfl) dX4_init_15 (fun q2 H hP hD hS => ?_)
  have hP : va_P D vwCl [(a0, .inr (6, [.ref q1, .int 0, .null, .null, .null, .null, .int 0, .null])), (q1, .inl (cy 4, 40, .inl (fun _ => 0))), (q2, .inl (cy 0, 41, .inl (fun _ => 0)))] H := hP
  have hD : va_D A [(a0, .inr (6, [.ref q1, .int 0, .null, .null, .null, .null, .int 0, .null])), (q1, .inl (cy 4, 40, .inl (fun _ => 0))), (q2, .inl (cy 0, 41, .inl (fun _ => 0)))] := hD
  refine W.widen (k := 2) (n := 81) (Nat.le_of_ble_eq_true rfl) (Nat.le_of_ble_eq_true rfl) ?_
  refine va_putF (D := D) (ci := 6) (v := .ref q2) (ty := .array .int) (C := RX4) (T := TX4) (N := 8) hx hb hts (fun _ h => List.mem_cons_of_mem _ (List.mem_append_left _ (List.mem_append_right _ h))) tyX4 tyX4_ok nmX4 hown hK hP hD hS 0 rfl rfl 2 (by decide) (hts (.fieldLink RX4 15 "PhraseDesk$Lexer" "kinds" "[I") (List.mem_of_getElem? (i := 7) rfl)) (fun _ h9 => h9) rfl hin rfl (by decide +kernel) rfl rfl (Nat.le_of_ble_eq_true rfl) dX4_init_17 (fun H locs hP hD hS => ?_)
  have hP : va_P D vwCl [(a0, .inr (6, [.ref q1, .int 0, .ref q2, .null, .null, .null, .int 0, .null])), (q1, .inl (cy 4, 40, .inl (fun _ => 0))), (q2, .inl (cy 0, 41, .inl (fun _ => 0)))] H := hP
  have hD : va_D A [(a0, .inr (6, [.ref q1, .int 0, .ref q2, .null, .null, .null, .int 0, .null])), (q1, .inl (cy 4, 40, .inl (fun _ => 0))), (q2, .inl (cy 0, 41, .inl (fun _ => 0)))] := hD
  refine lv_aload_n hx hb dX4_init_20 rfl (lv_at hl 0 rfl) ?_
  refine lv_bipush (v := 41) hx hb dX4_init_21 (by decide +kernel) ?_
  refine g_newa (atype := .int) (ty := .int) hx hb (hts (.arrayClass .int) (List.mem_of_getElem? (i := 6) rfl)) rfl hK hP hD hS hA 0 rfl (a0 := (41, .inl (fun _ => 0))) (N' := 41) (za_0 41) (by decide +kernel) (by decide +kernel) (by decide +kernel) (Nat.le_of_ble_eq_true rfl) (Nat.le_of_ble_eq_true rfl) dX4_init_23 (fun q3 H hP hD hS => ?_)
  have hP : va_P D vwCl [(a0, .inr (6, [.ref q1, .int 0, .ref q2, .null, .null, .null, .int 0, .null])), (q1, .inl (cy 4, 40, .inl (fun _ => 0))), (q2, .inl (cy 0, 41, .inl (fun _ => 0))), (q3, .inl (cy 0, 41, .inl (fun _ => 0)))] H := hP
  have hD : va_D A [(a0, .inr (6, [.ref q1, .int 0, .ref q2, .null, .null, .null, .int 0, .null])), (q1, .inl (cy 4, 40, .inl (fun _ => 0))), (q2, .inl (cy 0, 41, .inl (fun _ => 0))), (q3, .inl (cy 0, 41, .inl (fun _ => 0)))] := hD
  refine W.widen (k := 3) (n := 122) (Nat.le_of_ble_eq_true rfl) (Nat.le_of_ble_eq_true rfl) ?_
  refine va_putF (D := D) (ci := 6) (v := .ref q3) (ty := .array .int) (C := RX4) (T := TX4) (N := 8) hx hb hts (fun _ h => List.mem_cons_of_mem _ (List.mem_append_left _ (List.mem_append_right _ h))) tyX4 tyX4_ok nmX4 hown hK hP hD hS 0 rfl rfl 3 (by decide) (hts (.fieldLink RX4 19 "PhraseDesk$Lexer" "places" "[I") (List.mem_of_getElem? (i := 8) rfl)) (fun _ h9 => h9) rfl hin rfl (by decide +kernel) rfl rfl (Nat.le_of_ble_eq_true rfl) dX4_init_25 (fun H locs hP hD hS => ?_)
  have hP : va_P D vwCl [(a0, .inr (6, [.ref q1, .int 0, .ref q2, .ref q3, .null, .null, .int 0, .null])), (q1, .inl (cy 4, 40, .inl (fun _ => 0))), (q2, .inl (cy 0, 41, .inl (fun _ => 0))), (q3, .inl (cy 0, 41, .inl (fun _ => 0)))] H := hP
  have hD : va_D A [(a0, .inr (6, [.ref q1, .int 0, .ref q2, .ref q3, .null, .null, .int 0, .null])), (q1, .inl (cy 4, 40, .inl (fun _ => 0))), (q2, .inl (cy 0, 41, .inl (fun _ => 0))), (q3, .inl (cy 0, 41, .inl (fun _ => 0)))] := hD
  refine lv_aload_n hx hb dX4_init_28 rfl (lv_at hl 0 rfl) ?_
  refine lv_bipush (v := 41) hx hb dX4_init_29 (by decide +kernel) ?_
  refine g_newa (atype := .int) (ty := .int) hx hb (hts (.arrayClass .int) (List.mem_of_getElem? (i := 6) rfl)) rfl hK hP hD hS hA 0 rfl (a0 := (41, .inl (fun _ => 0))) (N' := 41) (za_0 41) (by decide +kernel) (by decide +kernel) (by decide +kernel) (Nat.le_of_ble_eq_true rfl) (Nat.le_of_ble_eq_true rfl) dX4_init_31 (fun q4 H hP hD hS => ?_)
  have hP : va_P D vwCl [(a0, .inr (6, [.ref q1, .int 0, .ref q2, .ref q3, .null, .null, .int 0, .null])), (q1, .inl (cy 4, 40, .inl (fun _ => 0))), (q2, .inl (cy 0, 41, .inl (fun _ => 0))), (q3, .inl (cy 0, 41, .inl (fun _ => 0))), (q4, .inl (cy 0, 41, .inl (fun _ => 0)))] H := hP
  have hD : va_D A [(a0, .inr (6, [.ref q1, .int 0, .ref q2, .ref q3, .null, .null, .int 0, .null])), (q1, .inl (cy 4, 40, .inl (fun _ => 0))), (q2, .inl (cy 0, 41, .inl (fun _ => 0))), (q3, .inl (cy 0, 41, .inl (fun _ => 0))), (q4, .inl (cy 0, 41, .inl (fun _ => 0)))] := hD
  refine W.widen (k := 4) (n := 163) (Nat.le_of_ble_eq_true rfl) (Nat.le_of_ble_eq_true rfl) ?_
  refine va_putF (D := D) (ci := 6) (v := .ref q4) (ty := .array .int) (C := RX4) (T := TX4) (N := 8) hx hb hts (fun _ h => List.mem_cons_of_mem _ (List.mem_append_left _ (List.mem_append_right _ h))) tyX4 tyX4_ok nmX4 hown hK hP hD hS 0 rfl rfl 4 (by decide) (hts (.fieldLink RX4 22 "PhraseDesk$Lexer" "names" "[I") (List.mem_of_getElem? (i := 9) rfl)) (fun _ h9 => h9) rfl hin rfl (by decide +kernel) rfl rfl (Nat.le_of_ble_eq_true rfl) dX4_init_33 (fun H locs hP hD hS => ?_)
  have hP : va_P D vwCl [(a0, .inr (6, [.ref q1, .int 0, .ref q2, .ref q3, .ref q4, .null, .int 0, .null])), (q1, .inl (cy 4, 40, .inl (fun _ => 0))), (q2, .inl (cy 0, 41, .inl (fun _ => 0))), (q3, .inl (cy 0, 41, .inl (fun _ => 0))), (q4, .inl (cy 0, 41, .inl (fun _ => 0)))] H := hP
  have hD : va_D A [(a0, .inr (6, [.ref q1, .int 0, .ref q2, .ref q3, .ref q4, .null, .int 0, .null])), (q1, .inl (cy 4, 40, .inl (fun _ => 0))), (q2, .inl (cy 0, 41, .inl (fun _ => 0))), (q3, .inl (cy 0, 41, .inl (fun _ => 0))), (q4, .inl (cy 0, 41, .inl (fun _ => 0)))] := hD
  refine lv_aload_n hx hb dX4_init_36 rfl (lv_at hl 0 rfl) ?_
  refine lv_bipush (v := 41) hx hb dX4_init_37 (by decide +kernel) ?_
  refine g_newq (C := "PhraseDesk$Value") hx hb hown (hts (.classLink RX4 25 RX10) (List.mem_of_getElem? (i := 10) rfl)) hAO.1 hK hP hD hS hA 6 rfl (N' := 41) (by decide +kernel) (by decide +kernel) (by decide +kernel) (Nat.le_of_ble_eq_true rfl) (Nat.le_of_ble_eq_true rfl) dX4_init_39 (fun q5 H hP hD hS => ?_)
  have hP : va_P D vwCl [(a0, .inr (6, [.ref q1, .int 0, .ref q2, .ref q3, .ref q4, .null, .int 0, .null])), (q1, .inl (cy 4, 40, .inl (fun _ => 0))), (q2, .inl (cy 0, 41, .inl (fun _ => 0))), (q3, .inl (cy 0, 41, .inl (fun _ => 0))), (q4, .inl (cy 0, 41, .inl (fun _ => 0))), (q5, .inl (cy 6, 41, .inr (.inr (.inr (.inr (fun _ => none))))))] H := hP
  have hD : va_D A [(a0, .inr (6, [.ref q1, .int 0, .ref q2, .ref q3, .ref q4, .null, .int 0, .null])), (q1, .inl (cy 4, 40, .inl (fun _ => 0))), (q2, .inl (cy 0, 41, .inl (fun _ => 0))), (q3, .inl (cy 0, 41, .inl (fun _ => 0))), (q4, .inl (cy 0, 41, .inl (fun _ => 0))), (q5, .inl (cy 6, 41, .inr (.inr (.inr (.inr (fun _ => none))))))] := hD
  refine W.widen (k := 5) (n := 204) (Nat.le_of_ble_eq_true rfl) (Nat.le_of_ble_eq_true rfl) ?_
  refine va_putF (D := D) (ci := 6) (v := .ref q5) (ty := .array (.object "PhraseDesk$Value")) (C := RX4) (T := TX4) (N := 8) hx hb hts (fun _ h => List.mem_cons_of_mem _ (List.mem_append_left _ (List.mem_append_right _ h))) tyX4 tyX4_ok nmX4 hown hK hP hD hS 0 rfl rfl 5 (by decide) (hts (.fieldLink RX4 27 "PhraseDesk$Lexer" "literals" "[LPhraseDesk$Value;") (List.mem_of_getElem? (i := 11) rfl)) (fun _ h9 => h9) rfl hin rfl (by decide +kernel) rfl rfl (Nat.le_of_ble_eq_true rfl) dX4_init_42 (fun H locs hP hD hS => ?_)
  have hP : va_P D vwCl [(a0, .inr (6, [.ref q1, .int 0, .ref q2, .ref q3, .ref q4, .ref q5, .int 0, .null])), (q1, .inl (cy 4, 40, .inl (fun _ => 0))), (q2, .inl (cy 0, 41, .inl (fun _ => 0))), (q3, .inl (cy 0, 41, .inl (fun _ => 0))), (q4, .inl (cy 0, 41, .inl (fun _ => 0))), (q5, .inl (cy 6, 41, .inr (.inr (.inr (.inr (fun _ => none))))))] H := hP
  have hD : va_D A [(a0, .inr (6, [.ref q1, .int 0, .ref q2, .ref q3, .ref q4, .ref q5, .int 0, .null])), (q1, .inl (cy 4, 40, .inl (fun _ => 0))), (q2, .inl (cy 0, 41, .inl (fun _ => 0))), (q3, .inl (cy 0, 41, .inl (fun _ => 0))), (q4, .inl (cy 0, 41, .inl (fun _ => 0))), (q5, .inl (cy 6, 41, .inr (.inr (.inr (.inr (fun _ => none))))))] := hD
  refine lv_aload_n hx hb dX4_init_45 rfl (lv_at hl 0 rfl) ?_
  refine va_new (ci := 1) (fs := [.null, .int 0, .int 0, .int 0]) (C := RJ4) (T := TJ4) (N := 4) hx hb hts (fun _ h => List.mem_cons_of_mem _ (List.mem_append_right _ h)) tyJ4 tyJ4_ok hown (hts (.classLink RX4 31 RJ4) (List.mem_of_getElem? (i := 12) rfl)) (hts (.instantiable RJ4 4) (List.mem_of_getElem? (i := 13) rfl)) (hts (.initialized RJ4) (List.mem_of_getElem? (i := 14) rfl)) hK hP hD hS hA rfl (fun j hj => by rcases (show j = 0 ∨ j = 1 ∨ j = 2 ∨ j = 3 by omega) with rfl | rfl | rfl | rfl <;> rfl) (Nat.le_of_ble_eq_true rfl) (Nat.le_of_ble_eq_true rfl) dX4_init_46 (fun q6 H hP hD hS => ?_)
  have hP : va_P D vwCl [(a0, .inr (6, [.ref q1, .int 0, .ref q2, .ref q3, .ref q4, .ref q5, .int 0, .null])), (q1, .inl (cy 4, 40, .inl (fun _ => 0))), (q2, .inl (cy 0, 41, .inl (fun _ => 0))), (q3, .inl (cy 0, 41, .inl (fun _ => 0))), (q4, .inl (cy 0, 41, .inl (fun _ => 0))), (q5, .inl (cy 6, 41, .inr (.inr (.inr (.inr (fun _ => none)))))), (q6, .inr (1, [.null, .int 0, .int 0, .int 0]))] H := hP
  have hD : va_D A [(a0, .inr (6, [.ref q1, .int 0, .ref q2, .ref q3, .ref q4, .ref q5, .int 0, .null])), (q1, .inl (cy 4, 40, .inl (fun _ => 0))), (q2, .inl (cy 0, 41, .inl (fun _ => 0))), (q3, .inl (cy 0, 41, .inl (fun _ => 0))), (q4, .inl (cy 0, 41, .inl (fun _ => 0))), (q5, .inl (cy 6, 41, .inr (.inr (.inr (.inr (fun _ => none)))))), (q6, .inr (1, [.null, .int 0, .int 0, .int 0]))] := hD
  refine W.widen (k := 6) (n := 208) (Nat.le_of_ble_eq_true rfl) (Nat.le_of_ble_eq_true rfl) ?_
  refine lv_dup hx hb dX4_init_49 rfl ?_
  have hPc := hP.sub (ws' := [(q6, .inr (1, [.null, .int 0, .int 0, .int 0]))]) [6] rfl
  have hDc := hD.sub (ws' := [(q6, .inr (1, [.null, .int 0, .int 0, .int 0]))]) [6] (by decide) rfl
  have hFc := va_free (wc := [(q6, .inr (1, [.null, .int 0, .int 0, .int 0]))]) hD hS hA [6] rfl
  refine va_callv (va_runI (As := []) (rest := [.ref q6, .ref a0]) ⟨hx, hb, hml, hown, hts⟩ (C_J4_init_da8c8_1 l D cy sz0 sa q6 H.size) (cwI 0 hts gX4_init_J4_init_da8c8 rfl rfl rfl (hts (.initialized RJ4) (List.mem_of_getElem? (i := 14) rfl)) (hts (.methodLink RX4 33 yJ4_init_da8c8) (List.mem_of_getElem? (i := 16) rfl)) (hts (.instanceMethod yJ4_init_da8c8) (List.mem_of_getElem? (i := 17) rfl)) rfl (by decide +kernel) ⟨Nat.le_of_ble_eq_true rfl, Nat.le_of_ble_eq_true rfl⟩) ⟨PcW.blind, PcW.mk hE hS hAF hPc hDc⟩ rfl rfl hl.1 rfl (lv_room (Nat.le_of_ble_eq_true rfl)) dX4_init_50 ⟨Nat.le_of_ble_eq_true rfl, Nat.le_of_ble_eq_true rfl⟩) hS (fun q _ h => hFc q h) hFc (fun u t H1 locs ht hvm hw hB hz1 hk1 hS => ?_)
  obtain ⟨q7, hP1, hD1⟩ := hB
  rw [ht] at hP1
  have hP1 : va_P D vwCl [(q6, .inr (1, [.ref q7, .int 0, .int 0, .int 0])), (q7, .inl (cy 5, 16, .inl (fun _ => 0)))] H1 := hP1
  obtain ⟨hP, hD⟩ := va_join (wr := [(a0, .inr (6, [.ref q1, .int 0, .ref q2, .ref q3, .ref q4, .ref q5, .int 0, .null])), (q1, .inl (cy 4, 40, .inl (fun _ => 0))), (q2, .inl (cy 0, 41, .inl (fun _ => 0))), (q3, .inl (cy 0, 41, .inl (fun _ => 0))), (q4, .inl (cy 0, 41, .inl (fun _ => 0))), (q5, .inl (cy 6, 41, .inr (.inr (.inr (.inr (fun _ => none))))))]) (w1 := [(q6, .inr (1, [.ref q7, .int 0, .int 0, .int 0])), (q7, .inl (cy 5, 16, .inl (fun _ => 0)))]) hP hD [6] [0, 1, 2, 3, 4, 5] rfl rfl (by decide) (by decide) hk1 hFc hP1 hD1
  clear hP1 hD1 hPc hDc hFc hk1 hz1
  generalize H1 = H at hP hS ⊢
  have hP : va_P D vwCl [(a0, .inr (6, [.ref q1, .int 0, .ref q2, .ref q3, .ref q4, .ref q5, .int 0, .null])), (q1, .inl (cy 4, 40, .inl (fun _ => 0))), (q2, .inl (cy 0, 41, .inl (fun _ => 0))), (q3, .inl (cy 0, 41, .inl (fun _ => 0))), (q4, .inl (cy 0, 41, .inl (fun _ => 0))), (q5, .inl (cy 6, 41, .inr (.inr (.inr (.inr (fun _ => none)))))), (q6, .inr (1, [.ref q7, .int 0, .int 0, .int 0])), (q7, .inl (cy 5, 16, .inl (fun _ => 0)))] H := hP
  have hD : va_D A [(a0, .inr (6, [.ref q1, .int 0, .ref q2, .ref q3, .ref q4, .ref q5, .int 0, .null])), (q1, .inl (cy 4, 40, .inl (fun _ => 0))), (q2, .inl (cy 0, 41, .inl (fun _ => 0))), (q3, .inl (cy 0, 41, .inl (fun _ => 0))), (q4, .inl (cy 0, 41, .inl (fun _ => 0))), (q5, .inl (cy 6, 41, .inr (.inr (.inr (.inr (fun _ => none)))))), (q6, .inr (1, [.ref q7, .int 0, .int 0, .int 0])), (q7, .inl (cy 5, 16, .inl (fun _ => 0)))] := hD
  refine W.widen (k := 7) (n := 224) (Nat.le_of_ble_eq_true rfl) (Nat.le_of_ble_eq_true rfl) ?_
  refine va_putF (D := D) (ci := 6) (v := .ref q6) (ty := .object "java/lang/StringBuilder") (C := RX4) (T := TX4) (N := 8) hx hb hts (fun _ h => List.mem_cons_of_mem _ (List.mem_append_left _ (List.mem_append_right _ h))) tyX4 tyX4_ok nmX4 hown hK hP hD hS 0 rfl rfl 7 (by decide) (hts (.fieldLink RX4 34 "PhraseDesk$Lexer" "scratch" "Ljava/lang/StringBuilder;") (List.mem_of_getElem? (i := 15) rfl)) (fun _ h9 => h9) rfl hin rfl (by decide +kernel) rfl rfl (Nat.le_of_ble_eq_true rfl) dX4_init_53 (fun H locs hP hD hS => ?_)
  have hP : va_P D vwCl [(a0, .inr (6, [.ref q1, .int 0, .ref q2, .ref q3, .ref q4, .ref q5, .int 0, .ref q6])), (q1, .inl (cy 4, 40, .inl (fun _ => 0))), (q2, .inl (cy 0, 41, .inl (fun _ => 0))), (q3, .inl (cy 0, 41, .inl (fun _ => 0))), (q4, .inl (cy 0, 41, .inl (fun _ => 0))), (q5, .inl (cy 6, 41, .inr (.inr (.inr (.inr (fun _ => none)))))), (q6, .inr (1, [.ref q7, .int 0, .int 0, .int 0])), (q7, .inl (cy 5, 16, .inl (fun _ => 0)))] H := hP
  have hD : va_D A [(a0, .inr (6, [.ref q1, .int 0, .ref q2, .ref q3, .ref q4, .ref q5, .int 0, .ref q6])), (q1, .inl (cy 4, 40, .inl (fun _ => 0))), (q2, .inl (cy 0, 41, .inl (fun _ => 0))), (q3, .inl (cy 0, 41, .inl (fun _ => 0))), (q4, .inl (cy 0, 41, .inl (fun _ => 0))), (q5, .inl (cy 6, 41, .inr (.inr (.inr (.inr (fun _ => none)))))), (q6, .inr (1, [.ref q7, .int 0, .int 0, .int 0])), (q7, .inl (cy 5, 16, .inl (fun _ => 0)))] := hD
  refine W.widen (k := 7) (n := 224) (Nat.le_of_ble_eq_true rfl) (Nat.le_of_ble_eq_true rfl) ?_
  have hP9 := hP.sub (ws' := [(a0, .inr (6, [.ref q1, .int 0, .ref q2, .ref q3, .ref q4, .ref q5, .int 0, .ref q6])), (q1, .inl (cy 4, 40, .inl (fun _ => 0))), (q2, .inl (cy 0, 41, .inl (fun _ => 0))), (q3, .inl (cy 0, 41, .inl (fun _ => 0))), (q4, .inl (cy 0, 41, .inl (fun _ => 0))), (q5, .inl (cy 6, 41, .inr (.inr (.inr (.inr (fun _ => none)))))), (q6, .inr (1, [.ref q7, .int 0, .int 0, .int 0])), (q7, .inl (cy 5, 16, .inl (fun _ => 0)))]) [0, 1, 2, 3, 4, 5, 6, 7] rfl
  have hD9 := hD.sub (ws' := [(a0, .inr (6, [.ref q1, .int 0, .ref q2, .ref q3, .ref q4, .ref q5, .int 0, .ref q6])), (q1, .inl (cy 4, 40, .inl (fun _ => 0))), (q2, .inl (cy 0, 41, .inl (fun _ => 0))), (q3, .inl (cy 0, 41, .inl (fun _ => 0))), (q4, .inl (cy 0, 41, .inl (fun _ => 0))), (q5, .inl (cy 6, 41, .inr (.inr (.inr (.inr (fun _ => none)))))), (q6, .inr (1, [.ref q7, .int 0, .int 0, .int 0])), (q7, .inl (cy 5, 16, .inl (fun _ => 0)))]) [0, 1, 2, 3, 4, 5, 6, 7] (by decide) rfl
  exact W.vret hx hb hr (fun t ht hW => ⟨⟨(), rfl, trivial, ⟨q1, q2, q3, q4, q5, q6, q7, by rw [ht]; exact hP9, hD9⟩⟩, hS.F ht⟩) hS.2.2 dX4_init_56


set_option maxHeartbeats 600000 in
set_option maxRecDepth 100000 in
theorem C_X6_init_1 (l : Launch) (D : va_G) (cy : Nat → ClassId) (sz0 : Nat) (sa : Nat → Nat) (a0 : Nat) (sz : Nat)  : Met l yX6_init wsX6_init ({ frames := 4, cells := 8, slots := 232, locals := 81 }) (PcW D cy sz0 sa [.ref a0] [(a0, .inr (8, [.null, .int 0, .int 0, .int 0]))] sz) (va_Qv (fun (u : Unit) => True) (fun (u : Unit) (t : State) => ∃ (n0 n1 n2 n3 n4 n5 n6 n7 : Nat), BW D [(a0, .inr (8, [.ref n0, .int 0, .int 0, .int 0])), (n0, .inr (6, [.ref n1, .int 0, .ref n2, .ref n3, .ref n4, .ref n5, .int 0, .ref n6])), (n1, .inl (cy 4, 40, .inl (fun _ => 0))), (n2, .inl (cy 0, 41, .inl (fun _ => 0))), (n3, .inl (cy 0, 41, .inl (fun _ => 0))), (n4, .inl (cy 0, 41, .inl (fun _ => 0))), (n5, .inl (cy 6, 41, .inr (.inr (.inr (.inr (fun _ => none)))))), (n6, .inr (1, [.ref n7, .int 0, .int 0, .int 0])), (n7, .inl (cy 5, 16, .inl (fun _ => 0)))] (va_A [(a0, .inr (8, [.null, .int 0, .int 0, .int 0]))] sz) t) (va_A [(a0, .inr (8, [.null, .int 0, .int 0, .int 0]))] sz)) 8 232 (va_A [(a0, .inr (8, [.null, .int 0, .int 0, .int 0]))] sz) := by
  refine Met.ofW (cc := cX6_init) (maxL := 1) (ret := none) (by decide) rfl ?_
  intro p e s m args below meth c s₁ B hml hv
  obtain ⟨rfl, hsz, hP, hD0, hE⟩ := hv
  have hx := B.exec
  have hb := B.bytes
  have hr := B.returns
  have hts := atoms_spec (ws := wsX6_init) B.pre
  have hown : s.vm.findClass RX6 = some m.cls := findClass_of_methodNamed B.named
  have hlocks := B.notSynchronized
  have hin : meth.name = "<init>" := (name_of_methodNamed B.named B.method).1
  subst hsz
  have hK := hE.1
  have hAm := hE.2.2.1
  have hWm := hE.2.2.2
  have hAO := hWm.2.2.2.1
  have hD := hD0.self (sz := s.heap.size)
  have hAF := frA hD0 hE.2.1
  generalize hAe : va_A [(a0, .inr (8, [.null, .int 0, .int 0, .int 0]))] s.heap.size = A at hD hAF ⊢
  have hA : ∀ q : Nat, s.heap.size ≤ q → A q := fun q h => by rw [← hAe]; exact Or.inr h
  have hS : va_S A s.heap s.heap [] := va_S.rf
  have hl := lv_entry ([.ref a0]) (n := 1) (Nat.le_of_ble_eq_true rfl)
  rw [lg_entry_eq]
  generalize (lg_sl ([.ref a0]) ++ List.replicate (1 - (lg_sl ([.ref a0])).length) Slot.unset).toArray = ls at hl ⊢
  have hl : lv_has ls 1 [(0, .ref a0)] := hl
  have hP : va_P D vwCl [(a0, .inr (8, [.null, .int 0, .int 0, .int 0]))] s.heap := hP
  refine lv_aload_n hx hb dX6_init_0 rfl (lv_at hl 0 rfl) ?_
  refine W.objInit hx hb hown (hts (.methodLink RX6 3 objectInit) (List.mem_of_getElem? (i := 1) rfl)) (hts (.instanceMethod objectInit) (List.mem_of_getElem? (i := 2) rfl)) (hts (.code objectInit ⟨#[0xb1]⟩ 1 none) (List.mem_of_getElem? (i := 3) rfl)) rfl (by rw [hml]; exact hl.1) rfl dX6_init_1 (Nat.le_of_ble_eq_true rfl) (Nat.le_of_ble_eq_true rfl) ?_
  refine W.eq (g2 := F0 m 4 ls []) rfl ?_
  refine lv_aload_n hx hb dX6_init_4 rfl (lv_at hl 0 rfl) ?_
  refine va_new (ci := 6) (fs := [.null, .int 0, .null, .null, .null, .null, .int 0, .null]) (C := RX4) (T := TX4) (N := 8) hx hb hts (fun _ h => List.mem_cons_of_mem _ (List.mem_append_left _ (List.mem_append_left _ (List.mem_append_right _ h)))) tyX4 tyX4_ok hown (hts (.classLink RX6 9 RX4) (List.mem_of_getElem? (i := 4) rfl)) (hts (.instantiable RX4 8) (List.mem_of_getElem? (i := 5) rfl)) (hts (.initialized RX4) (List.mem_of_getElem? (i := 6) rfl)) hK hP hD hS hA rfl (fun j hj => by rcases (show j = 0 ∨ j = 1 ∨ j = 2 ∨ j = 3 ∨ j = 4 ∨ j = 5 ∨ j = 6 ∨ j = 7 by omega) with rfl | rfl | rfl | rfl | rfl | rfl | rfl | rfl <;> rfl) (Nat.le_of_ble_eq_true rfl) (Nat.le_of_ble_eq_true rfl) dX6_init_5 (fun q1 H hP hD hS => ?_)
  have hP : va_P D vwCl [(a0, .inr (8, [.null, .int 0, .int 0, .int 0])), (q1, .inr (6, [.null, .int 0, .null, .null, .null, .null, .int 0, .null]))] H := hP
  have hD : va_D A [(a0, .inr (8, [.null, .int 0, .int 0, .int 0])), (q1, .inr (6, [.null, .int 0, .null, .null, .null, .null, .int 0, .null]))] := hD
  refine W.widen (k := 1) (n := 8) (Nat.le_of_ble_eq_true rfl) (Nat.le_of_ble_eq_true rfl) ?_
  refine lv_dup hx hb dX6_init_8 rfl ?_
  have hPc := hP.sub (ws' := [(q1, .inr (6, [.null, .int 0, .null, .null, .null, .null, .int 0, .null]))]) [1] rfl
  have hDc := hD.sub (ws' := [(q1, .inr (6, [.null, .int 0, .null, .null, .null, .null, .int 0, .null]))]) [1] (by decide) rfl
  have hFc := va_free (wc := [(q1, .inr (6, [.null, .int 0, .null, .null, .null, .null, .int 0, .null]))]) hD hS hA [1] rfl
  refine va_callv (va_runI (As := []) (rest := [.ref q1, .ref a0]) ⟨hx, hb, hml, hown, hts⟩ (C_X4_init_1 l D cy sz0 sa q1 H.size) (cwI 0 hts gX6_init_X4_init rfl rfl rfl (hts (.initialized RX4) (List.mem_of_getElem? (i := 6) rfl)) (hts (.methodLink RX6 11 yX4_init) (List.mem_of_getElem? (i := 8) rfl)) (hts (.instanceMethod yX4_init) (List.mem_of_getElem? (i := 9) rfl)) rfl (by decide +kernel) ⟨Nat.le_of_ble_eq_true rfl, Nat.le_of_ble_eq_true rfl⟩) ⟨PcW.blind, PcW.mk hE hS hAF hPc hDc⟩ rfl rfl hl.1 rfl (lv_room (Nat.le_of_ble_eq_true rfl)) dX6_init_9 ⟨Nat.le_of_ble_eq_true rfl, Nat.le_of_ble_eq_true rfl⟩) hS (fun q _ h => hFc q h) hFc (fun u t H1 locs ht hvm hw hB hz1 hk1 hS => ?_)
  obtain ⟨q2, q3, q4, q5, q6, q7, q8, hP1, hD1⟩ := hB
  rw [ht] at hP1
  have hP1 : va_P D vwCl [(q1, .inr (6, [.ref q2, .int 0, .ref q3, .ref q4, .ref q5, .ref q6, .int 0, .ref q7])), (q2, .inl (cy 4, 40, .inl (fun _ => 0))), (q3, .inl (cy 0, 41, .inl (fun _ => 0))), (q4, .inl (cy 0, 41, .inl (fun _ => 0))), (q5, .inl (cy 0, 41, .inl (fun _ => 0))), (q6, .inl (cy 6, 41, .inr (.inr (.inr (.inr (fun _ => none)))))), (q7, .inr (1, [.ref q8, .int 0, .int 0, .int 0])), (q8, .inl (cy 5, 16, .inl (fun _ => 0)))] H1 := hP1
  obtain ⟨hP, hD⟩ := va_join (wr := [(a0, .inr (8, [.null, .int 0, .int 0, .int 0]))]) (w1 := [(q1, .inr (6, [.ref q2, .int 0, .ref q3, .ref q4, .ref q5, .ref q6, .int 0, .ref q7])), (q2, .inl (cy 4, 40, .inl (fun _ => 0))), (q3, .inl (cy 0, 41, .inl (fun _ => 0))), (q4, .inl (cy 0, 41, .inl (fun _ => 0))), (q5, .inl (cy 0, 41, .inl (fun _ => 0))), (q6, .inl (cy 6, 41, .inr (.inr (.inr (.inr (fun _ => none)))))), (q7, .inr (1, [.ref q8, .int 0, .int 0, .int 0])), (q8, .inl (cy 5, 16, .inl (fun _ => 0)))]) hP hD [1] [0] rfl rfl (by decide) (by decide) hk1 hFc hP1 hD1
  clear hP1 hD1 hPc hDc hFc hk1 hz1
  generalize H1 = H at hP hS ⊢
  have hP : va_P D vwCl [(a0, .inr (8, [.null, .int 0, .int 0, .int 0])), (q1, .inr (6, [.ref q2, .int 0, .ref q3, .ref q4, .ref q5, .ref q6, .int 0, .ref q7])), (q2, .inl (cy 4, 40, .inl (fun _ => 0))), (q3, .inl (cy 0, 41, .inl (fun _ => 0))), (q4, .inl (cy 0, 41, .inl (fun _ => 0))), (q5, .inl (cy 0, 41, .inl (fun _ => 0))), (q6, .inl (cy 6, 41, .inr (.inr (.inr (.inr (fun _ => none)))))), (q7, .inr (1, [.ref q8, .int 0, .int 0, .int 0])), (q8, .inl (cy 5, 16, .inl (fun _ => 0)))] H := hP
  have hD : va_D A [(a0, .inr (8, [.null, .int 0, .int 0, .int 0])), (q1, .inr (6, [.ref q2, .int 0, .ref q3, .ref q4, .ref q5, .ref q6, .int 0, .ref q7])), (q2, .inl (cy 4, 40, .inl (fun _ => 0))), (q3, .inl (cy 0, 41, .inl (fun _ => 0))), (q4, .inl (cy 0, 41, .inl (fun _ => 0))), (q5, .inl (cy 0, 41, .inl (fun _ => 0))), (q6, .inl (cy 6, 41, .inr (.inr (.inr (.inr (fun _ => none)))))), (q7, .inr (1, [.ref q8, .int 0, .int 0, .int 0])), (q8, .inl (cy 5, 16, .inl (fun _ => 0)))] := hD
  refine W.widen (k := 8) (n := 232) (Nat.le_of_ble_eq_true rfl) (Nat.le_of_ble_eq_true rfl) ?_
  refine va_putF (D := D) (ci := 8) (v := .ref q1) (ty := .object "PhraseDesk$Lexer") (C := RX6) (T := TX6) (N := 4) hx hb hts (fun _ h => List.mem_cons_of_mem _ (List.mem_append_left _ (List.mem_append_right _ h))) tyX6 tyX6_ok nmX6 hown hK hP hD hS 0 rfl rfl 0 (by decide) (hts (.fieldLink RX6 12 "PhraseDesk$Parser" "lexer" "LPhraseDesk$Lexer;") (List.mem_of_getElem? (i := 7) rfl)) (fun _ h9 => h9) rfl hin rfl (by decide +kernel) rfl rfl (Nat.le_of_ble_eq_true rfl) dX6_init_12 (fun H locs hP hD hS => ?_)
  have hP : va_P D vwCl [(a0, .inr (8, [.ref q1, .int 0, .int 0, .int 0])), (q1, .inr (6, [.ref q2, .int 0, .ref q3, .ref q4, .ref q5, .ref q6, .int 0, .ref q7])), (q2, .inl (cy 4, 40, .inl (fun _ => 0))), (q3, .inl (cy 0, 41, .inl (fun _ => 0))), (q4, .inl (cy 0, 41, .inl (fun _ => 0))), (q5, .inl (cy 0, 41, .inl (fun _ => 0))), (q6, .inl (cy 6, 41, .inr (.inr (.inr (.inr (fun _ => none)))))), (q7, .inr (1, [.ref q8, .int 0, .int 0, .int 0])), (q8, .inl (cy 5, 16, .inl (fun _ => 0)))] H := hP
  have hD : va_D A [(a0, .inr (8, [.ref q1, .int 0, .int 0, .int 0])), (q1, .inr (6, [.ref q2, .int 0, .ref q3, .ref q4, .ref q5, .ref q6, .int 0, .ref q7])), (q2, .inl (cy 4, 40, .inl (fun _ => 0))), (q3, .inl (cy 0, 41, .inl (fun _ => 0))), (q4, .inl (cy 0, 41, .inl (fun _ => 0))), (q5, .inl (cy 0, 41, .inl (fun _ => 0))), (q6, .inl (cy 6, 41, .inr (.inr (.inr (.inr (fun _ => none)))))), (q7, .inr (1, [.ref q8, .int 0, .int 0, .int 0])), (q8, .inl (cy 5, 16, .inl (fun _ => 0)))] := hD
  refine W.widen (k := 8) (n := 232) (Nat.le_of_ble_eq_true rfl) (Nat.le_of_ble_eq_true rfl) ?_
  have hP9 := hP.sub (ws' := [(a0, .inr (8, [.ref q1, .int 0, .int 0, .int 0])), (q1, .inr (6, [.ref q2, .int 0, .ref q3, .ref q4, .ref q5, .ref q6, .int 0, .ref q7])), (q2, .inl (cy 4, 40, .inl (fun _ => 0))), (q3, .inl (cy 0, 41, .inl (fun _ => 0))), (q4, .inl (cy 0, 41, .inl (fun _ => 0))), (q5, .inl (cy 0, 41, .inl (fun _ => 0))), (q6, .inl (cy 6, 41, .inr (.inr (.inr (.inr (fun _ => none)))))), (q7, .inr (1, [.ref q8, .int 0, .int 0, .int 0])), (q8, .inl (cy 5, 16, .inl (fun _ => 0)))]) [0, 1, 2, 3, 4, 5, 6, 7, 8] rfl
  have hD9 := hD.sub (ws' := [(a0, .inr (8, [.ref q1, .int 0, .int 0, .int 0])), (q1, .inr (6, [.ref q2, .int 0, .ref q3, .ref q4, .ref q5, .ref q6, .int 0, .ref q7])), (q2, .inl (cy 4, 40, .inl (fun _ => 0))), (q3, .inl (cy 0, 41, .inl (fun _ => 0))), (q4, .inl (cy 0, 41, .inl (fun _ => 0))), (q5, .inl (cy 0, 41, .inl (fun _ => 0))), (q6, .inl (cy 6, 41, .inr (.inr (.inr (.inr (fun _ => none)))))), (q7, .inr (1, [.ref q8, .int 0, .int 0, .int 0])), (q8, .inl (cy 5, 16, .inl (fun _ => 0)))]) [0, 1, 2, 3, 4, 5, 6, 7, 8] (by decide) rfl
  exact W.vret hx hb hr (fun t ht hW => ⟨⟨(), rfl, trivial, ⟨q1, q2, q3, q4, q5, q6, q7, q8, by rw [ht]; exact hP9, hD9⟩⟩, hS.F ht⟩) hS.2.2 dX6_init_15


set_option maxHeartbeats 600000 in
set_option maxRecDepth 100000 in
theorem C_X10_init_1 (l : Launch) (D : va_G) (cy : Nat → ClassId) (sz0 : Nat) (sa : Nat → Nat) (a0 : Nat) (sz : Nat)  : Met l yX10_init wsX10_init ({ frames := 1, cells := 0, slots := 0, locals := 20 }) (PcW D cy sz0 sa [.ref a0, .int 0, .int 0, .double FP.dconst0, .ref (sa 0), .null] [(a0, .inr (12, [.int 0, .int 0, .double 0, .null, .null]))] sz) (va_Qv (fun (u : Unit) => True) (fun (u : Unit) (t : State) => BW D [(a0, .inr (12, [.int 0, .int 0, .double FP.dconst0, .ref (sa 0), .null]))] (va_A [(a0, .inr (12, [.int 0, .int 0, .double 0, .null, .null]))] sz) t) (va_A [(a0, .inr (12, [.int 0, .int 0, .double 0, .null, .null]))] sz)) 0 0 (va_A [(a0, .inr (12, [.int 0, .int 0, .double 0, .null, .null]))] sz) := by
  refine Met.ofW (cc := cX10_init) (maxL := 7) (ret := none) (by decide) rfl ?_
  intro p e s m args below meth c s₁ B hml hv
  obtain ⟨rfl, hsz, hP, hD0, hE⟩ := hv
  have hx := B.exec
  have hb := B.bytes
  have hr := B.returns
  have hts := atoms_spec (ws := wsX10_init) B.pre
  have hown : s.vm.findClass RX10 = some m.cls := findClass_of_methodNamed B.named
  have hlocks := B.notSynchronized
  have hin : meth.name = "<init>" := (name_of_methodNamed B.named B.method).1
  subst hsz
  have hK := hE.1
  have hAm := hE.2.2.1
  have hWm := hE.2.2.2
  have hAO := hWm.2.2.2.1
  have hD := hD0.self (sz := s.heap.size)
  have hAF := frA hD0 hE.2.1
  generalize hAe : va_A [(a0, .inr (12, [.int 0, .int 0, .double 0, .null, .null]))] s.heap.size = A at hD hAF ⊢
  have hA : ∀ q : Nat, s.heap.size ≤ q → A q := fun q h => by rw [← hAe]; exact Or.inr h
  have hS : va_S A s.heap s.heap [] := va_S.rf
  have hl := lv_entry ([.ref a0, .int 0, .int 0, .double FP.dconst0, .ref (sa 0), .null]) (n := 7) (Nat.le_of_ble_eq_true rfl)
  rw [lg_entry_eq]
  generalize (lg_sl ([.ref a0, .int 0, .int 0, .double FP.dconst0, .ref (sa 0), .null]) ++ List.replicate (7 - (lg_sl ([.ref a0, .int 0, .int 0, .double FP.dconst0, .ref (sa 0), .null])).length) Slot.unset).toArray = ls at hl ⊢
  have hl : lv_has ls 7 [(0, .ref a0), (1, .int 0), (2, .int 0), (3, .double FP.dconst0), (5, .ref (sa 0)), (6, .null)] := hl
  have hP : va_P D vwCl [(a0, .inr (12, [.int 0, .int 0, .double 0, .null, .null]))] s.heap := hP
  refine lv_aload_n hx hb dX10_init_0 rfl (lv_at hl 0 rfl) ?_
  refine W.objInit hx hb hown (hts (.methodLink RX10 3 objectInit) (List.mem_of_getElem? (i := 1) rfl)) (hts (.instanceMethod objectInit) (List.mem_of_getElem? (i := 2) rfl)) (hts (.code objectInit ⟨#[0xb1]⟩ 1 none) (List.mem_of_getElem? (i := 3) rfl)) rfl (by rw [hml]; exact hl.1) rfl dX10_init_1 (Nat.le_of_ble_eq_true rfl) (Nat.le_of_ble_eq_true rfl) ?_
  refine W.eq (g2 := F0 m 4 ls []) rfl ?_
  refine lv_aload_n hx hb dX10_init_4 rfl (lv_at hl 0 rfl) ?_
  refine lv_iload_n hx hb dX10_init_5 rfl (lv_at hl 1 rfl) ?_
  refine va_putF (D := D) (ci := 12) (v := .int 0) (ty := .int) (C := RX10) (T := TX10) (N := 5) hx hb hts (fun _ h => List.mem_cons_of_mem _ (List.mem_append_right _ h)) tyX10 tyX10_ok nmX10 hown hK hP hD hS 0 rfl rfl 0 (by decide) (hts (.fieldLink RX10 9 "PhraseDesk$Value" "kind" "I") (List.mem_of_getElem? (i := 4) rfl)) (fun _ h9 => h9) rfl hin rfl (by decide +kernel) rfl rfl (Nat.le_of_ble_eq_true rfl) dX10_init_6 (fun H locs hP hD hS => ?_)
  have hP : va_P D vwCl [(a0, .inr (12, [.int 0, .int 0, .double 0, .null, .null]))] H := hP
  have hD : va_D A [(a0, .inr (12, [.int 0, .int 0, .double 0, .null, .null]))] := hD
  refine lv_aload_n hx hb dX10_init_9 rfl (lv_at hl 0 rfl) ?_
  refine lv_iload_n hx hb dX10_init_10 rfl (lv_at hl 2 rfl) ?_
  refine va_putF (D := D) (ci := 12) (v := .int 0) (ty := .int) (C := RX10) (T := TX10) (N := 5) hx hb hts (fun _ h => List.mem_cons_of_mem _ (List.mem_append_right _ h)) tyX10 tyX10_ok nmX10 hown hK hP hD hS 0 rfl rfl 1 (by decide) (hts (.fieldLink RX10 15 "PhraseDesk$Value" "number" "I") (List.mem_of_getElem? (i := 5) rfl)) (fun _ h9 => h9) rfl hin rfl (by decide +kernel) rfl rfl (Nat.le_of_ble_eq_true rfl) dX10_init_11 (fun H locs hP hD hS => ?_)
  have hP : va_P D vwCl [(a0, .inr (12, [.int 0, .int 0, .double 0, .null, .null]))] H := hP
  have hD : va_D A [(a0, .inr (12, [.int 0, .int 0, .double 0, .null, .null]))] := hD
  refine lv_aload_n hx hb dX10_init_14 rfl (lv_at hl 0 rfl) ?_
  refine lv_dload_n hx hb dX10_init_15 rfl (lv_at hl 3 rfl) ?_
  refine va_putF (D := D) (ci := 12) (v := .double FP.dconst0) (ty := .double) (C := RX10) (T := TX10) (N := 5) hx hb hts (fun _ h => List.mem_cons_of_mem _ (List.mem_append_right _ h)) tyX10 tyX10_ok nmX10 hown hK hP hD hS 0 rfl rfl 2 (by decide) (hts (.fieldLink RX10 18 "PhraseDesk$Value" "real" "D") (List.mem_of_getElem? (i := 6) rfl)) (fun _ h9 => h9) rfl hin rfl (by decide +kernel) rfl rfl (Nat.le_of_ble_eq_true rfl) dX10_init_16 (fun H locs hP hD hS => ?_)
  have hP : va_P D vwCl [(a0, .inr (12, [.int 0, .int 0, .double FP.dconst0, .null, .null]))] H := hP
  have hD : va_D A [(a0, .inr (12, [.int 0, .int 0, .double FP.dconst0, .null, .null]))] := hD
  refine lv_aload_n hx hb dX10_init_19 rfl (lv_at hl 0 rfl) ?_
  refine lv_aload hx hb dX10_init_20 (lv_at hl 4 rfl) ?_
  refine va_putF (D := D) (ci := 12) (v := .ref (sa 0)) (ty := .object "java/lang/String") (C := RX10) (T := TX10) (N := 5) hx hb hts (fun _ h => List.mem_cons_of_mem _ (List.mem_append_right _ h)) tyX10 tyX10_ok nmX10 hown hK hP hD hS 0 rfl rfl 3 (by decide) (hts (.fieldLink RX10 22 "PhraseDesk$Value" "chars" "Ljava/lang/String;") (List.mem_of_getElem? (i := 7) rfl)) (fun _ h9 => h9) rfl hin rfl (by decide +kernel) rfl rfl (Nat.le_of_ble_eq_true rfl) dX10_init_22 (fun H locs hP hD hS => ?_)
  have hP : va_P D vwCl [(a0, .inr (12, [.int 0, .int 0, .double FP.dconst0, .ref (sa 0), .null]))] H := hP
  have hD : va_D A [(a0, .inr (12, [.int 0, .int 0, .double FP.dconst0, .ref (sa 0), .null]))] := hD
  refine lv_aload_n hx hb dX10_init_25 rfl (lv_at hl 0 rfl) ?_
  refine lv_aloadN hx hb dX10_init_26 (lv_at hl 5 rfl) ?_
  refine va_putF (D := D) (ci := 12) (v := .null) (ty := .object "PhraseDesk$Thing") (C := RX10) (T := TX10) (N := 5) hx hb hts (fun _ h => List.mem_cons_of_mem _ (List.mem_append_right _ h)) tyX10 tyX10_ok nmX10 hown hK hP hD hS 0 rfl rfl 4 (by decide) (hts (.fieldLink RX10 26 "PhraseDesk$Value" "thing" "LPhraseDesk$Thing;") (List.mem_of_getElem? (i := 8) rfl)) (fun _ h9 => h9) rfl hin rfl (by decide +kernel) rfl rfl (Nat.le_of_ble_eq_true rfl) dX10_init_28 (fun H locs hP hD hS => ?_)
  have hP : va_P D vwCl [(a0, .inr (12, [.int 0, .int 0, .double FP.dconst0, .ref (sa 0), .null]))] H := hP
  have hD : va_D A [(a0, .inr (12, [.int 0, .int 0, .double FP.dconst0, .ref (sa 0), .null]))] := hD
  refine W.widen (k := 0) (n := 0) (Nat.le_of_ble_eq_true rfl) (Nat.le_of_ble_eq_true rfl) ?_
  have hP9 := hP.sub (ws' := [(a0, .inr (12, [.int 0, .int 0, .double FP.dconst0, .ref (sa 0), .null]))]) [0] rfl
  have hD9 := hD.sub (ws' := [(a0, .inr (12, [.int 0, .int 0, .double FP.dconst0, .ref (sa 0), .null]))]) [0] (by decide) rfl
  exact W.vret hx hb hr (fun t ht hW => ⟨⟨(), rfl, trivial, ⟨by rw [ht]; exact hP9, hD9⟩⟩, hS.F ht⟩) hS.2.2 dX10_init_31


set_option maxHeartbeats 600000 in
set_option maxRecDepth 100000 in
theorem C_X10_ofNull_1 (l : Launch) (D : va_G) (cy : Nat → ClassId) (sz0 : Nat) (sa : Nat → Nat)  (sz : Nat)  : Met l yX10_ofNull wsX10_ofNull ({ frames := 2, cells := 1, slots := 5, locals := 46 }) (PcW D cy sz0 sa [] [] sz) (va_Qq (fun (r : Option Nat) (u : Nat) => r = some u) (fun (u : Nat) (t : State) => BW D [(u, .inr (12, [.int 0, .int 0, .double FP.dconst0, .ref (sa 0), .null]))] (va_A [] sz) t) (va_A [] sz)) 1 5 (va_A [] sz) := by
  refine Met.ofW (cc := cX10_ofNull) (maxL := 0) (ret := (some (.object "PhraseDesk$Value"))) (by decide) rfl ?_
  intro p e s m args below meth c s₁ B hml hv
  obtain ⟨rfl, hsz, hP, hD0, hE⟩ := hv
  have hx := B.exec
  have hb := B.bytes
  have hr := B.returns
  have hts := atoms_spec (ws := wsX10_ofNull) B.pre
  have hown : s.vm.findClass RX10 = some m.cls := findClass_of_methodNamed B.named
  have hlocks := B.notSynchronized
  subst hsz
  have hK := hE.1
  have hAm := hE.2.2.1
  have hWm := hE.2.2.2
  have hAO := hWm.2.2.2.1
  have hD := hD0.self (sz := s.heap.size)
  have hAF := frA hD0 hE.2.1
  generalize hAe : va_A [] s.heap.size = A at hD hAF ⊢
  have hA : ∀ q : Nat, s.heap.size ≤ q → A q := fun q h => by rw [← hAe]; exact Or.inr h
  have hS : va_S A s.heap s.heap [] := va_S.rf
  have hl := lv_entry ([]) (n := 0) (Nat.le_of_ble_eq_true rfl)
  rw [lg_entry_eq]
  generalize (lg_sl ([]) ++ List.replicate (0 - (lg_sl ([])).length) Slot.unset).toArray = ls at hl ⊢
  have hl : lv_has ls 0 [] := hl
  have hP : va_P D vwCl [] s.heap := hP
  refine va_new (ci := 12) (fs := [.int 0, .int 0, .double 0, .null, .null]) (C := RX10) (T := TX10) (N := 5) hx hb hts (fun _ h => List.mem_cons_of_mem _ (List.mem_append_right _ h)) tyX10 tyX10_ok hown (hts (.classLink RX10 10 RX10) (List.mem_of_getElem? (i := 1) rfl)) (hts (.instantiable RX10 5) (List.mem_of_getElem? (i := 2) rfl)) (hts (.initialized RX10) (List.mem_of_getElem? (i := 3) rfl)) hK hP hD hS hA rfl (fun j hj => by rcases (show j = 0 ∨ j = 1 ∨ j = 2 ∨ j = 3 ∨ j = 4 by omega) with rfl | rfl | rfl | rfl | rfl <;> rfl) (Nat.le_of_ble_eq_true rfl) (Nat.le_of_ble_eq_true rfl) dX10_ofNull_0 (fun q1 H hP hD hS => ?_)
  have hP : va_P D vwCl [(q1, .inr (12, [.int 0, .int 0, .double 0, .null, .null]))] H := hP
  have hD : va_D A [(q1, .inr (12, [.int 0, .int 0, .double 0, .null, .null]))] := hD
  refine W.widen (k := 1) (n := 5) (Nat.le_of_ble_eq_true rfl) (Nat.le_of_ble_eq_true rfl) ?_
  refine lv_dup hx hb dX10_ofNull_3 rfl ?_
  refine lv_iconst (v := 0) hx hb dX10_ofNull_4 (by decide +kernel) ?_
  refine lv_iconst (v := 0) hx hb dX10_ofNull_5 (by decide +kernel) ?_
  refine lv_dconst0 hx hb dX10_ofNull_6 ?_
  refine va_ldcS hx hb hown hWm.2.1 dX10_ofNull_7 ?_
  refine lv_null hx hb dX10_ofNull_9 ?_
  have hPc := hP.sub (ws' := [(q1, .inr (12, [.int 0, .int 0, .double 0, .null, .null]))]) [0] rfl
  have hDc := hD.sub (ws' := [(q1, .inr (12, [.int 0, .int 0, .double 0, .null, .null]))]) [0] (by decide) rfl
  have hFc := va_free (wc := [(q1, .inr (12, [.int 0, .int 0, .double 0, .null, .null]))]) hD hS hA [0] rfl
  refine va_callv (va_runI (As := [.int 0, .int 0, .double FP.dconst0, .ref (sa 0), .null]) (rest := [.ref q1]) ⟨hx, hb, hml, hown, hts⟩ (C_X10_init_1 l D cy sz0 sa q1 H.size) (cwI 5 hts gX10_ofNull_X10_init rfl rfl rfl (hts (.initialized RX10) (List.mem_of_getElem? (i := 3) rfl)) (hts (.methodLink RX10 32 yX10_init) (List.mem_of_getElem? (i := 4) rfl)) (hts (.instanceMethod yX10_init) (List.mem_of_getElem? (i := 5) rfl)) rfl (by decide +kernel) ⟨Nat.le_of_ble_eq_true rfl, Nat.le_of_ble_eq_true rfl⟩) ⟨PcW.blind, PcW.mk hE hS hAF hPc hDc⟩ rfl rfl hl.1 rfl (lv_room (Nat.le_of_ble_eq_true rfl)) dX10_ofNull_10 ⟨Nat.le_of_ble_eq_true rfl, Nat.le_of_ble_eq_true rfl⟩) hS (fun q _ h => hFc q h) hFc (fun u t H1 locs ht hvm hw hB hz1 hk1 hS => ?_)
  obtain ⟨hP1, hD1⟩ := hB
  rw [ht] at hP1
  have hP1 : va_P D vwCl [(q1, .inr (12, [.int 0, .int 0, .double FP.dconst0, .ref (sa 0), .null]))] H1 := hP1
  obtain ⟨hP, hD⟩ := va_join (wr := []) (w1 := [(q1, .inr (12, [.int 0, .int 0, .double FP.dconst0, .ref (sa 0), .null]))]) hP hD [0] [] rfl rfl (by decide) (by decide) hk1 hFc hP1 hD1
  clear hP1 hD1 hPc hDc hFc hk1 hz1
  generalize H1 = H at hP hS ⊢
  have hP : va_P D vwCl [(q1, .inr (12, [.int 0, .int 0, .double FP.dconst0, .ref (sa 0), .null]))] H := hP
  have hD : va_D A [(q1, .inr (12, [.int 0, .int 0, .double FP.dconst0, .ref (sa 0), .null]))] := hD
  refine W.widen (k := 1) (n := 5) (Nat.le_of_ble_eq_true rfl) (Nat.le_of_ble_eq_true rfl) ?_
  refine W.widen (k := 1) (n := 5) (Nat.le_of_ble_eq_true rfl) (Nat.le_of_ble_eq_true rfl) ?_
  have hP9 := hP.sub (ws' := [(q1, .inr (12, [.int 0, .int 0, .double FP.dconst0, .ref (sa 0), .null]))]) [0] rfl
  have hD9 := hD.sub (ws' := [(q1, .inr (12, [.int 0, .int 0, .double FP.dconst0, .ref (sa 0), .null]))]) [0] (by decide) rfl
  exact W.aret (v := .ref q1) hx hb hr (Or.inl ⟨_, rfl⟩) (Or.inr ⟨_, rfl⟩) (fun t ht hW => ⟨⟨(some q1), q1, rfl, rfl, ⟨by rw [ht]; exact hP9, hD9⟩⟩, hS.F ht⟩) hS.2.2 dX10_ofNull_13


set_option maxHeartbeats 600000 in
set_option maxRecDepth 100000 in
theorem C_X0_init_1 (l : Launch) (D : va_G) (cy : Nat → ClassId) (sz0 : Nat) (sa : Nat → Nat) (a0 : Nat) (sz : Nat)  : Met l yX0_init wsX0_init ({ frames := 3, cells := 3, slots := 85, locals := 61 }) (PcW D cy sz0 sa [.ref a0] [(a0, .inr (2, [.null, .null]))] sz) (va_Qv (fun (u : Unit) => True) (fun (u : Unit) (t : State) => ∃ (n0 n1 n2 : Nat), BW D [(a0, .inr (2, [.ref n0, .ref n1])), (n0, .inl (cy 2, 65, .inl (fun _ => 0))), (n1, .inr (1, [.ref n2, .int 0, .int 0, .int 0])), (n2, .inl (cy 5, 16, .inl (fun _ => 0)))] (va_A [(a0, .inr (2, [.null, .null]))] sz) t) (va_A [(a0, .inr (2, [.null, .null]))] sz)) 3 85 (va_A [(a0, .inr (2, [.null, .null]))] sz) := by
  refine Met.ofW (cc := cX0_init) (maxL := 1) (ret := none) (by decide) rfl ?_
  intro p e s m args below meth c s₁ B hml hv
  obtain ⟨rfl, hsz, hP, hD0, hE⟩ := hv
  have hx := B.exec
  have hb := B.bytes
  have hr := B.returns
  have hts := atoms_spec (ws := wsX0_init) B.pre
  have hown : s.vm.findClass RX0 = some m.cls := findClass_of_methodNamed B.named
  have hlocks := B.notSynchronized
  have hin : meth.name = "<init>" := (name_of_methodNamed B.named B.method).1
  subst hsz
  have hK := hE.1
  have hAm := hE.2.2.1
  have hWm := hE.2.2.2
  have hAO := hWm.2.2.2.1
  have hD := hD0.self (sz := s.heap.size)
  have hAF := frA hD0 hE.2.1
  generalize hAe : va_A [(a0, .inr (2, [.null, .null]))] s.heap.size = A at hD hAF ⊢
  have hA : ∀ q : Nat, s.heap.size ≤ q → A q := fun q h => by rw [← hAe]; exact Or.inr h
  have hS : va_S A s.heap s.heap [] := va_S.rf
  have hl := lv_entry ([.ref a0]) (n := 1) (Nat.le_of_ble_eq_true rfl)
  rw [lg_entry_eq]
  generalize (lg_sl ([.ref a0]) ++ List.replicate (1 - (lg_sl ([.ref a0])).length) Slot.unset).toArray = ls at hl ⊢
  have hl : lv_has ls 1 [(0, .ref a0)] := hl
  have hP : va_P D vwCl [(a0, .inr (2, [.null, .null]))] s.heap := hP
  refine lv_aload_n hx hb dX0_init_0 rfl (lv_at hl 0 rfl) ?_
  refine W.objInit hx hb hown (hts (.methodLink RX0 3 objectInit) (List.mem_of_getElem? (i := 1) rfl)) (hts (.instanceMethod objectInit) (List.mem_of_getElem? (i := 2) rfl)) (hts (.code objectInit ⟨#[0xb1]⟩ 1 none) (List.mem_of_getElem? (i := 3) rfl)) rfl (by rw [hml]; exact hl.1) rfl dX0_init_1 (Nat.le_of_ble_eq_true rfl) (Nat.le_of_ble_eq_true rfl) ?_
  refine W.eq (g2 := F0 m 4 ls []) rfl ?_
  refine lv_aload_n hx hb dX0_init_4 rfl (lv_at hl 0 rfl) ?_
  refine lv_bipush (v := 65) hx hb dX0_init_5 (by decide +kernel) ?_
  refine g_newa (atype := .boolean) (ty := .boolean) hx hb (hts (.arrayClass .boolean) (List.mem_of_getElem? (i := 4) rfl)) rfl hK hP hD hS hA 2 rfl (a0 := (65, .inl (fun _ => 0))) (N' := 65) (za_2 65) (by decide +kernel) (by decide +kernel) (by decide +kernel) (Nat.le_of_ble_eq_true rfl) (Nat.le_of_ble_eq_true rfl) dX0_init_7 (fun q1 H hP hD hS => ?_)
  have hP : va_P D vwCl [(a0, .inr (2, [.null, .null])), (q1, .inl (cy 2, 65, .inl (fun _ => 0)))] H := hP
  have hD : va_D A [(a0, .inr (2, [.null, .null])), (q1, .inl (cy 2, 65, .inl (fun _ => 0)))] := hD
  refine W.widen (k := 1) (n := 65) (Nat.le_of_ble_eq_true rfl) (Nat.le_of_ble_eq_true rfl) ?_
  refine va_putF (D := D) (ci := 2) (v := .ref q1) (ty := .array .boolean) (C := RX0) (T := TX0) (N := 2) hx hb hts (fun _ h => List.mem_cons_of_mem _ (List.mem_append_left _ (List.mem_append_right _ h))) tyX0 tyX0_ok nmX0 hown hK hP hD hS 0 rfl rfl 0 (by decide) (hts (.fieldLink RX0 11 "PhraseDesk$Converters" "there" "[Z") (List.mem_of_getElem? (i := 5) rfl)) (fun _ h9 => h9) rfl hin rfl (by decide +kernel) rfl rfl (Nat.le_of_ble_eq_true rfl) dX0_init_9 (fun H locs hP hD hS => ?_)
  have hP : va_P D vwCl [(a0, .inr (2, [.ref q1, .null])), (q1, .inl (cy 2, 65, .inl (fun _ => 0)))] H := hP
  have hD : va_D A [(a0, .inr (2, [.ref q1, .null])), (q1, .inl (cy 2, 65, .inl (fun _ => 0)))] := hD
  refine lv_aload_n hx hb dX0_init_12 rfl (lv_at hl 0 rfl) ?_
  refine va_new (ci := 1) (fs := [.null, .int 0, .int 0, .int 0]) (C := RJ4) (T := TJ4) (N := 4) hx hb hts (fun _ h => List.mem_cons_of_mem _ (List.mem_append_right _ h)) tyJ4 tyJ4_ok hown (hts (.classLink RX0 15 RJ4) (List.mem_of_getElem? (i := 6) rfl)) (hts (.instantiable RJ4 4) (List.mem_of_getElem? (i := 7) rfl)) (hts (.initialized RJ4) (List.mem_of_getElem? (i := 8) rfl)) hK hP hD hS hA rfl (fun j hj => by rcases (show j = 0 ∨ j = 1 ∨ j = 2 ∨ j = 3 by omega) with rfl | rfl | rfl | rfl <;> rfl) (Nat.le_of_ble_eq_true rfl) (Nat.le_of_ble_eq_true rfl) dX0_init_13 (fun q2 H hP hD hS => ?_)
  have hP : va_P D vwCl [(a0, .inr (2, [.ref q1, .null])), (q1, .inl (cy 2, 65, .inl (fun _ => 0))), (q2, .inr (1, [.null, .int 0, .int 0, .int 0]))] H := hP
  have hD : va_D A [(a0, .inr (2, [.ref q1, .null])), (q1, .inl (cy 2, 65, .inl (fun _ => 0))), (q2, .inr (1, [.null, .int 0, .int 0, .int 0]))] := hD
  refine W.widen (k := 2) (n := 69) (Nat.le_of_ble_eq_true rfl) (Nat.le_of_ble_eq_true rfl) ?_
  refine lv_dup hx hb dX0_init_16 rfl ?_
  have hPc := hP.sub (ws' := [(q2, .inr (1, [.null, .int 0, .int 0, .int 0]))]) [2] rfl
  have hDc := hD.sub (ws' := [(q2, .inr (1, [.null, .int 0, .int 0, .int 0]))]) [2] (by decide) rfl
  have hFc := va_free (wc := [(q2, .inr (1, [.null, .int 0, .int 0, .int 0]))]) hD hS hA [2] rfl
  refine va_callv (va_runI (As := []) (rest := [.ref q2, .ref a0]) ⟨hx, hb, hml, hown, hts⟩ (C_J4_init_da8c8_1 l D cy sz0 sa q2 H.size) (cwI 0 hts gX0_init_J4_init_da8c8 rfl rfl rfl (hts (.initialized RJ4) (List.mem_of_getElem? (i := 8) rfl)) (hts (.methodLink RX0 17 yJ4_init_da8c8) (List.mem_of_getElem? (i := 10) rfl)) (hts (.instanceMethod yJ4_init_da8c8) (List.mem_of_getElem? (i := 11) rfl)) rfl (by decide +kernel) ⟨Nat.le_of_ble_eq_true rfl, Nat.le_of_ble_eq_true rfl⟩) ⟨PcW.blind, PcW.mk hE hS hAF hPc hDc⟩ rfl rfl hl.1 rfl (lv_room (Nat.le_of_ble_eq_true rfl)) dX0_init_17 ⟨Nat.le_of_ble_eq_true rfl, Nat.le_of_ble_eq_true rfl⟩) hS (fun q _ h => hFc q h) hFc (fun u t H1 locs ht hvm hw hB hz1 hk1 hS => ?_)
  obtain ⟨q3, hP1, hD1⟩ := hB
  rw [ht] at hP1
  have hP1 : va_P D vwCl [(q2, .inr (1, [.ref q3, .int 0, .int 0, .int 0])), (q3, .inl (cy 5, 16, .inl (fun _ => 0)))] H1 := hP1
  obtain ⟨hP, hD⟩ := va_join (wr := [(a0, .inr (2, [.ref q1, .null])), (q1, .inl (cy 2, 65, .inl (fun _ => 0)))]) (w1 := [(q2, .inr (1, [.ref q3, .int 0, .int 0, .int 0])), (q3, .inl (cy 5, 16, .inl (fun _ => 0)))]) hP hD [2] [0, 1] rfl rfl (by decide) (by decide) hk1 hFc hP1 hD1
  clear hP1 hD1 hPc hDc hFc hk1 hz1
  generalize H1 = H at hP hS ⊢
  have hP : va_P D vwCl [(a0, .inr (2, [.ref q1, .null])), (q1, .inl (cy 2, 65, .inl (fun _ => 0))), (q2, .inr (1, [.ref q3, .int 0, .int 0, .int 0])), (q3, .inl (cy 5, 16, .inl (fun _ => 0)))] H := hP
  have hD : va_D A [(a0, .inr (2, [.ref q1, .null])), (q1, .inl (cy 2, 65, .inl (fun _ => 0))), (q2, .inr (1, [.ref q3, .int 0, .int 0, .int 0])), (q3, .inl (cy 5, 16, .inl (fun _ => 0)))] := hD
  refine W.widen (k := 3) (n := 85) (Nat.le_of_ble_eq_true rfl) (Nat.le_of_ble_eq_true rfl) ?_
  refine va_putF (D := D) (ci := 2) (v := .ref q2) (ty := .object "java/lang/StringBuilder") (C := RX0) (T := TX0) (N := 2) hx hb hts (fun _ h => List.mem_cons_of_mem _ (List.mem_append_left _ (List.mem_append_right _ h))) tyX0 tyX0_ok nmX0 hown hK hP hD hS 0 rfl rfl 1 (by decide) (hts (.fieldLink RX0 18 "PhraseDesk$Converters" "scratch" "Ljava/lang/StringBuilder;") (List.mem_of_getElem? (i := 9) rfl)) (fun _ h9 => h9) rfl hin rfl (by decide +kernel) rfl rfl (Nat.le_of_ble_eq_true rfl) dX0_init_20 (fun H locs hP hD hS => ?_)
  have hP : va_P D vwCl [(a0, .inr (2, [.ref q1, .ref q2])), (q1, .inl (cy 2, 65, .inl (fun _ => 0))), (q2, .inr (1, [.ref q3, .int 0, .int 0, .int 0])), (q3, .inl (cy 5, 16, .inl (fun _ => 0)))] H := hP
  have hD : va_D A [(a0, .inr (2, [.ref q1, .ref q2])), (q1, .inl (cy 2, 65, .inl (fun _ => 0))), (q2, .inr (1, [.ref q3, .int 0, .int 0, .int 0])), (q3, .inl (cy 5, 16, .inl (fun _ => 0)))] := hD
  refine W.widen (k := 3) (n := 85) (Nat.le_of_ble_eq_true rfl) (Nat.le_of_ble_eq_true rfl) ?_
  have hP9 := hP.sub (ws' := [(a0, .inr (2, [.ref q1, .ref q2])), (q1, .inl (cy 2, 65, .inl (fun _ => 0))), (q2, .inr (1, [.ref q3, .int 0, .int 0, .int 0])), (q3, .inl (cy 5, 16, .inl (fun _ => 0)))]) [0, 1, 2, 3] rfl
  have hD9 := hD.sub (ws' := [(a0, .inr (2, [.ref q1, .ref q2])), (q1, .inl (cy 2, 65, .inl (fun _ => 0))), (q2, .inr (1, [.ref q3, .int 0, .int 0, .int 0])), (q3, .inl (cy 5, 16, .inl (fun _ => 0)))]) [0, 1, 2, 3] (by decide) rfl
  exact W.vret hx hb hr (fun t ht hW => ⟨⟨(), rfl, trivial, ⟨q1, q2, q3, by rw [ht]; exact hP9, hD9⟩⟩, hS.F ht⟩) hS.2.2 dX0_init_23


set_option maxHeartbeats 600000 in
set_option maxRecDepth 100000 in
theorem C_X3_init_1 (l : Launch) (D : va_G) (cy : Nat → ClassId) (sz0 : Nat) (sa : Nat → Nat) (a0 : Nat) (sz : Nat)  : Met l yX3_init wsX3_init ({ frames := 1, cells := 1, slots := 30, locals := 20 }) (PcW D cy sz0 sa [.ref a0] [(a0, .inr (5, [.null, .int 0, .int 0]))] sz) (va_Qv (fun (u : Unit) => True) (fun (u : Unit) (t : State) => ∃ (n0 : Nat), BW D [(a0, .inr (5, [.ref n0, .int 0, .int 0])), (n0, .inl (cy 9, 30, .inr (.inr (.inr (.inr (fun _ => none))))))] (va_A [(a0, .inr (5, [.null, .int 0, .int 0]))] sz) t) (va_A [(a0, .inr (5, [.null, .int 0, .int 0]))] sz)) 1 30 (va_A [(a0, .inr (5, [.null, .int 0, .int 0]))] sz) := by
  refine Met.ofW (cc := cX3_init) (maxL := 1) (ret := none) (by decide) rfl ?_
  intro p e s m args below meth c s₁ B hml hv
  obtain ⟨rfl, hsz, hP, hD0, hE⟩ := hv
  have hx := B.exec
  have hb := B.bytes
  have hr := B.returns
  have hts := atoms_spec (ws := wsX3_init) B.pre
  have hown : s.vm.findClass RX3 = some m.cls := findClass_of_methodNamed B.named
  have hlocks := B.notSynchronized
  have hin : meth.name = "<init>" := (name_of_methodNamed B.named B.method).1
  subst hsz
  have hK := hE.1
  have hAm := hE.2.2.1
  have hWm := hE.2.2.2
  have hAO := hWm.2.2.2.1
  have hD := hD0.self (sz := s.heap.size)
  have hAF := frA hD0 hE.2.1
  generalize hAe : va_A [(a0, .inr (5, [.null, .int 0, .int 0]))] s.heap.size = A at hD hAF ⊢
  have hA : ∀ q : Nat, s.heap.size ≤ q → A q := fun q h => by rw [← hAe]; exact Or.inr h
  have hS : va_S A s.heap s.heap [] := va_S.rf
  have hl := lv_entry ([.ref a0]) (n := 1) (Nat.le_of_ble_eq_true rfl)
  rw [lg_entry_eq]
  generalize (lg_sl ([.ref a0]) ++ List.replicate (1 - (lg_sl ([.ref a0])).length) Slot.unset).toArray = ls at hl ⊢
  have hl : lv_has ls 1 [(0, .ref a0)] := hl
  have hP : va_P D vwCl [(a0, .inr (5, [.null, .int 0, .int 0]))] s.heap := hP
  refine lv_aload_n hx hb dX3_init_0 rfl (lv_at hl 0 rfl) ?_
  refine W.objInit hx hb hown (hts (.methodLink RX3 3 objectInit) (List.mem_of_getElem? (i := 1) rfl)) (hts (.instanceMethod objectInit) (List.mem_of_getElem? (i := 2) rfl)) (hts (.code objectInit ⟨#[0xb1]⟩ 1 none) (List.mem_of_getElem? (i := 3) rfl)) rfl (by rw [hml]; exact hl.1) rfl dX3_init_1 (Nat.le_of_ble_eq_true rfl) (Nat.le_of_ble_eq_true rfl) ?_
  refine W.eq (g2 := F0 m 4 ls []) rfl ?_
  refine lv_aload_n hx hb dX3_init_4 rfl (lv_at hl 0 rfl) ?_
  refine lv_bipush (v := 30) hx hb dX3_init_5 (by decide +kernel) ?_
  refine g_newq (C := "PhraseDesk$Routine") hx hb hown (hts (.classLink RX3 9 RX7) (List.mem_of_getElem? (i := 4) rfl)) hAO.2.2.2.1 hK hP hD hS hA 9 rfl (N' := 30) (by decide +kernel) (by decide +kernel) (by decide +kernel) (Nat.le_of_ble_eq_true rfl) (Nat.le_of_ble_eq_true rfl) dX3_init_7 (fun q1 H hP hD hS => ?_)
  have hP : va_P D vwCl [(a0, .inr (5, [.null, .int 0, .int 0])), (q1, .inl (cy 9, 30, .inr (.inr (.inr (.inr (fun _ => none))))))] H := hP
  have hD : va_D A [(a0, .inr (5, [.null, .int 0, .int 0])), (q1, .inl (cy 9, 30, .inr (.inr (.inr (.inr (fun _ => none))))))] := hD
  refine W.widen (k := 1) (n := 30) (Nat.le_of_ble_eq_true rfl) (Nat.le_of_ble_eq_true rfl) ?_
  refine va_putF (D := D) (ci := 5) (v := .ref q1) (ty := .array (.object "PhraseDesk$Routine")) (C := RX3) (T := TX3) (N := 3) hx hb hts (fun _ h => List.mem_cons_of_mem _ (List.mem_append_right _ h)) tyX3 tyX3_ok nmX3 hown hK hP hD hS 0 rfl rfl 0 (by decide) (hts (.fieldLink RX3 11 "PhraseDesk$Finder" "candidates" "[LPhraseDesk$Routine;") (List.mem_of_getElem? (i := 5) rfl)) (fun _ h9 => h9) rfl hin rfl (by decide +kernel) rfl rfl (Nat.le_of_ble_eq_true rfl) dX3_init_10 (fun H locs hP hD hS => ?_)
  have hP : va_P D vwCl [(a0, .inr (5, [.ref q1, .int 0, .int 0])), (q1, .inl (cy 9, 30, .inr (.inr (.inr (.inr (fun _ => none))))))] H := hP
  have hD : va_D A [(a0, .inr (5, [.ref q1, .int 0, .int 0])), (q1, .inl (cy 9, 30, .inr (.inr (.inr (.inr (fun _ => none))))))] := hD
  refine W.widen (k := 1) (n := 30) (Nat.le_of_ble_eq_true rfl) (Nat.le_of_ble_eq_true rfl) ?_
  have hP9 := hP.sub (ws' := [(a0, .inr (5, [.ref q1, .int 0, .int 0])), (q1, .inl (cy 9, 30, .inr (.inr (.inr (.inr (fun _ => none))))))]) [0, 1] rfl
  have hD9 := hD.sub (ws' := [(a0, .inr (5, [.ref q1, .int 0, .int 0])), (q1, .inl (cy 9, 30, .inr (.inr (.inr (.inr (fun _ => none))))))]) [0, 1] (by decide) rfl
  exact W.vret hx hb hr (fun t ht hW => ⟨⟨(), rfl, trivial, ⟨q1, by rw [ht]; exact hP9, hD9⟩⟩, hS.F ht⟩) hS.2.2 dX3_init_13


set_option maxHeartbeats 600000 in
set_option maxRecDepth 100000 in
theorem C_X8_init_1 (l : Launch) (D : va_G) (cy : Nat → ClassId) (sz0 : Nat) (sa : Nat → Nat) (a0 : Nat) (sz : Nat)  : Met l yX8_init wsX8_init ({ frames := 4, cells := 9, slots := 149, locals := 81 }) (PcW D cy sz0 sa [.ref a0] [(a0, .inr (10, [.null, .null, .null, .null, .null, .int 0, .null, .int 0]))] sz) (va_Qv (fun (u : Unit) => True) (fun (u : Unit) (t : State) => ∃ (n0 n1 n2 n3 n4 n5 n6 n7 n8 : Nat), BW D [(a0, .inr (10, [.ref n0, .ref n1, .ref n5, .ref n7, .ref n8, .int 0, .ref n0, .int 0])), (n0, .inr (12, [.int 0, .int 0, .double FP.dconst0, .ref (sa 0), .null])), (n1, .inr (2, [.ref n2, .ref n3])), (n2, .inl (cy 2, 65, .inl (fun _ => 0))), (n3, .inr (1, [.ref n4, .int 0, .int 0, .int 0])), (n4, .inl (cy 5, 16, .inl (fun _ => 0))), (n5, .inr (5, [.ref n6, .int 0, .int 0])), (n6, .inl (cy 9, 30, .inr (.inr (.inr (.inr (fun _ => none)))))), (n7, .inl (cy 0, 12, .inl (fun _ => 0))), (n8, .inl (cy 6, 12, .inr (.inr (.inr (.inr (fun _ => none))))))] (va_A [(a0, .inr (10, [.null, .null, .null, .null, .null, .int 0, .null, .int 0]))] sz) t) (va_A [(a0, .inr (10, [.null, .null, .null, .null, .null, .int 0, .null, .int 0]))] sz)) 9 149 (va_A [(a0, .inr (10, [.null, .null, .null, .null, .null, .int 0, .null, .int 0]))] sz) := by
  refine Met.ofW (cc := cX8_init) (maxL := 1) (ret := none) (by decide) rfl ?_
  intro p e s m args below meth c s₁ B hml hv
  obtain ⟨rfl, hsz, hP, hD0, hE⟩ := hv
  have hx := B.exec
  have hb := B.bytes
  have hr := B.returns
  have hts := atoms_spec (ws := wsX8_init) B.pre
  have hown : s.vm.findClass RX8 = some m.cls := findClass_of_methodNamed B.named
  have hlocks := B.notSynchronized
  have hin : meth.name = "<init>" := (name_of_methodNamed B.named B.method).1
  subst hsz
  have hK := hE.1
  have hAm := hE.2.2.1
  have hWm := hE.2.2.2
  have hAO := hWm.2.2.2.1
  have hD := hD0.self (sz := s.heap.size)
  have hAF := frA hD0 hE.2.1
  generalize hAe : va_A [(a0, .inr (10, [.null, .null, .null, .null, .null, .int 0, .null, .int 0]))] s.heap.size = A at hD hAF ⊢
  have hA : ∀ q : Nat, s.heap.size ≤ q → A q := fun q h => by rw [← hAe]; exact Or.inr h
  have hS : va_S A s.heap s.heap [] := va_S.rf
  have hl := lv_entry ([.ref a0]) (n := 1) (Nat.le_of_ble_eq_true rfl)
  rw [lg_entry_eq]
  generalize (lg_sl ([.ref a0]) ++ List.replicate (1 - (lg_sl ([.ref a0])).length) Slot.unset).toArray = ls at hl ⊢
  have hl : lv_has ls 1 [(0, .ref a0)] := hl
  have hP : va_P D vwCl [(a0, .inr (10, [.null, .null, .null, .null, .null, .int 0, .null, .int 0]))] s.heap := hP
  refine lv_aload_n hx hb dX8_init_0 rfl (lv_at hl 0 rfl) ?_
  refine W.objInit hx hb hown (hts (.methodLink RX8 3 objectInit) (List.mem_of_getElem? (i := 1) rfl)) (hts (.instanceMethod objectInit) (List.mem_of_getElem? (i := 2) rfl)) (hts (.code objectInit ⟨#[0xb1]⟩ 1 none) (List.mem_of_getElem? (i := 3) rfl)) rfl (by rw [hml]; exact hl.1) rfl dX8_init_1 (Nat.le_of_ble_eq_true rfl) (Nat.le_of_ble_eq_true rfl) ?_
  refine W.eq (g2 := F0 m 4 ls []) rfl ?_
  refine lv_aload_n hx hb dX8_init_4 rfl (lv_at hl 0 rfl) ?_
  have hPc := hP.sub (ws' := []) [] rfl
  have hDc := hD.sub (ws' := []) [] (by decide) rfl
  have hFc := va_free (wc := []) hD hS hA [] rfl
  refine va_callq (va_runS (As := []) (rest := [.ref a0]) ⟨hx, hb, hml, hown, hts⟩ (C_X10_ofNull_1 l D cy sz0 sa s.heap.size) (va_cwS 0 hts gX8_init_X10_ofNull rfl rfl rfl (by decide +kernel) ⟨Nat.le_of_ble_eq_true rfl, Nat.le_of_ble_eq_true rfl⟩) ⟨PcW.blind, PcW.mk hE hS hAF hPc hDc⟩ rfl rfl hl.1 rfl (lv_room (Nat.le_of_ble_eq_true rfl)) dX8_init_5 ⟨Nat.le_of_ble_eq_true rfl, Nat.le_of_ble_eq_true rfl⟩) hS (fun q _ h => hFc q h) hFc (fun r_2 u t H1 locs ht hvm hw hB hz1 hk1 hS => ?_)
  obtain ⟨q1, rfl⟩ : ∃ z, z = u := ⟨_, rfl⟩
  obtain ⟨hP1, hD1⟩ := hB
  rw [ht] at hP1
  have hP1 : va_P D vwCl [(q1, .inr (12, [.int 0, .int 0, .double FP.dconst0, .ref (sa 0), .null]))] H1 := hP1
  obtain ⟨hP, hD⟩ := va_join (wr := [(a0, .inr (10, [.null, .null, .null, .null, .null, .int 0, .null, .int 0]))]) (w1 := [(q1, .inr (12, [.int 0, .int 0, .double FP.dconst0, .ref (sa 0), .null]))]) hP hD [] [0] rfl rfl (by decide) (by decide) hk1 hFc hP1 hD1
  clear hP1 hD1 hPc hDc hFc hk1 hz1
  generalize H1 = H at hP hS ⊢
  have hP : va_P D vwCl [(a0, .inr (10, [.null, .null, .null, .null, .null, .int 0, .null, .int 0])), (q1, .inr (12, [.int 0, .int 0, .double FP.dconst0, .ref (sa 0), .null]))] H := hP
  have hD : va_D A [(a0, .inr (10, [.null, .null, .null, .null, .null, .int 0, .null, .int 0])), (q1, .inr (12, [.int 0, .int 0, .double FP.dconst0, .ref (sa 0), .null]))] := hD
  refine W.widen (k := 1) (n := 5) (Nat.le_of_ble_eq_true rfl) (Nat.le_of_ble_eq_true rfl) ?_
  obtain rfl : r_2 = some q1 := hw
  refine W.eq (g2 := F0 m 8 ls [.ref q1, .ref a0]) rfl ?_
  refine va_putF (D := D) (ci := 10) (v := .ref q1) (ty := .object "PhraseDesk$Value") (C := RX8) (T := TX8) (N := 8) hx hb hts (fun _ h => List.mem_cons_of_mem _ (List.mem_append_left _ (List.mem_append_left _ (List.mem_append_left _ (List.mem_append_left _ (List.mem_append_right _ h)))))) tyX8 tyX8_ok nmX8 hown hK hP hD hS 0 rfl rfl 0 (by decide) (hts (.fieldLink RX8 15 "PhraseDesk$Runner" "nothing" "LPhraseDesk$Value;") (List.mem_of_getElem? (i := 4) rfl)) (fun _ h9 => h9) rfl hin rfl (by decide +kernel) rfl rfl (Nat.le_of_ble_eq_true rfl) dX8_init_8 (fun H locs hP hD hS => ?_)
  have hP : va_P D vwCl [(a0, .inr (10, [.ref q1, .null, .null, .null, .null, .int 0, .null, .int 0])), (q1, .inr (12, [.int 0, .int 0, .double FP.dconst0, .ref (sa 0), .null]))] H := hP
  have hD : va_D A [(a0, .inr (10, [.ref q1, .null, .null, .null, .null, .int 0, .null, .int 0])), (q1, .inr (12, [.int 0, .int 0, .double FP.dconst0, .ref (sa 0), .null]))] := hD
  refine lv_aload_n hx hb dX8_init_11 rfl (lv_at hl 0 rfl) ?_
  refine va_new (ci := 2) (fs := [.null, .null]) (C := RX0) (T := TX0) (N := 2) hx hb hts (fun _ h => List.mem_cons_of_mem _ (List.mem_append_left _ (List.mem_append_left _ (List.mem_append_left _ (List.mem_append_right _ h))))) tyX0 tyX0_ok hown (hts (.classLink RX8 21 RX0) (List.mem_of_getElem? (i := 5) rfl)) (hts (.instantiable RX0 2) (List.mem_of_getElem? (i := 6) rfl)) (hts (.initialized RX0) (List.mem_of_getElem? (i := 7) rfl)) hK hP hD hS hA rfl (fun j hj => by rcases (show j = 0 ∨ j = 1 by omega) with rfl | rfl <;> rfl) (Nat.le_of_ble_eq_true rfl) (Nat.le_of_ble_eq_true rfl) dX8_init_12 (fun q3 H hP hD hS => ?_)
  have hP : va_P D vwCl [(a0, .inr (10, [.ref q1, .null, .null, .null, .null, .int 0, .null, .int 0])), (q1, .inr (12, [.int 0, .int 0, .double FP.dconst0, .ref (sa 0), .null])), (q3, .inr (2, [.null, .null]))] H := hP
  have hD : va_D A [(a0, .inr (10, [.ref q1, .null, .null, .null, .null, .int 0, .null, .int 0])), (q1, .inr (12, [.int 0, .int 0, .double FP.dconst0, .ref (sa 0), .null])), (q3, .inr (2, [.null, .null]))] := hD
  refine W.widen (k := 2) (n := 7) (Nat.le_of_ble_eq_true rfl) (Nat.le_of_ble_eq_true rfl) ?_
  refine lv_dup hx hb dX8_init_15 rfl ?_
  have hPc := hP.sub (ws' := [(q3, .inr (2, [.null, .null]))]) [2] rfl
  have hDc := hD.sub (ws' := [(q3, .inr (2, [.null, .null]))]) [2] (by decide) rfl
  have hFc := va_free (wc := [(q3, .inr (2, [.null, .null]))]) hD hS hA [2] rfl
  refine va_callv (va_runI (As := []) (rest := [.ref q3, .ref a0]) ⟨hx, hb, hml, hown, hts⟩ (C_X0_init_1 l D cy sz0 sa q3 H.size) (cwI 0 hts gX8_init_X0_init rfl rfl rfl (hts (.initialized RX0) (List.mem_of_getElem? (i := 7) rfl)) (hts (.methodLink RX8 23 yX0_init) (List.mem_of_getElem? (i := 33) rfl)) (hts (.instanceMethod yX0_init) (List.mem_of_getElem? (i := 34) rfl)) rfl (by decide +kernel) ⟨Nat.le_of_ble_eq_true rfl, Nat.le_of_ble_eq_true rfl⟩) ⟨PcW.blind, PcW.mk hE hS hAF hPc hDc⟩ rfl rfl hl.1 rfl (lv_room (Nat.le_of_ble_eq_true rfl)) dX8_init_16 ⟨Nat.le_of_ble_eq_true rfl, Nat.le_of_ble_eq_true rfl⟩) hS (fun q _ h => hFc q h) hFc (fun u t H1 locs ht hvm hw hB hz1 hk1 hS => ?_)
  obtain ⟨q4, q5, q6, hP1, hD1⟩ := hB
  rw [ht] at hP1
  have hP1 : va_P D vwCl [(q3, .inr (2, [.ref q4, .ref q5])), (q4, .inl (cy 2, 65, .inl (fun _ => 0))), (q5, .inr (1, [.ref q6, .int 0, .int 0, .int 0])), (q6, .inl (cy 5, 16, .inl (fun _ => 0)))] H1 := hP1
  obtain ⟨hP, hD⟩ := va_join (wr := [(a0, .inr (10, [.ref q1, .null, .null, .null, .null, .int 0, .null, .int 0])), (q1, .inr (12, [.int 0, .int 0, .double FP.dconst0, .ref (sa 0), .null]))]) (w1 := [(q3, .inr (2, [.ref q4, .ref q5])), (q4, .inl (cy 2, 65, .inl (fun _ => 0))), (q5, .inr (1, [.ref q6, .int 0, .int 0, .int 0])), (q6, .inl (cy 5, 16, .inl (fun _ => 0)))]) hP hD [2] [0, 1] rfl rfl (by decide) (by decide) hk1 hFc hP1 hD1
  clear hP1 hD1 hPc hDc hFc hk1 hz1
  generalize H1 = H at hP hS ⊢
  have hP : va_P D vwCl [(a0, .inr (10, [.ref q1, .null, .null, .null, .null, .int 0, .null, .int 0])), (q1, .inr (12, [.int 0, .int 0, .double FP.dconst0, .ref (sa 0), .null])), (q3, .inr (2, [.ref q4, .ref q5])), (q4, .inl (cy 2, 65, .inl (fun _ => 0))), (q5, .inr (1, [.ref q6, .int 0, .int 0, .int 0])), (q6, .inl (cy 5, 16, .inl (fun _ => 0)))] H := hP
  have hD : va_D A [(a0, .inr (10, [.ref q1, .null, .null, .null, .null, .int 0, .null, .int 0])), (q1, .inr (12, [.int 0, .int 0, .double FP.dconst0, .ref (sa 0), .null])), (q3, .inr (2, [.ref q4, .ref q5])), (q4, .inl (cy 2, 65, .inl (fun _ => 0))), (q5, .inr (1, [.ref q6, .int 0, .int 0, .int 0])), (q6, .inl (cy 5, 16, .inl (fun _ => 0)))] := hD
  refine W.widen (k := 5) (n := 92) (Nat.le_of_ble_eq_true rfl) (Nat.le_of_ble_eq_true rfl) ?_
  refine va_putF (D := D) (ci := 10) (v := .ref q3) (ty := .object "PhraseDesk$Converters") (C := RX8) (T := TX8) (N := 8) hx hb hts (fun _ h => List.mem_cons_of_mem _ (List.mem_append_left _ (List.mem_append_left _ (List.mem_append_left _ (List.mem_append_left _ (List.mem_append_right _ h)))))) tyX8 tyX8_ok nmX8 hown hK hP hD hS 0 rfl rfl 1 (by decide) (hts (.fieldLink RX8 24 "PhraseDesk$Runner" "converters" "LPhraseDesk$Converters;") (List.mem_of_getElem? (i := 8) rfl)) (fun _ h9 => h9) rfl hin rfl (by decide +kernel) rfl rfl (Nat.le_of_ble_eq_true rfl) dX8_init_19 (fun H locs hP hD hS => ?_)
  have hP : va_P D vwCl [(a0, .inr (10, [.ref q1, .ref q3, .null, .null, .null, .int 0, .null, .int 0])), (q1, .inr (12, [.int 0, .int 0, .double FP.dconst0, .ref (sa 0), .null])), (q3, .inr (2, [.ref q4, .ref q5])), (q4, .inl (cy 2, 65, .inl (fun _ => 0))), (q5, .inr (1, [.ref q6, .int 0, .int 0, .int 0])), (q6, .inl (cy 5, 16, .inl (fun _ => 0)))] H := hP
  have hD : va_D A [(a0, .inr (10, [.ref q1, .ref q3, .null, .null, .null, .int 0, .null, .int 0])), (q1, .inr (12, [.int 0, .int 0, .double FP.dconst0, .ref (sa 0), .null])), (q3, .inr (2, [.ref q4, .ref q5])), (q4, .inl (cy 2, 65, .inl (fun _ => 0))), (q5, .inr (1, [.ref q6, .int 0, .int 0, .int 0])), (q6, .inl (cy 5, 16, .inl (fun _ => 0)))] := hD
  refine lv_aload_n hx hb dX8_init_22 rfl (lv_at hl 0 rfl) ?_
  refine va_new (ci := 5) (fs := [.null, .int 0, .int 0]) (C := RX3) (T := TX3) (N := 3) hx hb hts (fun _ h => List.mem_cons_of_mem _ (List.mem_append_left _ (List.mem_append_left _ (List.mem_append_right _ h)))) tyX3 tyX3_ok hown (hts (.classLink RX8 28 RX3) (List.mem_of_getElem? (i := 9) rfl)) (hts (.instantiable RX3 3) (List.mem_of_getElem? (i := 10) rfl)) (hts (.initialized RX3) (List.mem_of_getElem? (i := 11) rfl)) hK hP hD hS hA rfl (fun j hj => by rcases (show j = 0 ∨ j = 1 ∨ j = 2 by omega) with rfl | rfl | rfl <;> rfl) (Nat.le_of_ble_eq_true rfl) (Nat.le_of_ble_eq_true rfl) dX8_init_23 (fun q8 H hP hD hS => ?_)
  have hP : va_P D vwCl [(a0, .inr (10, [.ref q1, .ref q3, .null, .null, .null, .int 0, .null, .int 0])), (q1, .inr (12, [.int 0, .int 0, .double FP.dconst0, .ref (sa 0), .null])), (q3, .inr (2, [.ref q4, .ref q5])), (q4, .inl (cy 2, 65, .inl (fun _ => 0))), (q5, .inr (1, [.ref q6, .int 0, .int 0, .int 0])), (q6, .inl (cy 5, 16, .inl (fun _ => 0))), (q8, .inr (5, [.null, .int 0, .int 0]))] H := hP
  have hD : va_D A [(a0, .inr (10, [.ref q1, .ref q3, .null, .null, .null, .int 0, .null, .int 0])), (q1, .inr (12, [.int 0, .int 0, .double FP.dconst0, .ref (sa 0), .null])), (q3, .inr (2, [.ref q4, .ref q5])), (q4, .inl (cy 2, 65, .inl (fun _ => 0))), (q5, .inr (1, [.ref q6, .int 0, .int 0, .int 0])), (q6, .inl (cy 5, 16, .inl (fun _ => 0))), (q8, .inr (5, [.null, .int 0, .int 0]))] := hD
  refine W.widen (k := 6) (n := 95) (Nat.le_of_ble_eq_true rfl) (Nat.le_of_ble_eq_true rfl) ?_
  refine lv_dup hx hb dX8_init_26 rfl ?_
  have hPc := hP.sub (ws' := [(q8, .inr (5, [.null, .int 0, .int 0]))]) [6] rfl
  have hDc := hD.sub (ws' := [(q8, .inr (5, [.null, .int 0, .int 0]))]) [6] (by decide) rfl
  have hFc := va_free (wc := [(q8, .inr (5, [.null, .int 0, .int 0]))]) hD hS hA [6] rfl
  refine va_callv (va_runI (As := []) (rest := [.ref q8, .ref a0]) ⟨hx, hb, hml, hown, hts⟩ (C_X3_init_1 l D cy sz0 sa q8 H.size) (cwI 0 hts gX8_init_X3_init rfl rfl rfl (hts (.initialized RX3) (List.mem_of_getElem? (i := 11) rfl)) (hts (.methodLink RX8 30 yX3_init) (List.mem_of_getElem? (i := 63) rfl)) (hts (.instanceMethod yX3_init) (List.mem_of_getElem? (i := 64) rfl)) rfl (by decide +kernel) ⟨Nat.le_of_ble_eq_true rfl, Nat.le_of_ble_eq_true rfl⟩) ⟨PcW.blind, PcW.mk hE hS hAF hPc hDc⟩ rfl rfl hl.1 rfl (lv_room (Nat.le_of_ble_eq_true rfl)) dX8_init_27 ⟨Nat.le_of_ble_eq_true rfl, Nat.le_of_ble_eq_true rfl⟩) hS (fun q _ h => hFc q h) hFc (fun u t H1 locs ht hvm hw hB hz1 hk1 hS => ?_)
  obtain ⟨q9, hP1, hD1⟩ := hB
  rw [ht] at hP1
  have hP1 : va_P D vwCl [(q8, .inr (5, [.ref q9, .int 0, .int 0])), (q9, .inl (cy 9, 30, .inr (.inr (.inr (.inr (fun _ => none))))))] H1 := hP1
  obtain ⟨hP, hD⟩ := va_join (wr := [(a0, .inr (10, [.ref q1, .ref q3, .null, .null, .null, .int 0, .null, .int 0])), (q1, .inr (12, [.int 0, .int 0, .double FP.dconst0, .ref (sa 0), .null])), (q3, .inr (2, [.ref q4, .ref q5])), (q4, .inl (cy 2, 65, .inl (fun _ => 0))), (q5, .inr (1, [.ref q6, .int 0, .int 0, .int 0])), (q6, .inl (cy 5, 16, .inl (fun _ => 0)))]) (w1 := [(q8, .inr (5, [.ref q9, .int 0, .int 0])), (q9, .inl (cy 9, 30, .inr (.inr (.inr (.inr (fun _ => none))))))]) hP hD [6] [0, 1, 2, 3, 4, 5] rfl rfl (by decide) (by decide) hk1 hFc hP1 hD1
  clear hP1 hD1 hPc hDc hFc hk1 hz1
  generalize H1 = H at hP hS ⊢
  have hP : va_P D vwCl [(a0, .inr (10, [.ref q1, .ref q3, .null, .null, .null, .int 0, .null, .int 0])), (q1, .inr (12, [.int 0, .int 0, .double FP.dconst0, .ref (sa 0), .null])), (q3, .inr (2, [.ref q4, .ref q5])), (q4, .inl (cy 2, 65, .inl (fun _ => 0))), (q5, .inr (1, [.ref q6, .int 0, .int 0, .int 0])), (q6, .inl (cy 5, 16, .inl (fun _ => 0))), (q8, .inr (5, [.ref q9, .int 0, .int 0])), (q9, .inl (cy 9, 30, .inr (.inr (.inr (.inr (fun _ => none))))))] H := hP
  have hD : va_D A [(a0, .inr (10, [.ref q1, .ref q3, .null, .null, .null, .int 0, .null, .int 0])), (q1, .inr (12, [.int 0, .int 0, .double FP.dconst0, .ref (sa 0), .null])), (q3, .inr (2, [.ref q4, .ref q5])), (q4, .inl (cy 2, 65, .inl (fun _ => 0))), (q5, .inr (1, [.ref q6, .int 0, .int 0, .int 0])), (q6, .inl (cy 5, 16, .inl (fun _ => 0))), (q8, .inr (5, [.ref q9, .int 0, .int 0])), (q9, .inl (cy 9, 30, .inr (.inr (.inr (.inr (fun _ => none))))))] := hD
  refine W.widen (k := 7) (n := 125) (Nat.le_of_ble_eq_true rfl) (Nat.le_of_ble_eq_true rfl) ?_
  refine va_putF (D := D) (ci := 10) (v := .ref q8) (ty := .object "PhraseDesk$Finder") (C := RX8) (T := TX8) (N := 8) hx hb hts (fun _ h => List.mem_cons_of_mem _ (List.mem_append_left _ (List.mem_append_left _ (List.mem_append_left _ (List.mem_append_left _ (List.mem_append_right _ h)))))) tyX8 tyX8_ok nmX8 hown hK hP hD hS 0 rfl rfl 2 (by decide) (hts (.fieldLink RX8 31 "PhraseDesk$Runner" "finder" "LPhraseDesk$Finder;") (List.mem_of_getElem? (i := 12) rfl)) (fun _ h9 => h9) rfl hin rfl (by decide +kernel) rfl rfl (Nat.le_of_ble_eq_true rfl) dX8_init_30 (fun H locs hP hD hS => ?_)
  have hP : va_P D vwCl [(a0, .inr (10, [.ref q1, .ref q3, .ref q8, .null, .null, .int 0, .null, .int 0])), (q1, .inr (12, [.int 0, .int 0, .double FP.dconst0, .ref (sa 0), .null])), (q3, .inr (2, [.ref q4, .ref q5])), (q4, .inl (cy 2, 65, .inl (fun _ => 0))), (q5, .inr (1, [.ref q6, .int 0, .int 0, .int 0])), (q6, .inl (cy 5, 16, .inl (fun _ => 0))), (q8, .inr (5, [.ref q9, .int 0, .int 0])), (q9, .inl (cy 9, 30, .inr (.inr (.inr (.inr (fun _ => none))))))] H := hP
  have hD : va_D A [(a0, .inr (10, [.ref q1, .ref q3, .ref q8, .null, .null, .int 0, .null, .int 0])), (q1, .inr (12, [.int 0, .int 0, .double FP.dconst0, .ref (sa 0), .null])), (q3, .inr (2, [.ref q4, .ref q5])), (q4, .inl (cy 2, 65, .inl (fun _ => 0))), (q5, .inr (1, [.ref q6, .int 0, .int 0, .int 0])), (q6, .inl (cy 5, 16, .inl (fun _ => 0))), (q8, .inr (5, [.ref q9, .int 0, .int 0])), (q9, .inl (cy 9, 30, .inr (.inr (.inr (.inr (fun _ => none))))))] := hD
  refine lv_aload_n hx hb dX8_init_33 rfl (lv_at hl 0 rfl) ?_
  refine lv_bipush (v := 12) hx hb dX8_init_34 (by decide +kernel) ?_
  refine g_newa (atype := .int) (ty := .int) hx hb (hts (.arrayClass .int) (List.mem_of_getElem? (i := 13) rfl)) rfl hK hP hD hS hA 0 rfl (a0 := (12, .inl (fun _ => 0))) (N' := 12) (za_0 12) (by decide +kernel) (by decide +kernel) (by decide +kernel) (Nat.le_of_ble_eq_true rfl) (Nat.le_of_ble_eq_true rfl) dX8_init_36 (fun q11 H hP hD hS => ?_)
  have hP : va_P D vwCl [(a0, .inr (10, [.ref q1, .ref q3, .ref q8, .null, .null, .int 0, .null, .int 0])), (q1, .inr (12, [.int 0, .int 0, .double FP.dconst0, .ref (sa 0), .null])), (q3, .inr (2, [.ref q4, .ref q5])), (q4, .inl (cy 2, 65, .inl (fun _ => 0))), (q5, .inr (1, [.ref q6, .int 0, .int 0, .int 0])), (q6, .inl (cy 5, 16, .inl (fun _ => 0))), (q8, .inr (5, [.ref q9, .int 0, .int 0])), (q9, .inl (cy 9, 30, .inr (.inr (.inr (.inr (fun _ => none)))))), (q11, .inl (cy 0, 12, .inl (fun _ => 0)))] H := hP
  have hD : va_D A [(a0, .inr (10, [.ref q1, .ref q3, .ref q8, .null, .null, .int 0, .null, .int 0])), (q1, .inr (12, [.int 0, .int 0, .double FP.dconst0, .ref (sa 0), .null])), (q3, .inr (2, [.ref q4, .ref q5])), (q4, .inl (cy 2, 65, .inl (fun _ => 0))), (q5, .inr (1, [.ref q6, .int 0, .int 0, .int 0])), (q6, .inl (cy 5, 16, .inl (fun _ => 0))), (q8, .inr (5, [.ref q9, .int 0, .int 0])), (q9, .inl (cy 9, 30, .inr (.inr (.inr (.inr (fun _ => none)))))), (q11, .inl (cy 0, 12, .inl (fun _ => 0)))] := hD
  refine W.widen (k := 8) (n := 137) (Nat.le_of_ble_eq_true rfl) (Nat.le_of_ble_eq_true rfl) ?_
  refine va_putF (D := D) (ci := 10) (v := .ref q11) (ty := .array .int) (C := RX8) (T := TX8) (N := 8) hx hb hts (fun _ h => List.mem_cons_of_mem _ (List.mem_append_left _ (List.mem_append_left _ (List.mem_append_left _ (List.mem_append_left _ (List.mem_append_right _ h)))))) tyX8 tyX8_ok nmX8 hown hK hP hD hS 0 rfl rfl 3 (by decide) (hts (.fieldLink RX8 35 "PhraseDesk$Runner" "variableNames" "[I") (List.mem_of_getElem? (i := 14) rfl)) (fun _ h9 => h9) rfl hin rfl (by decide +kernel) rfl rfl (Nat.le_of_ble_eq_true rfl) dX8_init_38 (fun H locs hP hD hS => ?_)
  have hP : va_P D vwCl [(a0, .inr (10, [.ref q1, .ref q3, .ref q8, .ref q11, .null, .int 0, .null, .int 0])), (q1, .inr (12, [.int 0, .int 0, .double FP.dconst0, .ref (sa 0), .null])), (q3, .inr (2, [.ref q4, .ref q5])), (q4, .inl (cy 2, 65, .inl (fun _ => 0))), (q5, .inr (1, [.ref q6, .int 0, .int 0, .int 0])), (q6, .inl (cy 5, 16, .inl (fun _ => 0))), (q8, .inr (5, [.ref q9, .int 0, .int 0])), (q9, .inl (cy 9, 30, .inr (.inr (.inr (.inr (fun _ => none)))))), (q11, .inl (cy 0, 12, .inl (fun _ => 0)))] H := hP
  have hD : va_D A [(a0, .inr (10, [.ref q1, .ref q3, .ref q8, .ref q11, .null, .int 0, .null, .int 0])), (q1, .inr (12, [.int 0, .int 0, .double FP.dconst0, .ref (sa 0), .null])), (q3, .inr (2, [.ref q4, .ref q5])), (q4, .inl (cy 2, 65, .inl (fun _ => 0))), (q5, .inr (1, [.ref q6, .int 0, .int 0, .int 0])), (q6, .inl (cy 5, 16, .inl (fun _ => 0))), (q8, .inr (5, [.ref q9, .int 0, .int 0])), (q9, .inl (cy 9, 30, .inr (.inr (.inr (.inr (fun _ => none)))))), (q11, .inl (cy 0, 12, .inl (fun _ => 0)))] := hD
  refine lv_aload_n hx hb dX8_init_41 rfl (lv_at hl 0 rfl) ?_
  refine lv_bipush (v := 12) hx hb dX8_init_42 (by decide +kernel) ?_
  refine g_newq (C := "PhraseDesk$Value") hx hb hown (hts (.classLink RX8 10 RX10) (List.mem_of_getElem? (i := 15) rfl)) hAO.1 hK hP hD hS hA 6 rfl (N' := 12) (by decide +kernel) (by decide +kernel) (by decide +kernel) (Nat.le_of_ble_eq_true rfl) (Nat.le_of_ble_eq_true rfl) dX8_init_44 (fun q12 H hP hD hS => ?_)
  have hP : va_P D vwCl [(a0, .inr (10, [.ref q1, .ref q3, .ref q8, .ref q11, .null, .int 0, .null, .int 0])), (q1, .inr (12, [.int 0, .int 0, .double FP.dconst0, .ref (sa 0), .null])), (q3, .inr (2, [.ref q4, .ref q5])), (q4, .inl (cy 2, 65, .inl (fun _ => 0))), (q5, .inr (1, [.ref q6, .int 0, .int 0, .int 0])), (q6, .inl (cy 5, 16, .inl (fun _ => 0))), (q8, .inr (5, [.ref q9, .int 0, .int 0])), (q9, .inl (cy 9, 30, .inr (.inr (.inr (.inr (fun _ => none)))))), (q11, .inl (cy 0, 12, .inl (fun _ => 0))), (q12, .inl (cy 6, 12, .inr (.inr (.inr (.inr (fun _ => none))))))] H := hP
  have hD : va_D A [(a0, .inr (10, [.ref q1, .ref q3, .ref q8, .ref q11, .null, .int 0, .null, .int 0])), (q1, .inr (12, [.int 0, .int 0, .double FP.dconst0, .ref (sa 0), .null])), (q3, .inr (2, [.ref q4, .ref q5])), (q4, .inl (cy 2, 65, .inl (fun _ => 0))), (q5, .inr (1, [.ref q6, .int 0, .int 0, .int 0])), (q6, .inl (cy 5, 16, .inl (fun _ => 0))), (q8, .inr (5, [.ref q9, .int 0, .int 0])), (q9, .inl (cy 9, 30, .inr (.inr (.inr (.inr (fun _ => none)))))), (q11, .inl (cy 0, 12, .inl (fun _ => 0))), (q12, .inl (cy 6, 12, .inr (.inr (.inr (.inr (fun _ => none))))))] := hD
  refine W.widen (k := 9) (n := 149) (Nat.le_of_ble_eq_true rfl) (Nat.le_of_ble_eq_true rfl) ?_
  refine va_putF (D := D) (ci := 10) (v := .ref q12) (ty := .array (.object "PhraseDesk$Value")) (C := RX8) (T := TX8) (N := 8) hx hb hts (fun _ h => List.mem_cons_of_mem _ (List.mem_append_left _ (List.mem_append_left _ (List.mem_append_left _ (List.mem_append_left _ (List.mem_append_right _ h)))))) tyX8 tyX8_ok nmX8 hown hK hP hD hS 0 rfl rfl 4 (by decide) (hts (.fieldLink RX8 39 "PhraseDesk$Runner" "variableValues" "[LPhraseDesk$Value;") (List.mem_of_getElem? (i := 16) rfl)) (fun _ h9 => h9) rfl hin rfl (by decide +kernel) rfl rfl (Nat.le_of_ble_eq_true rfl) dX8_init_47 (fun H locs hP hD hS => ?_)
  have hP : va_P D vwCl [(a0, .inr (10, [.ref q1, .ref q3, .ref q8, .ref q11, .ref q12, .int 0, .null, .int 0])), (q1, .inr (12, [.int 0, .int 0, .double FP.dconst0, .ref (sa 0), .null])), (q3, .inr (2, [.ref q4, .ref q5])), (q4, .inl (cy 2, 65, .inl (fun _ => 0))), (q5, .inr (1, [.ref q6, .int 0, .int 0, .int 0])), (q6, .inl (cy 5, 16, .inl (fun _ => 0))), (q8, .inr (5, [.ref q9, .int 0, .int 0])), (q9, .inl (cy 9, 30, .inr (.inr (.inr (.inr (fun _ => none)))))), (q11, .inl (cy 0, 12, .inl (fun _ => 0))), (q12, .inl (cy 6, 12, .inr (.inr (.inr (.inr (fun _ => none))))))] H := hP
  have hD : va_D A [(a0, .inr (10, [.ref q1, .ref q3, .ref q8, .ref q11, .ref q12, .int 0, .null, .int 0])), (q1, .inr (12, [.int 0, .int 0, .double FP.dconst0, .ref (sa 0), .null])), (q3, .inr (2, [.ref q4, .ref q5])), (q4, .inl (cy 2, 65, .inl (fun _ => 0))), (q5, .inr (1, [.ref q6, .int 0, .int 0, .int 0])), (q6, .inl (cy 5, 16, .inl (fun _ => 0))), (q8, .inr (5, [.ref q9, .int 0, .int 0])), (q9, .inl (cy 9, 30, .inr (.inr (.inr (.inr (fun _ => none)))))), (q11, .inl (cy 0, 12, .inl (fun _ => 0))), (q12, .inl (cy 6, 12, .inr (.inr (.inr (.inr (fun _ => none))))))] := hD
  refine lv_aload_n hx hb dX8_init_50 rfl (lv_at hl 0 rfl) ?_
  refine lv_aload_n hx hb dX8_init_51 rfl (lv_at hl 0 rfl) ?_
  refine va_get (D := D) (ci := 10) (v := .ref q1) (C := RX8) (T := TX8) (N := 8) hx hb hts (fun _ h => List.mem_cons_of_mem _ (List.mem_append_left _ (List.mem_append_left _ (List.mem_append_left _ (List.mem_append_left _ (List.mem_append_right _ h)))))) hown hK hP 0 rfl rfl 0 (by decide) (hts (.fieldLink RX8 15 "PhraseDesk$Runner" "nothing" "LPhraseDesk$Value;") (List.mem_of_getElem? (i := 4) rfl)) (fun _ h9 => h9) rfl dX8_init_52 ?_
  refine va_put (D := D) (ci := 10) (v := .ref q1) (ty := .object "PhraseDesk$Value") (C := RX8) (T := TX8) (N := 8) hx hb hts (fun _ h => List.mem_cons_of_mem _ (List.mem_append_left _ (List.mem_append_left _ (List.mem_append_left _ (List.mem_append_left _ (List.mem_append_right _ h)))))) tyX8 tyX8_ok nmX8 hown hK hP hD hS 0 rfl rfl 6 (by decide) (hts (.fieldLink RX8 43 "PhraseDesk$Runner" "root" "LPhraseDesk$Value;") (List.mem_of_getElem? (i := 17) rfl)) (fun _ h9 => h9) rfl (by decide +kernel) rfl rfl (Nat.le_of_ble_eq_true rfl) dX8_init_55 (fun H locs hP hD hS => ?_)
  have hP : va_P D vwCl [(a0, .inr (10, [.ref q1, .ref q3, .ref q8, .ref q11, .ref q12, .int 0, .ref q1, .int 0])), (q1, .inr (12, [.int 0, .int 0, .double FP.dconst0, .ref (sa 0), .null])), (q3, .inr (2, [.ref q4, .ref q5])), (q4, .inl (cy 2, 65, .inl (fun _ => 0))), (q5, .inr (1, [.ref q6, .int 0, .int 0, .int 0])), (q6, .inl (cy 5, 16, .inl (fun _ => 0))), (q8, .inr (5, [.ref q9, .int 0, .int 0])), (q9, .inl (cy 9, 30, .inr (.inr (.inr (.inr (fun _ => none)))))), (q11, .inl (cy 0, 12, .inl (fun _ => 0))), (q12, .inl (cy 6, 12, .inr (.inr (.inr (.inr (fun _ => none))))))] H := hP
  have hD : va_D A [(a0, .inr (10, [.ref q1, .ref q3, .ref q8, .ref q11, .ref q12, .int 0, .ref q1, .int 0])), (q1, .inr (12, [.int 0, .int 0, .double FP.dconst0, .ref (sa 0), .null])), (q3, .inr (2, [.ref q4, .ref q5])), (q4, .inl (cy 2, 65, .inl (fun _ => 0))), (q5, .inr (1, [.ref q6, .int 0, .int 0, .int 0])), (q6, .inl (cy 5, 16, .inl (fun _ => 0))), (q8, .inr (5, [.ref q9, .int 0, .int 0])), (q9, .inl (cy 9, 30, .inr (.inr (.inr (.inr (fun _ => none)))))), (q11, .inl (cy 0, 12, .inl (fun _ => 0))), (q12, .inl (cy 6, 12, .inr (.inr (.inr (.inr (fun _ => none))))))] := hD
  refine W.widen (k := 9) (n := 149) (Nat.le_of_ble_eq_true rfl) (Nat.le_of_ble_eq_true rfl) ?_
  have hP9 := hP.sub (ws' := [(a0, .inr (10, [.ref q1, .ref q3, .ref q8, .ref q11, .ref q12, .int 0, .ref q1, .int 0])), (q1, .inr (12, [.int 0, .int 0, .double FP.dconst0, .ref (sa 0), .null])), (q3, .inr (2, [.ref q4, .ref q5])), (q4, .inl (cy 2, 65, .inl (fun _ => 0))), (q5, .inr (1, [.ref q6, .int 0, .int 0, .int 0])), (q6, .inl (cy 5, 16, .inl (fun _ => 0))), (q8, .inr (5, [.ref q9, .int 0, .int 0])), (q9, .inl (cy 9, 30, .inr (.inr (.inr (.inr (fun _ => none)))))), (q11, .inl (cy 0, 12, .inl (fun _ => 0))), (q12, .inl (cy 6, 12, .inr (.inr (.inr (.inr (fun _ => none))))))]) [0, 1, 2, 3, 4, 5, 6, 7, 8, 9] rfl
  have hD9 := hD.sub (ws' := [(a0, .inr (10, [.ref q1, .ref q3, .ref q8, .ref q11, .ref q12, .int 0, .ref q1, .int 0])), (q1, .inr (12, [.int 0, .int 0, .double FP.dconst0, .ref (sa 0), .null])), (q3, .inr (2, [.ref q4, .ref q5])), (q4, .inl (cy 2, 65, .inl (fun _ => 0))), (q5, .inr (1, [.ref q6, .int 0, .int 0, .int 0])), (q6, .inl (cy 5, 16, .inl (fun _ => 0))), (q8, .inr (5, [.ref q9, .int 0, .int 0])), (q9, .inl (cy 9, 30, .inr (.inr (.inr (.inr (fun _ => none)))))), (q11, .inl (cy 0, 12, .inl (fun _ => 0))), (q12, .inl (cy 6, 12, .inr (.inr (.inr (.inr (fun _ => none))))))]) [0, 1, 2, 3, 4, 5, 6, 7, 8, 9] (by decide) rfl
  exact W.vret hx hb hr (fun t ht hW => ⟨⟨(), rfl, trivial, ⟨q1, q3, q4, q5, q6, q8, q9, q11, q12, by rw [ht]; exact hP9, hD9⟩⟩, hS.F ht⟩) hS.2.2 dX8_init_58


set_option maxHeartbeats 600000 in
set_option maxRecDepth 100000 in
theorem C_X11_init_1 (l : Launch) (D : va_G) (cy : Nat → ClassId) (sz0 : Nat) (sa : Nat → Nat) (a0 : Nat) (sz : Nat)  : Met l yX11_init wsX11_init ({ frames := 5, cells := 23, slots := 473, locals := 101 }) (PcW D cy sz0 sa [.ref a0] [(a0, .inr (13, [.null, .null, .null, .int 0, .null, .int 0, .null, .int 0, .null]))] sz) (va_Qv (fun (u : Unit) => True) (fun (u : Unit) (t : State) => ∃ (n0 n1 n2 n3 n4 n5 n6 n7 n8 n9 n10 n11 n12 n13 n14 n15 n16 n17 n18 n19 n20 n21 n22 : Nat), BW D [(a0, .inr (13, [.ref n0, .ref n9, .ref n19, .int 0, .ref n20, .int 0, .ref n21, .int 0, .ref n22])), (n0, .inr (8, [.ref n1, .int 0, .int 0, .int 0])), (n1, .inr (6, [.ref n2, .int 0, .ref n3, .ref n4, .ref n5, .ref n6, .int 0, .ref n7])), (n2, .inl (cy 4, 40, .inl (fun _ => 0))), (n3, .inl (cy 0, 41, .inl (fun _ => 0))), (n4, .inl (cy 0, 41, .inl (fun _ => 0))), (n5, .inl (cy 0, 41, .inl (fun _ => 0))), (n6, .inl (cy 6, 41, .inr (.inr (.inr (.inr (fun _ => none)))))), (n7, .inr (1, [.ref n8, .int 0, .int 0, .int 0])), (n8, .inl (cy 5, 16, .inl (fun _ => 0))), (n9, .inr (10, [.ref n10, .ref n11, .ref n15, .ref n17, .ref n18, .int 0, .ref n10, .int 0])), (n10, .inr (12, [.int 0, .int 0, .double FP.dconst0, .ref (sa 0), .null])), (n11, .inr (2, [.ref n12, .ref n13])), (n12, .inl (cy 2, 65, .inl (fun _ => 0))), (n13, .inr (1, [.ref n14, .int 0, .int 0, .int 0])), (n14, .inl (cy 5, 16, .inl (fun _ => 0))), (n15, .inr (5, [.ref n16, .int 0, .int 0])), (n16, .inl (cy 9, 30, .inr (.inr (.inr (.inr (fun _ => none)))))), (n17, .inl (cy 0, 12, .inl (fun _ => 0))), (n18, .inl (cy 6, 12, .inr (.inr (.inr (.inr (fun _ => none)))))), (n19, .inl (cy 7, 40, .inr (.inr (.inr (.inr (fun _ => none)))))), (n20, .inl (cy 8, 5, .inr (.inr (.inr (.inr (fun _ => none)))))), (n21, .inl (cy 6, 30, .inr (.inr (.inr (.inr (fun _ => none)))))), (n22, .inr (12, [.int 0, .int 0, .double FP.dconst0, .ref (sa 0), .null]))] (va_A [(a0, .inr (13, [.null, .null, .null, .int 0, .null, .int 0, .null, .int 0, .null]))] sz) t) (va_A [(a0, .inr (13, [.null, .null, .null, .int 0, .null, .int 0, .null, .int 0, .null]))] sz)) 23 473 (va_A [(a0, .inr (13, [.null, .null, .null, .int 0, .null, .int 0, .null, .int 0, .null]))] sz) := by
  refine Met.ofW (cc := cX11_init) (maxL := 1) (ret := none) (by decide) rfl ?_
  intro p e s m args below meth c s₁ B hml hv
  obtain ⟨rfl, hsz, hP, hD0, hE⟩ := hv
  have hx := B.exec
  have hb := B.bytes
  have hr := B.returns
  have hts := atoms_spec (ws := wsX11_init) B.pre
  have hown : s.vm.findClass RX11 = some m.cls := findClass_of_methodNamed B.named
  have hlocks := B.notSynchronized
  have hin : meth.name = "<init>" := (name_of_methodNamed B.named B.method).1
  subst hsz
  have hK := hE.1
  have hAm := hE.2.2.1
  have hWm := hE.2.2.2
  have hAO := hWm.2.2.2.1
  have hD := hD0.self (sz := s.heap.size)
  have hAF := frA hD0 hE.2.1
  generalize hAe : va_A [(a0, .inr (13, [.null, .null, .null, .int 0, .null, .int 0, .null, .int 0, .null]))] s.heap.size = A at hD hAF ⊢
  have hA : ∀ q : Nat, s.heap.size ≤ q → A q := fun q h => by rw [← hAe]; exact Or.inr h
  have hS : va_S A s.heap s.heap [] := va_S.rf
  have hl := lv_entry ([.ref a0]) (n := 1) (Nat.le_of_ble_eq_true rfl)
  rw [lg_entry_eq]
  generalize (lg_sl ([.ref a0]) ++ List.replicate (1 - (lg_sl ([.ref a0])).length) Slot.unset).toArray = ls at hl ⊢
  have hl : lv_has ls 1 [(0, .ref a0)] := hl
  have hP : va_P D vwCl [(a0, .inr (13, [.null, .null, .null, .int 0, .null, .int 0, .null, .int 0, .null]))] s.heap := hP
  refine lv_aload_n hx hb dX11_init_0 rfl (lv_at hl 0 rfl) ?_
  refine W.objInit hx hb hown (hts (.methodLink RX11 1 objectInit) (List.mem_of_getElem? (i := 1) rfl)) (hts (.instanceMethod objectInit) (List.mem_of_getElem? (i := 2) rfl)) (hts (.code objectInit ⟨#[0xb1]⟩ 1 none) (List.mem_of_getElem? (i := 3) rfl)) rfl (by rw [hml]; exact hl.1) rfl dX11_init_1 (Nat.le_of_ble_eq_true rfl) (Nat.le_of_ble_eq_true rfl) ?_
  refine W.eq (g2 := F0 m 4 ls []) rfl ?_
  refine lv_aload_n hx hb dX11_init_4 rfl (lv_at hl 0 rfl) ?_
  refine va_new (ci := 8) (fs := [.null, .int 0, .int 0, .int 0]) (C := RX6) (T := TX6) (N := 4) hx hb hts (fun _ h => List.mem_cons_of_mem _ (List.mem_append_left _ (List.mem_append_left _ (List.mem_append_left _ (List.mem_append_left _ (List.mem_append_left _ (List.mem_append_left _ (List.mem_append_left _ (List.mem_append_right _ h))))))))) tyX6 tyX6_ok hown (hts (.classLink RX11 7 RX6) (List.mem_of_getElem? (i := 4) rfl)) (hts (.instantiable RX6 4) (List.mem_of_getElem? (i := 5) rfl)) (hts (.initialized RX6) (List.mem_of_getElem? (i := 6) rfl)) hK hP hD hS hA rfl (fun j hj => by rcases (show j = 0 ∨ j = 1 ∨ j = 2 ∨ j = 3 by omega) with rfl | rfl | rfl | rfl <;> rfl) (Nat.le_of_ble_eq_true rfl) (Nat.le_of_ble_eq_true rfl) dX11_init_5 (fun q1 H hP hD hS => ?_)
  have hP : va_P D vwCl [(a0, .inr (13, [.null, .null, .null, .int 0, .null, .int 0, .null, .int 0, .null])), (q1, .inr (8, [.null, .int 0, .int 0, .int 0]))] H := hP
  have hD : va_D A [(a0, .inr (13, [.null, .null, .null, .int 0, .null, .int 0, .null, .int 0, .null])), (q1, .inr (8, [.null, .int 0, .int 0, .int 0]))] := hD
  refine W.widen (k := 1) (n := 4) (Nat.le_of_ble_eq_true rfl) (Nat.le_of_ble_eq_true rfl) ?_
  refine lv_dup hx hb dX11_init_8 rfl ?_
  have hPc := hP.sub (ws' := [(q1, .inr (8, [.null, .int 0, .int 0, .int 0]))]) [1] rfl
  have hDc := hD.sub (ws' := [(q1, .inr (8, [.null, .int 0, .int 0, .int 0]))]) [1] (by decide) rfl
  have hFc := va_free (wc := [(q1, .inr (8, [.null, .int 0, .int 0, .int 0]))]) hD hS hA [1] rfl
  refine va_callv (va_runI (As := []) (rest := [.ref q1, .ref a0]) ⟨hx, hb, hml, hown, hts⟩ (C_X6_init_1 l D cy sz0 sa q1 H.size) (cwI 0 hts gX11_init_X6_init rfl rfl rfl (hts (.initialized RX6) (List.mem_of_getElem? (i := 6) rfl)) (hts (.methodLink RX11 9 yX6_init) (List.mem_of_getElem? (i := 19) rfl)) (hts (.instanceMethod yX6_init) (List.mem_of_getElem? (i := 20) rfl)) rfl (by decide +kernel) ⟨Nat.le_of_ble_eq_true rfl, Nat.le_of_ble_eq_true rfl⟩) ⟨PcW.blind, PcW.mk hE hS hAF hPc hDc⟩ rfl rfl hl.1 rfl (lv_room (Nat.le_of_ble_eq_true rfl)) dX11_init_9 ⟨Nat.le_of_ble_eq_true rfl, Nat.le_of_ble_eq_true rfl⟩) hS (fun q _ h => hFc q h) hFc (fun u t H1 locs ht hvm hw hB hz1 hk1 hS => ?_)
  obtain ⟨q2, q3, q4, q5, q6, q7, q8, q9, hP1, hD1⟩ := hB
  rw [ht] at hP1
  have hP1 : va_P D vwCl [(q1, .inr (8, [.ref q2, .int 0, .int 0, .int 0])), (q2, .inr (6, [.ref q3, .int 0, .ref q4, .ref q5, .ref q6, .ref q7, .int 0, .ref q8])), (q3, .inl (cy 4, 40, .inl (fun _ => 0))), (q4, .inl (cy 0, 41, .inl (fun _ => 0))), (q5, .inl (cy 0, 41, .inl (fun _ => 0))), (q6, .inl (cy 0, 41, .inl (fun _ => 0))), (q7, .inl (cy 6, 41, .inr (.inr (.inr (.inr (fun _ => none)))))), (q8, .inr (1, [.ref q9, .int 0, .int 0, .int 0])), (q9, .inl (cy 5, 16, .inl (fun _ => 0)))] H1 := hP1
  obtain ⟨hP, hD⟩ := va_join (wr := [(a0, .inr (13, [.null, .null, .null, .int 0, .null, .int 0, .null, .int 0, .null]))]) (w1 := [(q1, .inr (8, [.ref q2, .int 0, .int 0, .int 0])), (q2, .inr (6, [.ref q3, .int 0, .ref q4, .ref q5, .ref q6, .ref q7, .int 0, .ref q8])), (q3, .inl (cy 4, 40, .inl (fun _ => 0))), (q4, .inl (cy 0, 41, .inl (fun _ => 0))), (q5, .inl (cy 0, 41, .inl (fun _ => 0))), (q6, .inl (cy 0, 41, .inl (fun _ => 0))), (q7, .inl (cy 6, 41, .inr (.inr (.inr (.inr (fun _ => none)))))), (q8, .inr (1, [.ref q9, .int 0, .int 0, .int 0])), (q9, .inl (cy 5, 16, .inl (fun _ => 0)))]) hP hD [1] [0] rfl rfl (by decide) (by decide) hk1 hFc hP1 hD1
  clear hP1 hD1 hPc hDc hFc hk1 hz1
  generalize H1 = H at hP hS ⊢
  have hP : va_P D vwCl [(a0, .inr (13, [.null, .null, .null, .int 0, .null, .int 0, .null, .int 0, .null])), (q1, .inr (8, [.ref q2, .int 0, .int 0, .int 0])), (q2, .inr (6, [.ref q3, .int 0, .ref q4, .ref q5, .ref q6, .ref q7, .int 0, .ref q8])), (q3, .inl (cy 4, 40, .inl (fun _ => 0))), (q4, .inl (cy 0, 41, .inl (fun _ => 0))), (q5, .inl (cy 0, 41, .inl (fun _ => 0))), (q6, .inl (cy 0, 41, .inl (fun _ => 0))), (q7, .inl (cy 6, 41, .inr (.inr (.inr (.inr (fun _ => none)))))), (q8, .inr (1, [.ref q9, .int 0, .int 0, .int 0])), (q9, .inl (cy 5, 16, .inl (fun _ => 0)))] H := hP
  have hD : va_D A [(a0, .inr (13, [.null, .null, .null, .int 0, .null, .int 0, .null, .int 0, .null])), (q1, .inr (8, [.ref q2, .int 0, .int 0, .int 0])), (q2, .inr (6, [.ref q3, .int 0, .ref q4, .ref q5, .ref q6, .ref q7, .int 0, .ref q8])), (q3, .inl (cy 4, 40, .inl (fun _ => 0))), (q4, .inl (cy 0, 41, .inl (fun _ => 0))), (q5, .inl (cy 0, 41, .inl (fun _ => 0))), (q6, .inl (cy 0, 41, .inl (fun _ => 0))), (q7, .inl (cy 6, 41, .inr (.inr (.inr (.inr (fun _ => none)))))), (q8, .inr (1, [.ref q9, .int 0, .int 0, .int 0])), (q9, .inl (cy 5, 16, .inl (fun _ => 0)))] := hD
  refine W.widen (k := 9) (n := 236) (Nat.le_of_ble_eq_true rfl) (Nat.le_of_ble_eq_true rfl) ?_
  refine va_putF (D := D) (ci := 13) (v := .ref q1) (ty := .object "PhraseDesk$Parser") (C := RX11) (T := TX11) (N := 9) hx hb hts (fun _ h => List.mem_cons_of_mem _ (List.mem_append_left _ (List.mem_append_left _ (List.mem_append_left _ (List.mem_append_left _ (List.mem_append_left _ (List.mem_append_left _ (List.mem_append_right _ h)))))))) tyX11 tyX11_ok nmX11 hown hK hP hD hS 0 rfl rfl 0 (by decide) (hts (.fieldLink RX11 10 "PhraseDesk" "parser" "LPhraseDesk$Parser;") (List.mem_of_getElem? (i := 7) rfl)) (fun _ h9 => h9) rfl hin rfl (by decide +kernel) rfl rfl (Nat.le_of_ble_eq_true rfl) dX11_init_12 (fun H locs hP hD hS => ?_)
  have hP : va_P D vwCl [(a0, .inr (13, [.ref q1, .null, .null, .int 0, .null, .int 0, .null, .int 0, .null])), (q1, .inr (8, [.ref q2, .int 0, .int 0, .int 0])), (q2, .inr (6, [.ref q3, .int 0, .ref q4, .ref q5, .ref q6, .ref q7, .int 0, .ref q8])), (q3, .inl (cy 4, 40, .inl (fun _ => 0))), (q4, .inl (cy 0, 41, .inl (fun _ => 0))), (q5, .inl (cy 0, 41, .inl (fun _ => 0))), (q6, .inl (cy 0, 41, .inl (fun _ => 0))), (q7, .inl (cy 6, 41, .inr (.inr (.inr (.inr (fun _ => none)))))), (q8, .inr (1, [.ref q9, .int 0, .int 0, .int 0])), (q9, .inl (cy 5, 16, .inl (fun _ => 0)))] H := hP
  have hD : va_D A [(a0, .inr (13, [.ref q1, .null, .null, .int 0, .null, .int 0, .null, .int 0, .null])), (q1, .inr (8, [.ref q2, .int 0, .int 0, .int 0])), (q2, .inr (6, [.ref q3, .int 0, .ref q4, .ref q5, .ref q6, .ref q7, .int 0, .ref q8])), (q3, .inl (cy 4, 40, .inl (fun _ => 0))), (q4, .inl (cy 0, 41, .inl (fun _ => 0))), (q5, .inl (cy 0, 41, .inl (fun _ => 0))), (q6, .inl (cy 0, 41, .inl (fun _ => 0))), (q7, .inl (cy 6, 41, .inr (.inr (.inr (.inr (fun _ => none)))))), (q8, .inr (1, [.ref q9, .int 0, .int 0, .int 0])), (q9, .inl (cy 5, 16, .inl (fun _ => 0)))] := hD
  refine lv_aload_n hx hb dX11_init_15 rfl (lv_at hl 0 rfl) ?_
  refine va_new (ci := 10) (fs := [.null, .null, .null, .null, .null, .int 0, .null, .int 0]) (C := RX8) (T := TX8) (N := 8) hx hb hts (fun _ h => List.mem_cons_of_mem _ (List.mem_append_left _ (List.mem_append_left _ (List.mem_append_left _ (List.mem_append_left _ (List.mem_append_left _ (List.mem_append_right _ h))))))) tyX8 tyX8_ok hown (hts (.classLink RX11 16 RX8) (List.mem_of_getElem? (i := 8) rfl)) (hts (.instantiable RX8 8) (List.mem_of_getElem? (i := 9) rfl)) (hts (.initialized RX8) (List.mem_of_getElem? (i := 10) rfl)) hK hP hD hS hA rfl (fun j hj => by rcases (show j = 0 ∨ j = 1 ∨ j = 2 ∨ j = 3 ∨ j = 4 ∨ j = 5 ∨ j = 6 ∨ j = 7 by omega) with rfl | rfl | rfl | rfl | rfl | rfl | rfl | rfl <;> rfl) (Nat.le_of_ble_eq_true rfl) (Nat.le_of_ble_eq_true rfl) dX11_init_16 (fun q11 H hP hD hS => ?_)
  have hP : va_P D vwCl [(a0, .inr (13, [.ref q1, .null, .null, .int 0, .null, .int 0, .null, .int 0, .null])), (q1, .inr (8, [.ref q2, .int 0, .int 0, .int 0])), (q2, .inr (6, [.ref q3, .int 0, .ref q4, .ref q5, .ref q6, .ref q7, .int 0, .ref q8])), (q3, .inl (cy 4, 40, .inl (fun _ => 0))), (q4, .inl (cy 0, 41, .inl (fun _ => 0))), (q5, .inl (cy 0, 41, .inl (fun _ => 0))), (q6, .inl (cy 0, 41, .inl (fun _ => 0))), (q7, .inl (cy 6, 41, .inr (.inr (.inr (.inr (fun _ => none)))))), (q8, .inr (1, [.ref q9, .int 0, .int 0, .int 0])), (q9, .inl (cy 5, 16, .inl (fun _ => 0))), (q11, .inr (10, [.null, .null, .null, .null, .null, .int 0, .null, .int 0]))] H := hP
  have hD : va_D A [(a0, .inr (13, [.ref q1, .null, .null, .int 0, .null, .int 0, .null, .int 0, .null])), (q1, .inr (8, [.ref q2, .int 0, .int 0, .int 0])), (q2, .inr (6, [.ref q3, .int 0, .ref q4, .ref q5, .ref q6, .ref q7, .int 0, .ref q8])), (q3, .inl (cy 4, 40, .inl (fun _ => 0))), (q4, .inl (cy 0, 41, .inl (fun _ => 0))), (q5, .inl (cy 0, 41, .inl (fun _ => 0))), (q6, .inl (cy 0, 41, .inl (fun _ => 0))), (q7, .inl (cy 6, 41, .inr (.inr (.inr (.inr (fun _ => none)))))), (q8, .inr (1, [.ref q9, .int 0, .int 0, .int 0])), (q9, .inl (cy 5, 16, .inl (fun _ => 0))), (q11, .inr (10, [.null, .null, .null, .null, .null, .int 0, .null, .int 0]))] := hD
  refine W.widen (k := 10) (n := 244) (Nat.le_of_ble_eq_true rfl) (Nat.le_of_ble_eq_true rfl) ?_
  refine lv_dup hx hb dX11_init_19 rfl ?_
  have hPc := hP.sub (ws' := [(q11, .inr (10, [.null, .null, .null, .null, .null, .int 0, .null, .int 0]))]) [10] rfl
  have hDc := hD.sub (ws' := [(q11, .inr (10, [.null, .null, .null, .null, .null, .int 0, .null, .int 0]))]) [10] (by decide) rfl
  have hFc := va_free (wc := [(q11, .inr (10, [.null, .null, .null, .null, .null, .int 0, .null, .int 0]))]) hD hS hA [10] rfl
  refine va_callv (va_runI (As := []) (rest := [.ref q11, .ref a0]) ⟨hx, hb, hml, hown, hts⟩ (C_X8_init_1 l D cy sz0 sa q11 H.size) (cwI 0 hts gX11_init_X8_init rfl rfl rfl (hts (.initialized RX8) (List.mem_of_getElem? (i := 10) rfl)) (hts (.methodLink RX11 18 yX8_init) (List.mem_of_getElem? (i := 63) rfl)) (hts (.instanceMethod yX8_init) (List.mem_of_getElem? (i := 64) rfl)) rfl (by decide +kernel) ⟨Nat.le_of_ble_eq_true rfl, Nat.le_of_ble_eq_true rfl⟩) ⟨PcW.blind, PcW.mk hE hS hAF hPc hDc⟩ rfl rfl hl.1 rfl (lv_room (Nat.le_of_ble_eq_true rfl)) dX11_init_20 ⟨Nat.le_of_ble_eq_true rfl, Nat.le_of_ble_eq_true rfl⟩) hS (fun q _ h => hFc q h) hFc (fun u t H1 locs ht hvm hw hB hz1 hk1 hS => ?_)
  obtain ⟨q12, q13, q14, q15, q16, q17, q18, q19, q20, hP1, hD1⟩ := hB
  rw [ht] at hP1
  have hP1 : va_P D vwCl [(q11, .inr (10, [.ref q12, .ref q13, .ref q17, .ref q19, .ref q20, .int 0, .ref q12, .int 0])), (q12, .inr (12, [.int 0, .int 0, .double FP.dconst0, .ref (sa 0), .null])), (q13, .inr (2, [.ref q14, .ref q15])), (q14, .inl (cy 2, 65, .inl (fun _ => 0))), (q15, .inr (1, [.ref q16, .int 0, .int 0, .int 0])), (q16, .inl (cy 5, 16, .inl (fun _ => 0))), (q17, .inr (5, [.ref q18, .int 0, .int 0])), (q18, .inl (cy 9, 30, .inr (.inr (.inr (.inr (fun _ => none)))))), (q19, .inl (cy 0, 12, .inl (fun _ => 0))), (q20, .inl (cy 6, 12, .inr (.inr (.inr (.inr (fun _ => none))))))] H1 := hP1
  obtain ⟨hP, hD⟩ := va_join (wr := [(a0, .inr (13, [.ref q1, .null, .null, .int 0, .null, .int 0, .null, .int 0, .null])), (q1, .inr (8, [.ref q2, .int 0, .int 0, .int 0])), (q2, .inr (6, [.ref q3, .int 0, .ref q4, .ref q5, .ref q6, .ref q7, .int 0, .ref q8])), (q3, .inl (cy 4, 40, .inl (fun _ => 0))), (q4, .inl (cy 0, 41, .inl (fun _ => 0))), (q5, .inl (cy 0, 41, .inl (fun _ => 0))), (q6, .inl (cy 0, 41, .inl (fun _ => 0))), (q7, .inl (cy 6, 41, .inr (.inr (.inr (.inr (fun _ => none)))))), (q8, .inr (1, [.ref q9, .int 0, .int 0, .int 0])), (q9, .inl (cy 5, 16, .inl (fun _ => 0)))]) (w1 := [(q11, .inr (10, [.ref q12, .ref q13, .ref q17, .ref q19, .ref q20, .int 0, .ref q12, .int 0])), (q12, .inr (12, [.int 0, .int 0, .double FP.dconst0, .ref (sa 0), .null])), (q13, .inr (2, [.ref q14, .ref q15])), (q14, .inl (cy 2, 65, .inl (fun _ => 0))), (q15, .inr (1, [.ref q16, .int 0, .int 0, .int 0])), (q16, .inl (cy 5, 16, .inl (fun _ => 0))), (q17, .inr (5, [.ref q18, .int 0, .int 0])), (q18, .inl (cy 9, 30, .inr (.inr (.inr (.inr (fun _ => none)))))), (q19, .inl (cy 0, 12, .inl (fun _ => 0))), (q20, .inl (cy 6, 12, .inr (.inr (.inr (.inr (fun _ => none))))))]) hP hD [10] [0, 1, 2, 3, 4, 5, 6, 7, 8, 9] rfl rfl (by decide) (by decide) hk1 hFc hP1 hD1
  clear hP1 hD1 hPc hDc hFc hk1 hz1
  generalize H1 = H at hP hS ⊢
  have hP : va_P D vwCl [(a0, .inr (13, [.ref q1, .null, .null, .int 0, .null, .int 0, .null, .int 0, .null])), (q1, .inr (8, [.ref q2, .int 0, .int 0, .int 0])), (q2, .inr (6, [.ref q3, .int 0, .ref q4, .ref q5, .ref q6, .ref q7, .int 0, .ref q8])), (q3, .inl (cy 4, 40, .inl (fun _ => 0))), (q4, .inl (cy 0, 41, .inl (fun _ => 0))), (q5, .inl (cy 0, 41, .inl (fun _ => 0))), (q6, .inl (cy 0, 41, .inl (fun _ => 0))), (q7, .inl (cy 6, 41, .inr (.inr (.inr (.inr (fun _ => none)))))), (q8, .inr (1, [.ref q9, .int 0, .int 0, .int 0])), (q9, .inl (cy 5, 16, .inl (fun _ => 0))), (q11, .inr (10, [.ref q12, .ref q13, .ref q17, .ref q19, .ref q20, .int 0, .ref q12, .int 0])), (q12, .inr (12, [.int 0, .int 0, .double FP.dconst0, .ref (sa 0), .null])), (q13, .inr (2, [.ref q14, .ref q15])), (q14, .inl (cy 2, 65, .inl (fun _ => 0))), (q15, .inr (1, [.ref q16, .int 0, .int 0, .int 0])), (q16, .inl (cy 5, 16, .inl (fun _ => 0))), (q17, .inr (5, [.ref q18, .int 0, .int 0])), (q18, .inl (cy 9, 30, .inr (.inr (.inr (.inr (fun _ => none)))))), (q19, .inl (cy 0, 12, .inl (fun _ => 0))), (q20, .inl (cy 6, 12, .inr (.inr (.inr (.inr (fun _ => none))))))] H := hP
  have hD : va_D A [(a0, .inr (13, [.ref q1, .null, .null, .int 0, .null, .int 0, .null, .int 0, .null])), (q1, .inr (8, [.ref q2, .int 0, .int 0, .int 0])), (q2, .inr (6, [.ref q3, .int 0, .ref q4, .ref q5, .ref q6, .ref q7, .int 0, .ref q8])), (q3, .inl (cy 4, 40, .inl (fun _ => 0))), (q4, .inl (cy 0, 41, .inl (fun _ => 0))), (q5, .inl (cy 0, 41, .inl (fun _ => 0))), (q6, .inl (cy 0, 41, .inl (fun _ => 0))), (q7, .inl (cy 6, 41, .inr (.inr (.inr (.inr (fun _ => none)))))), (q8, .inr (1, [.ref q9, .int 0, .int 0, .int 0])), (q9, .inl (cy 5, 16, .inl (fun _ => 0))), (q11, .inr (10, [.ref q12, .ref q13, .ref q17, .ref q19, .ref q20, .int 0, .ref q12, .int 0])), (q12, .inr (12, [.int 0, .int 0, .double FP.dconst0, .ref (sa 0), .null])), (q13, .inr (2, [.ref q14, .ref q15])), (q14, .inl (cy 2, 65, .inl (fun _ => 0))), (q15, .inr (1, [.ref q16, .int 0, .int 0, .int 0])), (q16, .inl (cy 5, 16, .inl (fun _ => 0))), (q17, .inr (5, [.ref q18, .int 0, .int 0])), (q18, .inl (cy 9, 30, .inr (.inr (.inr (.inr (fun _ => none)))))), (q19, .inl (cy 0, 12, .inl (fun _ => 0))), (q20, .inl (cy 6, 12, .inr (.inr (.inr (.inr (fun _ => none))))))] := hD
  refine W.widen (k := 19) (n := 393) (Nat.le_of_ble_eq_true rfl) (Nat.le_of_ble_eq_true rfl) ?_
  refine va_putF (D := D) (ci := 13) (v := .ref q11) (ty := .object "PhraseDesk$Runner") (C := RX11) (T := TX11) (N := 9) hx hb hts (fun _ h => List.mem_cons_of_mem _ (List.mem_append_left _ (List.mem_append_left _ (List.mem_append_left _ (List.mem_append_left _ (List.mem_append_left _ (List.mem_append_left _ (List.mem_append_right _ h)))))))) tyX11 tyX11_ok nmX11 hown hK hP hD hS 0 rfl rfl 1 (by decide) (hts (.fieldLink RX11 19 "PhraseDesk" "runner" "LPhraseDesk$Runner;") (List.mem_of_getElem? (i := 11) rfl)) (fun _ h9 => h9) rfl hin rfl (by decide +kernel) rfl rfl (Nat.le_of_ble_eq_true rfl) dX11_init_23 (fun H locs hP hD hS => ?_)
  have hP : va_P D vwCl [(a0, .inr (13, [.ref q1, .ref q11, .null, .int 0, .null, .int 0, .null, .int 0, .null])), (q1, .inr (8, [.ref q2, .int 0, .int 0, .int 0])), (q2, .inr (6, [.ref q3, .int 0, .ref q4, .ref q5, .ref q6, .ref q7, .int 0, .ref q8])), (q3, .inl (cy 4, 40, .inl (fun _ => 0))), (q4, .inl (cy 0, 41, .inl (fun _ => 0))), (q5, .inl (cy 0, 41, .inl (fun _ => 0))), (q6, .inl (cy 0, 41, .inl (fun _ => 0))), (q7, .inl (cy 6, 41, .inr (.inr (.inr (.inr (fun _ => none)))))), (q8, .inr (1, [.ref q9, .int 0, .int 0, .int 0])), (q9, .inl (cy 5, 16, .inl (fun _ => 0))), (q11, .inr (10, [.ref q12, .ref q13, .ref q17, .ref q19, .ref q20, .int 0, .ref q12, .int 0])), (q12, .inr (12, [.int 0, .int 0, .double FP.dconst0, .ref (sa 0), .null])), (q13, .inr (2, [.ref q14, .ref q15])), (q14, .inl (cy 2, 65, .inl (fun _ => 0))), (q15, .inr (1, [.ref q16, .int 0, .int 0, .int 0])), (q16, .inl (cy 5, 16, .inl (fun _ => 0))), (q17, .inr (5, [.ref q18, .int 0, .int 0])), (q18, .inl (cy 9, 30, .inr (.inr (.inr (.inr (fun _ => none)))))), (q19, .inl (cy 0, 12, .inl (fun _ => 0))), (q20, .inl (cy 6, 12, .inr (.inr (.inr (.inr (fun _ => none))))))] H := hP
  have hD : va_D A [(a0, .inr (13, [.ref q1, .ref q11, .null, .int 0, .null, .int 0, .null, .int 0, .null])), (q1, .inr (8, [.ref q2, .int 0, .int 0, .int 0])), (q2, .inr (6, [.ref q3, .int 0, .ref q4, .ref q5, .ref q6, .ref q7, .int 0, .ref q8])), (q3, .inl (cy 4, 40, .inl (fun _ => 0))), (q4, .inl (cy 0, 41, .inl (fun _ => 0))), (q5, .inl (cy 0, 41, .inl (fun _ => 0))), (q6, .inl (cy 0, 41, .inl (fun _ => 0))), (q7, .inl (cy 6, 41, .inr (.inr (.inr (.inr (fun _ => none)))))), (q8, .inr (1, [.ref q9, .int 0, .int 0, .int 0])), (q9, .inl (cy 5, 16, .inl (fun _ => 0))), (q11, .inr (10, [.ref q12, .ref q13, .ref q17, .ref q19, .ref q20, .int 0, .ref q12, .int 0])), (q12, .inr (12, [.int 0, .int 0, .double FP.dconst0, .ref (sa 0), .null])), (q13, .inr (2, [.ref q14, .ref q15])), (q14, .inl (cy 2, 65, .inl (fun _ => 0))), (q15, .inr (1, [.ref q16, .int 0, .int 0, .int 0])), (q16, .inl (cy 5, 16, .inl (fun _ => 0))), (q17, .inr (5, [.ref q18, .int 0, .int 0])), (q18, .inl (cy 9, 30, .inr (.inr (.inr (.inr (fun _ => none)))))), (q19, .inl (cy 0, 12, .inl (fun _ => 0))), (q20, .inl (cy 6, 12, .inr (.inr (.inr (.inr (fun _ => none))))))] := hD
  refine lv_aload_n hx hb dX11_init_26 rfl (lv_at hl 0 rfl) ?_
  refine lv_bipush (v := 40) hx hb dX11_init_27 (by decide +kernel) ?_
  refine g_newq (C := "PhraseDesk$Node") hx hb hown (hts (.classLink RX11 23 RX5) (List.mem_of_getElem? (i := 12) rfl)) hAO.2.1 hK hP hD hS hA 7 rfl (N' := 40) (by decide +kernel) (by decide +kernel) (by decide +kernel) (Nat.le_of_ble_eq_true rfl) (Nat.le_of_ble_eq_true rfl) dX11_init_29 (fun q22 H hP hD hS => ?_)
  have hP : va_P D vwCl [(a0, .inr (13, [.ref q1, .ref q11, .null, .int 0, .null, .int 0, .null, .int 0, .null])), (q1, .inr (8, [.ref q2, .int 0, .int 0, .int 0])), (q2, .inr (6, [.ref q3, .int 0, .ref q4, .ref q5, .ref q6, .ref q7, .int 0, .ref q8])), (q3, .inl (cy 4, 40, .inl (fun _ => 0))), (q4, .inl (cy 0, 41, .inl (fun _ => 0))), (q5, .inl (cy 0, 41, .inl (fun _ => 0))), (q6, .inl (cy 0, 41, .inl (fun _ => 0))), (q7, .inl (cy 6, 41, .inr (.inr (.inr (.inr (fun _ => none)))))), (q8, .inr (1, [.ref q9, .int 0, .int 0, .int 0])), (q9, .inl (cy 5, 16, .inl (fun _ => 0))), (q11, .inr (10, [.ref q12, .ref q13, .ref q17, .ref q19, .ref q20, .int 0, .ref q12, .int 0])), (q12, .inr (12, [.int 0, .int 0, .double FP.dconst0, .ref (sa 0), .null])), (q13, .inr (2, [.ref q14, .ref q15])), (q14, .inl (cy 2, 65, .inl (fun _ => 0))), (q15, .inr (1, [.ref q16, .int 0, .int 0, .int 0])), (q16, .inl (cy 5, 16, .inl (fun _ => 0))), (q17, .inr (5, [.ref q18, .int 0, .int 0])), (q18, .inl (cy 9, 30, .inr (.inr (.inr (.inr (fun _ => none)))))), (q19, .inl (cy 0, 12, .inl (fun _ => 0))), (q20, .inl (cy 6, 12, .inr (.inr (.inr (.inr (fun _ => none)))))), (q22, .inl (cy 7, 40, .inr (.inr (.inr (.inr (fun _ => none))))))] H := hP
  have hD : va_D A [(a0, .inr (13, [.ref q1, .ref q11, .null, .int 0, .null, .int 0, .null, .int 0, .null])), (q1, .inr (8, [.ref q2, .int 0, .int 0, .int 0])), (q2, .inr (6, [.ref q3, .int 0, .ref q4, .ref q5, .ref q6, .ref q7, .int 0, .ref q8])), (q3, .inl (cy 4, 40, .inl (fun _ => 0))), (q4, .inl (cy 0, 41, .inl (fun _ => 0))), (q5, .inl (cy 0, 41, .inl (fun _ => 0))), (q6, .inl (cy 0, 41, .inl (fun _ => 0))), (q7, .inl (cy 6, 41, .inr (.inr (.inr (.inr (fun _ => none)))))), (q8, .inr (1, [.ref q9, .int 0, .int 0, .int 0])), (q9, .inl (cy 5, 16, .inl (fun _ => 0))), (q11, .inr (10, [.ref q12, .ref q13, .ref q17, .ref q19, .ref q20, .int 0, .ref q12, .int 0])), (q12, .inr (12, [.int 0, .int 0, .double FP.dconst0, .ref (sa 0), .null])), (q13, .inr (2, [.ref q14, .ref q15])), (q14, .inl (cy 2, 65, .inl (fun _ => 0))), (q15, .inr (1, [.ref q16, .int 0, .int 0, .int 0])), (q16, .inl (cy 5, 16, .inl (fun _ => 0))), (q17, .inr (5, [.ref q18, .int 0, .int 0])), (q18, .inl (cy 9, 30, .inr (.inr (.inr (.inr (fun _ => none)))))), (q19, .inl (cy 0, 12, .inl (fun _ => 0))), (q20, .inl (cy 6, 12, .inr (.inr (.inr (.inr (fun _ => none)))))), (q22, .inl (cy 7, 40, .inr (.inr (.inr (.inr (fun _ => none))))))] := hD
  refine W.widen (k := 20) (n := 433) (Nat.le_of_ble_eq_true rfl) (Nat.le_of_ble_eq_true rfl) ?_
  refine va_putF (D := D) (ci := 13) (v := .ref q22) (ty := .array (.object "PhraseDesk$Node")) (C := RX11) (T := TX11) (N := 9) hx hb hts (fun _ h => List.mem_cons_of_mem _ (List.mem_append_left _ (List.mem_append_left _ (List.mem_append_left _ (List.mem_append_left _ (List.mem_append_left _ (List.mem_append_left _ (List.mem_append_right _ h)))))))) tyX11 tyX11_ok nmX11 hown hK hP hD hS 0 rfl rfl 2 (by decide) (hts (.fieldLink RX11 25 "PhraseDesk" "programs" "[LPhraseDesk$Node;") (List.mem_of_getElem? (i := 13) rfl)) (fun _ h9 => h9) rfl hin rfl (by decide +kernel) rfl rfl (Nat.le_of_ble_eq_true rfl) dX11_init_32 (fun H locs hP hD hS => ?_)
  have hP : va_P D vwCl [(a0, .inr (13, [.ref q1, .ref q11, .ref q22, .int 0, .null, .int 0, .null, .int 0, .null])), (q1, .inr (8, [.ref q2, .int 0, .int 0, .int 0])), (q2, .inr (6, [.ref q3, .int 0, .ref q4, .ref q5, .ref q6, .ref q7, .int 0, .ref q8])), (q3, .inl (cy 4, 40, .inl (fun _ => 0))), (q4, .inl (cy 0, 41, .inl (fun _ => 0))), (q5, .inl (cy 0, 41, .inl (fun _ => 0))), (q6, .inl (cy 0, 41, .inl (fun _ => 0))), (q7, .inl (cy 6, 41, .inr (.inr (.inr (.inr (fun _ => none)))))), (q8, .inr (1, [.ref q9, .int 0, .int 0, .int 0])), (q9, .inl (cy 5, 16, .inl (fun _ => 0))), (q11, .inr (10, [.ref q12, .ref q13, .ref q17, .ref q19, .ref q20, .int 0, .ref q12, .int 0])), (q12, .inr (12, [.int 0, .int 0, .double FP.dconst0, .ref (sa 0), .null])), (q13, .inr (2, [.ref q14, .ref q15])), (q14, .inl (cy 2, 65, .inl (fun _ => 0))), (q15, .inr (1, [.ref q16, .int 0, .int 0, .int 0])), (q16, .inl (cy 5, 16, .inl (fun _ => 0))), (q17, .inr (5, [.ref q18, .int 0, .int 0])), (q18, .inl (cy 9, 30, .inr (.inr (.inr (.inr (fun _ => none)))))), (q19, .inl (cy 0, 12, .inl (fun _ => 0))), (q20, .inl (cy 6, 12, .inr (.inr (.inr (.inr (fun _ => none)))))), (q22, .inl (cy 7, 40, .inr (.inr (.inr (.inr (fun _ => none))))))] H := hP
  have hD : va_D A [(a0, .inr (13, [.ref q1, .ref q11, .ref q22, .int 0, .null, .int 0, .null, .int 0, .null])), (q1, .inr (8, [.ref q2, .int 0, .int 0, .int 0])), (q2, .inr (6, [.ref q3, .int 0, .ref q4, .ref q5, .ref q6, .ref q7, .int 0, .ref q8])), (q3, .inl (cy 4, 40, .inl (fun _ => 0))), (q4, .inl (cy 0, 41, .inl (fun _ => 0))), (q5, .inl (cy 0, 41, .inl (fun _ => 0))), (q6, .inl (cy 0, 41, .inl (fun _ => 0))), (q7, .inl (cy 6, 41, .inr (.inr (.inr (.inr (fun _ => none)))))), (q8, .inr (1, [.ref q9, .int 0, .int 0, .int 0])), (q9, .inl (cy 5, 16, .inl (fun _ => 0))), (q11, .inr (10, [.ref q12, .ref q13, .ref q17, .ref q19, .ref q20, .int 0, .ref q12, .int 0])), (q12, .inr (12, [.int 0, .int 0, .double FP.dconst0, .ref (sa 0), .null])), (q13, .inr (2, [.ref q14, .ref q15])), (q14, .inl (cy 2, 65, .inl (fun _ => 0))), (q15, .inr (1, [.ref q16, .int 0, .int 0, .int 0])), (q16, .inl (cy 5, 16, .inl (fun _ => 0))), (q17, .inr (5, [.ref q18, .int 0, .int 0])), (q18, .inl (cy 9, 30, .inr (.inr (.inr (.inr (fun _ => none)))))), (q19, .inl (cy 0, 12, .inl (fun _ => 0))), (q20, .inl (cy 6, 12, .inr (.inr (.inr (.inr (fun _ => none)))))), (q22, .inl (cy 7, 40, .inr (.inr (.inr (.inr (fun _ => none))))))] := hD
  refine lv_aload_n hx hb dX11_init_35 rfl (lv_at hl 0 rfl) ?_
  refine lv_iconst (v := 5) hx hb dX11_init_36 (by decide +kernel) ?_
  refine g_newq (C := "PhraseDesk$Family") hx hb hown (hts (.classLink RX11 29 RX1) (List.mem_of_getElem? (i := 14) rfl)) hAO.2.2.1 hK hP hD hS hA 8 rfl (N' := 5) (by decide +kernel) (by decide +kernel) (by decide +kernel) (Nat.le_of_ble_eq_true rfl) (Nat.le_of_ble_eq_true rfl) dX11_init_37 (fun q23 H hP hD hS => ?_)
  have hP : va_P D vwCl [(a0, .inr (13, [.ref q1, .ref q11, .ref q22, .int 0, .null, .int 0, .null, .int 0, .null])), (q1, .inr (8, [.ref q2, .int 0, .int 0, .int 0])), (q2, .inr (6, [.ref q3, .int 0, .ref q4, .ref q5, .ref q6, .ref q7, .int 0, .ref q8])), (q3, .inl (cy 4, 40, .inl (fun _ => 0))), (q4, .inl (cy 0, 41, .inl (fun _ => 0))), (q5, .inl (cy 0, 41, .inl (fun _ => 0))), (q6, .inl (cy 0, 41, .inl (fun _ => 0))), (q7, .inl (cy 6, 41, .inr (.inr (.inr (.inr (fun _ => none)))))), (q8, .inr (1, [.ref q9, .int 0, .int 0, .int 0])), (q9, .inl (cy 5, 16, .inl (fun _ => 0))), (q11, .inr (10, [.ref q12, .ref q13, .ref q17, .ref q19, .ref q20, .int 0, .ref q12, .int 0])), (q12, .inr (12, [.int 0, .int 0, .double FP.dconst0, .ref (sa 0), .null])), (q13, .inr (2, [.ref q14, .ref q15])), (q14, .inl (cy 2, 65, .inl (fun _ => 0))), (q15, .inr (1, [.ref q16, .int 0, .int 0, .int 0])), (q16, .inl (cy 5, 16, .inl (fun _ => 0))), (q17, .inr (5, [.ref q18, .int 0, .int 0])), (q18, .inl (cy 9, 30, .inr (.inr (.inr (.inr (fun _ => none)))))), (q19, .inl (cy 0, 12, .inl (fun _ => 0))), (q20, .inl (cy 6, 12, .inr (.inr (.inr (.inr (fun _ => none)))))), (q22, .inl (cy 7, 40, .inr (.inr (.inr (.inr (fun _ => none)))))), (q23, .inl (cy 8, 5, .inr (.inr (.inr (.inr (fun _ => none))))))] H := hP
  have hD : va_D A [(a0, .inr (13, [.ref q1, .ref q11, .ref q22, .int 0, .null, .int 0, .null, .int 0, .null])), (q1, .inr (8, [.ref q2, .int 0, .int 0, .int 0])), (q2, .inr (6, [.ref q3, .int 0, .ref q4, .ref q5, .ref q6, .ref q7, .int 0, .ref q8])), (q3, .inl (cy 4, 40, .inl (fun _ => 0))), (q4, .inl (cy 0, 41, .inl (fun _ => 0))), (q5, .inl (cy 0, 41, .inl (fun _ => 0))), (q6, .inl (cy 0, 41, .inl (fun _ => 0))), (q7, .inl (cy 6, 41, .inr (.inr (.inr (.inr (fun _ => none)))))), (q8, .inr (1, [.ref q9, .int 0, .int 0, .int 0])), (q9, .inl (cy 5, 16, .inl (fun _ => 0))), (q11, .inr (10, [.ref q12, .ref q13, .ref q17, .ref q19, .ref q20, .int 0, .ref q12, .int 0])), (q12, .inr (12, [.int 0, .int 0, .double FP.dconst0, .ref (sa 0), .null])), (q13, .inr (2, [.ref q14, .ref q15])), (q14, .inl (cy 2, 65, .inl (fun _ => 0))), (q15, .inr (1, [.ref q16, .int 0, .int 0, .int 0])), (q16, .inl (cy 5, 16, .inl (fun _ => 0))), (q17, .inr (5, [.ref q18, .int 0, .int 0])), (q18, .inl (cy 9, 30, .inr (.inr (.inr (.inr (fun _ => none)))))), (q19, .inl (cy 0, 12, .inl (fun _ => 0))), (q20, .inl (cy 6, 12, .inr (.inr (.inr (.inr (fun _ => none)))))), (q22, .inl (cy 7, 40, .inr (.inr (.inr (.inr (fun _ => none)))))), (q23, .inl (cy 8, 5, .inr (.inr (.inr (.inr (fun _ => none))))))] := hD
  refine W.widen (k := 21) (n := 438) (Nat.le_of_ble_eq_true rfl) (Nat.le_of_ble_eq_true rfl) ?_
  refine va_putF (D := D) (ci := 13) (v := .ref q23) (ty := .array (.object "PhraseDesk$Family")) (C := RX11) (T := TX11) (N := 9) hx hb hts (fun _ h => List.mem_cons_of_mem _ (List.mem_append_left _ (List.mem_append_left _ (List.mem_append_left _ (List.mem_append_left _ (List.mem_append_left _ (List.mem_append_left _ (List.mem_append_right _ h)))))))) tyX11 tyX11_ok nmX11 hown hK hP hD hS 0 rfl rfl 4 (by decide) (hts (.fieldLink RX11 31 "PhraseDesk" "families" "[LPhraseDesk$Family;") (List.mem_of_getElem? (i := 15) rfl)) (fun _ h9 => h9) rfl hin rfl (by decide +kernel) rfl rfl (Nat.le_of_ble_eq_true rfl) dX11_init_40 (fun H locs hP hD hS => ?_)
  have hP : va_P D vwCl [(a0, .inr (13, [.ref q1, .ref q11, .ref q22, .int 0, .ref q23, .int 0, .null, .int 0, .null])), (q1, .inr (8, [.ref q2, .int 0, .int 0, .int 0])), (q2, .inr (6, [.ref q3, .int 0, .ref q4, .ref q5, .ref q6, .ref q7, .int 0, .ref q8])), (q3, .inl (cy 4, 40, .inl (fun _ => 0))), (q4, .inl (cy 0, 41, .inl (fun _ => 0))), (q5, .inl (cy 0, 41, .inl (fun _ => 0))), (q6, .inl (cy 0, 41, .inl (fun _ => 0))), (q7, .inl (cy 6, 41, .inr (.inr (.inr (.inr (fun _ => none)))))), (q8, .inr (1, [.ref q9, .int 0, .int 0, .int 0])), (q9, .inl (cy 5, 16, .inl (fun _ => 0))), (q11, .inr (10, [.ref q12, .ref q13, .ref q17, .ref q19, .ref q20, .int 0, .ref q12, .int 0])), (q12, .inr (12, [.int 0, .int 0, .double FP.dconst0, .ref (sa 0), .null])), (q13, .inr (2, [.ref q14, .ref q15])), (q14, .inl (cy 2, 65, .inl (fun _ => 0))), (q15, .inr (1, [.ref q16, .int 0, .int 0, .int 0])), (q16, .inl (cy 5, 16, .inl (fun _ => 0))), (q17, .inr (5, [.ref q18, .int 0, .int 0])), (q18, .inl (cy 9, 30, .inr (.inr (.inr (.inr (fun _ => none)))))), (q19, .inl (cy 0, 12, .inl (fun _ => 0))), (q20, .inl (cy 6, 12, .inr (.inr (.inr (.inr (fun _ => none)))))), (q22, .inl (cy 7, 40, .inr (.inr (.inr (.inr (fun _ => none)))))), (q23, .inl (cy 8, 5, .inr (.inr (.inr (.inr (fun _ => none))))))] H := hP
  have hD : va_D A [(a0, .inr (13, [.ref q1, .ref q11, .ref q22, .int 0, .ref q23, .int 0, .null, .int 0, .null])), (q1, .inr (8, [.ref q2, .int 0, .int 0, .int 0])), (q2, .inr (6, [.ref q3, .int 0, .ref q4, .ref q5, .ref q6, .ref q7, .int 0, .ref q8])), (q3, .inl (cy 4, 40, .inl (fun _ => 0))), (q4, .inl (cy 0, 41, .inl (fun _ => 0))), (q5, .inl (cy 0, 41, .inl (fun _ => 0))), (q6, .inl (cy 0, 41, .inl (fun _ => 0))), (q7, .inl (cy 6, 41, .inr (.inr (.inr (.inr (fun _ => none)))))), (q8, .inr (1, [.ref q9, .int 0, .int 0, .int 0])), (q9, .inl (cy 5, 16, .inl (fun _ => 0))), (q11, .inr (10, [.ref q12, .ref q13, .ref q17, .ref q19, .ref q20, .int 0, .ref q12, .int 0])), (q12, .inr (12, [.int 0, .int 0, .double FP.dconst0, .ref (sa 0), .null])), (q13, .inr (2, [.ref q14, .ref q15])), (q14, .inl (cy 2, 65, .inl (fun _ => 0))), (q15, .inr (1, [.ref q16, .int 0, .int 0, .int 0])), (q16, .inl (cy 5, 16, .inl (fun _ => 0))), (q17, .inr (5, [.ref q18, .int 0, .int 0])), (q18, .inl (cy 9, 30, .inr (.inr (.inr (.inr (fun _ => none)))))), (q19, .inl (cy 0, 12, .inl (fun _ => 0))), (q20, .inl (cy 6, 12, .inr (.inr (.inr (.inr (fun _ => none)))))), (q22, .inl (cy 7, 40, .inr (.inr (.inr (.inr (fun _ => none)))))), (q23, .inl (cy 8, 5, .inr (.inr (.inr (.inr (fun _ => none))))))] := hD
  refine lv_aload_n hx hb dX11_init_43 rfl (lv_at hl 0 rfl) ?_
  refine lv_bipush (v := 30) hx hb dX11_init_44 (by decide +kernel) ?_
  refine g_newq (C := "PhraseDesk$Value") hx hb hown (hts (.classLink RX11 35 RX10) (List.mem_of_getElem? (i := 16) rfl)) hAO.1 hK hP hD hS hA 6 rfl (N' := 30) (by decide +kernel) (by decide +kernel) (by decide +kernel) (Nat.le_of_ble_eq_true rfl) (Nat.le_of_ble_eq_true rfl) dX11_init_46 (fun q24 H hP hD hS => ?_)
  have hP : va_P D vwCl [(a0, .inr (13, [.ref q1, .ref q11, .ref q22, .int 0, .ref q23, .int 0, .null, .int 0, .null])), (q1, .inr (8, [.ref q2, .int 0, .int 0, .int 0])), (q2, .inr (6, [.ref q3, .int 0, .ref q4, .ref q5, .ref q6, .ref q7, .int 0, .ref q8])), (q3, .inl (cy 4, 40, .inl (fun _ => 0))), (q4, .inl (cy 0, 41, .inl (fun _ => 0))), (q5, .inl (cy 0, 41, .inl (fun _ => 0))), (q6, .inl (cy 0, 41, .inl (fun _ => 0))), (q7, .inl (cy 6, 41, .inr (.inr (.inr (.inr (fun _ => none)))))), (q8, .inr (1, [.ref q9, .int 0, .int 0, .int 0])), (q9, .inl (cy 5, 16, .inl (fun _ => 0))), (q11, .inr (10, [.ref q12, .ref q13, .ref q17, .ref q19, .ref q20, .int 0, .ref q12, .int 0])), (q12, .inr (12, [.int 0, .int 0, .double FP.dconst0, .ref (sa 0), .null])), (q13, .inr (2, [.ref q14, .ref q15])), (q14, .inl (cy 2, 65, .inl (fun _ => 0))), (q15, .inr (1, [.ref q16, .int 0, .int 0, .int 0])), (q16, .inl (cy 5, 16, .inl (fun _ => 0))), (q17, .inr (5, [.ref q18, .int 0, .int 0])), (q18, .inl (cy 9, 30, .inr (.inr (.inr (.inr (fun _ => none)))))), (q19, .inl (cy 0, 12, .inl (fun _ => 0))), (q20, .inl (cy 6, 12, .inr (.inr (.inr (.inr (fun _ => none)))))), (q22, .inl (cy 7, 40, .inr (.inr (.inr (.inr (fun _ => none)))))), (q23, .inl (cy 8, 5, .inr (.inr (.inr (.inr (fun _ => none)))))), (q24, .inl (cy 6, 30, .inr (.inr (.inr (.inr (fun _ => none))))))] H := hP
  have hD : va_D A [(a0, .inr (13, [.ref q1, .ref q11, .ref q22, .int 0, .ref q23, .int 0, .null, .int 0, .null])), (q1, .inr (8, [.ref q2, .int 0, .int 0, .int 0])), (q2, .inr (6, [.ref q3, .int 0, .ref q4, .ref q5, .ref q6, .ref q7, .int 0, .ref q8])), (q3, .inl (cy 4, 40, .inl (fun _ => 0))), (q4, .inl (cy 0, 41, .inl (fun _ => 0))), (q5, .inl (cy 0, 41, .inl (fun _ => 0))), (q6, .inl (cy 0, 41, .inl (fun _ => 0))), (q7, .inl (cy 6, 41, .inr (.inr (.inr (.inr (fun _ => none)))))), (q8, .inr (1, [.ref q9, .int 0, .int 0, .int 0])), (q9, .inl (cy 5, 16, .inl (fun _ => 0))), (q11, .inr (10, [.ref q12, .ref q13, .ref q17, .ref q19, .ref q20, .int 0, .ref q12, .int 0])), (q12, .inr (12, [.int 0, .int 0, .double FP.dconst0, .ref (sa 0), .null])), (q13, .inr (2, [.ref q14, .ref q15])), (q14, .inl (cy 2, 65, .inl (fun _ => 0))), (q15, .inr (1, [.ref q16, .int 0, .int 0, .int 0])), (q16, .inl (cy 5, 16, .inl (fun _ => 0))), (q17, .inr (5, [.ref q18, .int 0, .int 0])), (q18, .inl (cy 9, 30, .inr (.inr (.inr (.inr (fun _ => none)))))), (q19, .inl (cy 0, 12, .inl (fun _ => 0))), (q20, .inl (cy 6, 12, .inr (.inr (.inr (.inr (fun _ => none)))))), (q22, .inl (cy 7, 40, .inr (.inr (.inr (.inr (fun _ => none)))))), (q23, .inl (cy 8, 5, .inr (.inr (.inr (.inr (fun _ => none)))))), (q24, .inl (cy 6, 30, .inr (.inr (.inr (.inr (fun _ => none))))))] := hD
  refine W.widen (k := 22) (n := 468) (Nat.le_of_ble_eq_true rfl) (Nat.le_of_ble_eq_true rfl) ?_
  refine va_putF (D := D) (ci := 13) (v := .ref q24) (ty := .array (.object "PhraseDesk$Value")) (C := RX11) (T := TX11) (N := 9) hx hb hts (fun _ h => List.mem_cons_of_mem _ (List.mem_append_left _ (List.mem_append_left _ (List.mem_append_left _ (List.mem_append_left _ (List.mem_append_left _ (List.mem_append_left _ (List.mem_append_right _ h)))))))) tyX11 tyX11_ok nmX11 hown hK hP hD hS 0 rfl rfl 6 (by decide) (hts (.fieldLink RX11 37 "PhraseDesk" "objects" "[LPhraseDesk$Value;") (List.mem_of_getElem? (i := 17) rfl)) (fun _ h9 => h9) rfl hin rfl (by decide +kernel) rfl rfl (Nat.le_of_ble_eq_true rfl) dX11_init_49 (fun H locs hP hD hS => ?_)
  have hP : va_P D vwCl [(a0, .inr (13, [.ref q1, .ref q11, .ref q22, .int 0, .ref q23, .int 0, .ref q24, .int 0, .null])), (q1, .inr (8, [.ref q2, .int 0, .int 0, .int 0])), (q2, .inr (6, [.ref q3, .int 0, .ref q4, .ref q5, .ref q6, .ref q7, .int 0, .ref q8])), (q3, .inl (cy 4, 40, .inl (fun _ => 0))), (q4, .inl (cy 0, 41, .inl (fun _ => 0))), (q5, .inl (cy 0, 41, .inl (fun _ => 0))), (q6, .inl (cy 0, 41, .inl (fun _ => 0))), (q7, .inl (cy 6, 41, .inr (.inr (.inr (.inr (fun _ => none)))))), (q8, .inr (1, [.ref q9, .int 0, .int 0, .int 0])), (q9, .inl (cy 5, 16, .inl (fun _ => 0))), (q11, .inr (10, [.ref q12, .ref q13, .ref q17, .ref q19, .ref q20, .int 0, .ref q12, .int 0])), (q12, .inr (12, [.int 0, .int 0, .double FP.dconst0, .ref (sa 0), .null])), (q13, .inr (2, [.ref q14, .ref q15])), (q14, .inl (cy 2, 65, .inl (fun _ => 0))), (q15, .inr (1, [.ref q16, .int 0, .int 0, .int 0])), (q16, .inl (cy 5, 16, .inl (fun _ => 0))), (q17, .inr (5, [.ref q18, .int 0, .int 0])), (q18, .inl (cy 9, 30, .inr (.inr (.inr (.inr (fun _ => none)))))), (q19, .inl (cy 0, 12, .inl (fun _ => 0))), (q20, .inl (cy 6, 12, .inr (.inr (.inr (.inr (fun _ => none)))))), (q22, .inl (cy 7, 40, .inr (.inr (.inr (.inr (fun _ => none)))))), (q23, .inl (cy 8, 5, .inr (.inr (.inr (.inr (fun _ => none)))))), (q24, .inl (cy 6, 30, .inr (.inr (.inr (.inr (fun _ => none))))))] H := hP
  have hD : va_D A [(a0, .inr (13, [.ref q1, .ref q11, .ref q22, .int 0, .ref q23, .int 0, .ref q24, .int 0, .null])), (q1, .inr (8, [.ref q2, .int 0, .int 0, .int 0])), (q2, .inr (6, [.ref q3, .int 0, .ref q4, .ref q5, .ref q6, .ref q7, .int 0, .ref q8])), (q3, .inl (cy 4, 40, .inl (fun _ => 0))), (q4, .inl (cy 0, 41, .inl (fun _ => 0))), (q5, .inl (cy 0, 41, .inl (fun _ => 0))), (q6, .inl (cy 0, 41, .inl (fun _ => 0))), (q7, .inl (cy 6, 41, .inr (.inr (.inr (.inr (fun _ => none)))))), (q8, .inr (1, [.ref q9, .int 0, .int 0, .int 0])), (q9, .inl (cy 5, 16, .inl (fun _ => 0))), (q11, .inr (10, [.ref q12, .ref q13, .ref q17, .ref q19, .ref q20, .int 0, .ref q12, .int 0])), (q12, .inr (12, [.int 0, .int 0, .double FP.dconst0, .ref (sa 0), .null])), (q13, .inr (2, [.ref q14, .ref q15])), (q14, .inl (cy 2, 65, .inl (fun _ => 0))), (q15, .inr (1, [.ref q16, .int 0, .int 0, .int 0])), (q16, .inl (cy 5, 16, .inl (fun _ => 0))), (q17, .inr (5, [.ref q18, .int 0, .int 0])), (q18, .inl (cy 9, 30, .inr (.inr (.inr (.inr (fun _ => none)))))), (q19, .inl (cy 0, 12, .inl (fun _ => 0))), (q20, .inl (cy 6, 12, .inr (.inr (.inr (.inr (fun _ => none)))))), (q22, .inl (cy 7, 40, .inr (.inr (.inr (.inr (fun _ => none)))))), (q23, .inl (cy 8, 5, .inr (.inr (.inr (.inr (fun _ => none)))))), (q24, .inl (cy 6, 30, .inr (.inr (.inr (.inr (fun _ => none))))))] := hD
  refine lv_aload_n hx hb dX11_init_52 rfl (lv_at hl 0 rfl) ?_
  have hPc := hP.sub (ws' := []) [] rfl
  have hDc := hD.sub (ws' := []) [] (by decide) rfl
  have hFc := va_free (wc := []) hD hS hA [] rfl
  refine va_callq (va_runS (As := []) (rest := [.ref a0]) ⟨hx, hb, hml, hown, hts⟩ (C_X10_ofNull_1 l D cy sz0 sa H.size) (va_cwS 0 hts gX11_init_X10_ofNull rfl rfl rfl (by decide +kernel) ⟨Nat.le_of_ble_eq_true rfl, Nat.le_of_ble_eq_true rfl⟩) ⟨PcW.blind, PcW.mk hE hS hAF hPc hDc⟩ rfl rfl hl.1 rfl (lv_room (Nat.le_of_ble_eq_true rfl)) dX11_init_53 ⟨Nat.le_of_ble_eq_true rfl, Nat.le_of_ble_eq_true rfl⟩) hS (fun q _ h => hFc q h) hFc (fun r_26 u t H1 locs ht hvm hw hB hz1 hk1 hS => ?_)
  obtain ⟨q25, rfl⟩ : ∃ z, z = u := ⟨_, rfl⟩
  obtain ⟨hP1, hD1⟩ := hB
  rw [ht] at hP1
  have hP1 : va_P D vwCl [(q25, .inr (12, [.int 0, .int 0, .double FP.dconst0, .ref (sa 0), .null]))] H1 := hP1
  obtain ⟨hP, hD⟩ := va_join (wr := [(a0, .inr (13, [.ref q1, .ref q11, .ref q22, .int 0, .ref q23, .int 0, .ref q24, .int 0, .null])), (q1, .inr (8, [.ref q2, .int 0, .int 0, .int 0])), (q2, .inr (6, [.ref q3, .int 0, .ref q4, .ref q5, .ref q6, .ref q7, .int 0, .ref q8])), (q3, .inl (cy 4, 40, .inl (fun _ => 0))), (q4, .inl (cy 0, 41, .inl (fun _ => 0))), (q5, .inl (cy 0, 41, .inl (fun _ => 0))), (q6, .inl (cy 0, 41, .inl (fun _ => 0))), (q7, .inl (cy 6, 41, .inr (.inr (.inr (.inr (fun _ => none)))))), (q8, .inr (1, [.ref q9, .int 0, .int 0, .int 0])), (q9, .inl (cy 5, 16, .inl (fun _ => 0))), (q11, .inr (10, [.ref q12, .ref q13, .ref q17, .ref q19, .ref q20, .int 0, .ref q12, .int 0])), (q12, .inr (12, [.int 0, .int 0, .double FP.dconst0, .ref (sa 0), .null])), (q13, .inr (2, [.ref q14, .ref q15])), (q14, .inl (cy 2, 65, .inl (fun _ => 0))), (q15, .inr (1, [.ref q16, .int 0, .int 0, .int 0])), (q16, .inl (cy 5, 16, .inl (fun _ => 0))), (q17, .inr (5, [.ref q18, .int 0, .int 0])), (q18, .inl (cy 9, 30, .inr (.inr (.inr (.inr (fun _ => none)))))), (q19, .inl (cy 0, 12, .inl (fun _ => 0))), (q20, .inl (cy 6, 12, .inr (.inr (.inr (.inr (fun _ => none)))))), (q22, .inl (cy 7, 40, .inr (.inr (.inr (.inr (fun _ => none)))))), (q23, .inl (cy 8, 5, .inr (.inr (.inr (.inr (fun _ => none)))))), (q24, .inl (cy 6, 30, .inr (.inr (.inr (.inr (fun _ => none))))))]) (w1 := [(q25, .inr (12, [.int 0, .int 0, .double FP.dconst0, .ref (sa 0), .null]))]) hP hD [] [0, 1, 2, 3, 4, 5, 6, 7, 8, 9, 10, 11, 12, 13, 14, 15, 16, 17, 18, 19, 20, 21, 22] rfl rfl (by decide) (by decide) hk1 hFc hP1 hD1
  clear hP1 hD1 hPc hDc hFc hk1 hz1
  generalize H1 = H at hP hS ⊢
  have hP : va_P D vwCl [(a0, .inr (13, [.ref q1, .ref q11, .ref q22, .int 0, .ref q23, .int 0, .ref q24, .int 0, .null])), (q1, .inr (8, [.ref q2, .int 0, .int 0, .int 0])), (q2, .inr (6, [.ref q3, .int 0, .ref q4, .ref q5, .ref q6, .ref q7, .int 0, .ref q8])), (q3, .inl (cy 4, 40, .inl (fun _ => 0))), (q4, .inl (cy 0, 41, .inl (fun _ => 0))), (q5, .inl (cy 0, 41, .inl (fun _ => 0))), (q6, .inl (cy 0, 41, .inl (fun _ => 0))), (q7, .inl (cy 6, 41, .inr (.inr (.inr (.inr (fun _ => none)))))), (q8, .inr (1, [.ref q9, .int 0, .int 0, .int 0])), (q9, .inl (cy 5, 16, .inl (fun _ => 0))), (q11, .inr (10, [.ref q12, .ref q13, .ref q17, .ref q19, .ref q20, .int 0, .ref q12, .int 0])), (q12, .inr (12, [.int 0, .int 0, .double FP.dconst0, .ref (sa 0), .null])), (q13, .inr (2, [.ref q14, .ref q15])), (q14, .inl (cy 2, 65, .inl (fun _ => 0))), (q15, .inr (1, [.ref q16, .int 0, .int 0, .int 0])), (q16, .inl (cy 5, 16, .inl (fun _ => 0))), (q17, .inr (5, [.ref q18, .int 0, .int 0])), (q18, .inl (cy 9, 30, .inr (.inr (.inr (.inr (fun _ => none)))))), (q19, .inl (cy 0, 12, .inl (fun _ => 0))), (q20, .inl (cy 6, 12, .inr (.inr (.inr (.inr (fun _ => none)))))), (q22, .inl (cy 7, 40, .inr (.inr (.inr (.inr (fun _ => none)))))), (q23, .inl (cy 8, 5, .inr (.inr (.inr (.inr (fun _ => none)))))), (q24, .inl (cy 6, 30, .inr (.inr (.inr (.inr (fun _ => none)))))), (q25, .inr (12, [.int 0, .int 0, .double FP.dconst0, .ref (sa 0), .null]))] H := hP
  have hD : va_D A [(a0, .inr (13, [.ref q1, .ref q11, .ref q22, .int 0, .ref q23, .int 0, .ref q24, .int 0, .null])), (q1, .inr (8, [.ref q2, .int 0, .int 0, .int 0])), (q2, .inr (6, [.ref q3, .int 0, .ref q4, .ref q5, .ref q6, .ref q7, .int 0, .ref q8])), (q3, .inl (cy 4, 40, .inl (fun _ => 0))), (q4, .inl (cy 0, 41, .inl (fun _ => 0))), (q5, .inl (cy 0, 41, .inl (fun _ => 0))), (q6, .inl (cy 0, 41, .inl (fun _ => 0))), (q7, .inl (cy 6, 41, .inr (.inr (.inr (.inr (fun _ => none)))))), (q8, .inr (1, [.ref q9, .int 0, .int 0, .int 0])), (q9, .inl (cy 5, 16, .inl (fun _ => 0))), (q11, .inr (10, [.ref q12, .ref q13, .ref q17, .ref q19, .ref q20, .int 0, .ref q12, .int 0])), (q12, .inr (12, [.int 0, .int 0, .double FP.dconst0, .ref (sa 0), .null])), (q13, .inr (2, [.ref q14, .ref q15])), (q14, .inl (cy 2, 65, .inl (fun _ => 0))), (q15, .inr (1, [.ref q16, .int 0, .int 0, .int 0])), (q16, .inl (cy 5, 16, .inl (fun _ => 0))), (q17, .inr (5, [.ref q18, .int 0, .int 0])), (q18, .inl (cy 9, 30, .inr (.inr (.inr (.inr (fun _ => none)))))), (q19, .inl (cy 0, 12, .inl (fun _ => 0))), (q20, .inl (cy 6, 12, .inr (.inr (.inr (.inr (fun _ => none)))))), (q22, .inl (cy 7, 40, .inr (.inr (.inr (.inr (fun _ => none)))))), (q23, .inl (cy 8, 5, .inr (.inr (.inr (.inr (fun _ => none)))))), (q24, .inl (cy 6, 30, .inr (.inr (.inr (.inr (fun _ => none)))))), (q25, .inr (12, [.int 0, .int 0, .double FP.dconst0, .ref (sa 0), .null]))] := hD
  refine W.widen (k := 23) (n := 473) (Nat.le_of_ble_eq_true rfl) (Nat.le_of_ble_eq_true rfl) ?_
  obtain rfl : r_26 = some q25 := hw
  refine W.eq (g2 := F0 m 56 ls [.ref q25, .ref a0]) rfl ?_
  refine va_put (D := D) (ci := 13) (v := .ref q25) (ty := .object "PhraseDesk$Value") (C := RX11) (T := TX11) (N := 9) hx hb hts (fun _ h => List.mem_cons_of_mem _ (List.mem_append_left _ (List.mem_append_left _ (List.mem_append_left _ (List.mem_append_left _ (List.mem_append_left _ (List.mem_append_left _ (List.mem_append_right _ h)))))))) tyX11 tyX11_ok nmX11 hown hK hP hD hS 0 rfl rfl 8 (by decide) (hts (.fieldLink RX11 45 "PhraseDesk" "latest" "LPhraseDesk$Value;") (List.mem_of_getElem? (i := 18) rfl)) (fun _ h9 => h9) rfl (by decide +kernel) rfl rfl (Nat.le_of_ble_eq_true rfl) dX11_init_56 (fun H locs hP hD hS => ?_)
  have hP : va_P D vwCl [(a0, .inr (13, [.ref q1, .ref q11, .ref q22, .int 0, .ref q23, .int 0, .ref q24, .int 0, .ref q25])), (q1, .inr (8, [.ref q2, .int 0, .int 0, .int 0])), (q2, .inr (6, [.ref q3, .int 0, .ref q4, .ref q5, .ref q6, .ref q7, .int 0, .ref q8])), (q3, .inl (cy 4, 40, .inl (fun _ => 0))), (q4, .inl (cy 0, 41, .inl (fun _ => 0))), (q5, .inl (cy 0, 41, .inl (fun _ => 0))), (q6, .inl (cy 0, 41, .inl (fun _ => 0))), (q7, .inl (cy 6, 41, .inr (.inr (.inr (.inr (fun _ => none)))))), (q8, .inr (1, [.ref q9, .int 0, .int 0, .int 0])), (q9, .inl (cy 5, 16, .inl (fun _ => 0))), (q11, .inr (10, [.ref q12, .ref q13, .ref q17, .ref q19, .ref q20, .int 0, .ref q12, .int 0])), (q12, .inr (12, [.int 0, .int 0, .double FP.dconst0, .ref (sa 0), .null])), (q13, .inr (2, [.ref q14, .ref q15])), (q14, .inl (cy 2, 65, .inl (fun _ => 0))), (q15, .inr (1, [.ref q16, .int 0, .int 0, .int 0])), (q16, .inl (cy 5, 16, .inl (fun _ => 0))), (q17, .inr (5, [.ref q18, .int 0, .int 0])), (q18, .inl (cy 9, 30, .inr (.inr (.inr (.inr (fun _ => none)))))), (q19, .inl (cy 0, 12, .inl (fun _ => 0))), (q20, .inl (cy 6, 12, .inr (.inr (.inr (.inr (fun _ => none)))))), (q22, .inl (cy 7, 40, .inr (.inr (.inr (.inr (fun _ => none)))))), (q23, .inl (cy 8, 5, .inr (.inr (.inr (.inr (fun _ => none)))))), (q24, .inl (cy 6, 30, .inr (.inr (.inr (.inr (fun _ => none)))))), (q25, .inr (12, [.int 0, .int 0, .double FP.dconst0, .ref (sa 0), .null]))] H := hP
  have hD : va_D A [(a0, .inr (13, [.ref q1, .ref q11, .ref q22, .int 0, .ref q23, .int 0, .ref q24, .int 0, .ref q25])), (q1, .inr (8, [.ref q2, .int 0, .int 0, .int 0])), (q2, .inr (6, [.ref q3, .int 0, .ref q4, .ref q5, .ref q6, .ref q7, .int 0, .ref q8])), (q3, .inl (cy 4, 40, .inl (fun _ => 0))), (q4, .inl (cy 0, 41, .inl (fun _ => 0))), (q5, .inl (cy 0, 41, .inl (fun _ => 0))), (q6, .inl (cy 0, 41, .inl (fun _ => 0))), (q7, .inl (cy 6, 41, .inr (.inr (.inr (.inr (fun _ => none)))))), (q8, .inr (1, [.ref q9, .int 0, .int 0, .int 0])), (q9, .inl (cy 5, 16, .inl (fun _ => 0))), (q11, .inr (10, [.ref q12, .ref q13, .ref q17, .ref q19, .ref q20, .int 0, .ref q12, .int 0])), (q12, .inr (12, [.int 0, .int 0, .double FP.dconst0, .ref (sa 0), .null])), (q13, .inr (2, [.ref q14, .ref q15])), (q14, .inl (cy 2, 65, .inl (fun _ => 0))), (q15, .inr (1, [.ref q16, .int 0, .int 0, .int 0])), (q16, .inl (cy 5, 16, .inl (fun _ => 0))), (q17, .inr (5, [.ref q18, .int 0, .int 0])), (q18, .inl (cy 9, 30, .inr (.inr (.inr (.inr (fun _ => none)))))), (q19, .inl (cy 0, 12, .inl (fun _ => 0))), (q20, .inl (cy 6, 12, .inr (.inr (.inr (.inr (fun _ => none)))))), (q22, .inl (cy 7, 40, .inr (.inr (.inr (.inr (fun _ => none)))))), (q23, .inl (cy 8, 5, .inr (.inr (.inr (.inr (fun _ => none)))))), (q24, .inl (cy 6, 30, .inr (.inr (.inr (.inr (fun _ => none)))))), (q25, .inr (12, [.int 0, .int 0, .double FP.dconst0, .ref (sa 0), .null]))] := hD
  refine W.widen (k := 23) (n := 473) (Nat.le_of_ble_eq_true rfl) (Nat.le_of_ble_eq_true rfl) ?_
  have hP9 := hP.sub (ws' := [(a0, .inr (13, [.ref q1, .ref q11, .ref q22, .int 0, .ref q23, .int 0, .ref q24, .int 0, .ref q25])), (q1, .inr (8, [.ref q2, .int 0, .int 0, .int 0])), (q2, .inr (6, [.ref q3, .int 0, .ref q4, .ref q5, .ref q6, .ref q7, .int 0, .ref q8])), (q3, .inl (cy 4, 40, .inl (fun _ => 0))), (q4, .inl (cy 0, 41, .inl (fun _ => 0))), (q5, .inl (cy 0, 41, .inl (fun _ => 0))), (q6, .inl (cy 0, 41, .inl (fun _ => 0))), (q7, .inl (cy 6, 41, .inr (.inr (.inr (.inr (fun _ => none)))))), (q8, .inr (1, [.ref q9, .int 0, .int 0, .int 0])), (q9, .inl (cy 5, 16, .inl (fun _ => 0))), (q11, .inr (10, [.ref q12, .ref q13, .ref q17, .ref q19, .ref q20, .int 0, .ref q12, .int 0])), (q12, .inr (12, [.int 0, .int 0, .double FP.dconst0, .ref (sa 0), .null])), (q13, .inr (2, [.ref q14, .ref q15])), (q14, .inl (cy 2, 65, .inl (fun _ => 0))), (q15, .inr (1, [.ref q16, .int 0, .int 0, .int 0])), (q16, .inl (cy 5, 16, .inl (fun _ => 0))), (q17, .inr (5, [.ref q18, .int 0, .int 0])), (q18, .inl (cy 9, 30, .inr (.inr (.inr (.inr (fun _ => none)))))), (q19, .inl (cy 0, 12, .inl (fun _ => 0))), (q20, .inl (cy 6, 12, .inr (.inr (.inr (.inr (fun _ => none)))))), (q22, .inl (cy 7, 40, .inr (.inr (.inr (.inr (fun _ => none)))))), (q23, .inl (cy 8, 5, .inr (.inr (.inr (.inr (fun _ => none)))))), (q24, .inl (cy 6, 30, .inr (.inr (.inr (.inr (fun _ => none)))))), (q25, .inr (12, [.int 0, .int 0, .double FP.dconst0, .ref (sa 0), .null]))]) [0, 1, 2, 3, 4, 5, 6, 7, 8, 9, 10, 11, 12, 13, 14, 15, 16, 17, 18, 19, 20, 21, 22, 23] rfl
  have hD9 := hD.sub (ws' := [(a0, .inr (13, [.ref q1, .ref q11, .ref q22, .int 0, .ref q23, .int 0, .ref q24, .int 0, .ref q25])), (q1, .inr (8, [.ref q2, .int 0, .int 0, .int 0])), (q2, .inr (6, [.ref q3, .int 0, .ref q4, .ref q5, .ref q6, .ref q7, .int 0, .ref q8])), (q3, .inl (cy 4, 40, .inl (fun _ => 0))), (q4, .inl (cy 0, 41, .inl (fun _ => 0))), (q5, .inl (cy 0, 41, .inl (fun _ => 0))), (q6, .inl (cy 0, 41, .inl (fun _ => 0))), (q7, .inl (cy 6, 41, .inr (.inr (.inr (.inr (fun _ => none)))))), (q8, .inr (1, [.ref q9, .int 0, .int 0, .int 0])), (q9, .inl (cy 5, 16, .inl (fun _ => 0))), (q11, .inr (10, [.ref q12, .ref q13, .ref q17, .ref q19, .ref q20, .int 0, .ref q12, .int 0])), (q12, .inr (12, [.int 0, .int 0, .double FP.dconst0, .ref (sa 0), .null])), (q13, .inr (2, [.ref q14, .ref q15])), (q14, .inl (cy 2, 65, .inl (fun _ => 0))), (q15, .inr (1, [.ref q16, .int 0, .int 0, .int 0])), (q16, .inl (cy 5, 16, .inl (fun _ => 0))), (q17, .inr (5, [.ref q18, .int 0, .int 0])), (q18, .inl (cy 9, 30, .inr (.inr (.inr (.inr (fun _ => none)))))), (q19, .inl (cy 0, 12, .inl (fun _ => 0))), (q20, .inl (cy 6, 12, .inr (.inr (.inr (.inr (fun _ => none)))))), (q22, .inl (cy 7, 40, .inr (.inr (.inr (.inr (fun _ => none)))))), (q23, .inl (cy 8, 5, .inr (.inr (.inr (.inr (fun _ => none)))))), (q24, .inl (cy 6, 30, .inr (.inr (.inr (.inr (fun _ => none)))))), (q25, .inr (12, [.int 0, .int 0, .double FP.dconst0, .ref (sa 0), .null]))]) [0, 1, 2, 3, 4, 5, 6, 7, 8, 9, 10, 11, 12, 13, 14, 15, 16, 17, 18, 19, 20, 21, 22, 23] (by decide) rfl
  exact W.vret hx hb hr (fun t ht hW => ⟨⟨(), rfl, trivial, ⟨q1, q2, q3, q4, q5, q6, q7, q8, q9, q11, q12, q13, q14, q15, q16, q17, q18, q19, q20, q22, q23, q24, q25, by rw [ht]; exact hP9, hD9⟩⟩, hS.F ht⟩) hS.2.2 dX11_init_59
end
