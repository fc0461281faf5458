/-! ===== the law: class, reference and answer in one heap ===== -/
section APP
variable {D : va_G} {cl : List vw_C} {A : Nat → Prop} {X Y : va_W} {H H1 : Heap}
theorem va_P_app : va_P D cl (X ++ Y) H ↔ va_P D cl X H ∧ va_P D cl Y H := by
  constructor
  · intro h
    refine ⟨fun k q hk => h k q ?_, fun k q hk => h (X.length + k) q ?_⟩
    · rw [List.getElem?_append_left (List.getElem?_eq_some_iff.mp hk).1]; exact hk
    · rw [List.getElem?_append_right (Nat.le_add_right _ _), Nat.add_sub_cancel_left]; exact hk
  · rintro ⟨h1, h2⟩ k q hk
    by_cases hl : k < X.length
    · rw [List.getElem?_append_left hl] at hk; exact h1 k q hk
    · rw [List.getElem?_append_right (by omega)] at hk; exact h2 _ q hk
theorem va_D_app : va_D A (X ++ Y) ↔ va_D A X ∧ va_D A Y ∧ ∀ (i j : Nat) (p q : Nat × va_E), X[i]? = some p → Y[j]? = some q → ¬ p.1 = q.1 := by
  have eL : ∀ (i : Nat) (p : Nat × va_E), X[i]? = some p → (X ++ Y)[i]? = some p := fun i p h => by rw [List.getElem?_append_left (List.getElem?_eq_some_iff.mp h).1]; exact h
  have eR : ∀ (i : Nat) (p : Nat × va_E), Y[i]? = some p → (X ++ Y)[X.length + i]? = some p := fun i p h => by rw [List.getElem?_append_right (Nat.le_add_right _ _), Nat.add_sub_cancel_left]; exact h
  constructor
  · intro h
    refine ⟨⟨fun i j p q hi hj e => h.1 i j p q (eL _ _ hi) (eL _ _ hj) e, fun k q hk => h.2 k q (eL _ _ hk)⟩, ⟨fun i j p q hi hj e => ?_, fun k q hk => h.2 _ q (eR _ _ hk)⟩, fun i j p q hi hj e => ?_⟩
    · have := h.1 _ _ p q (eR _ _ hi) (eR _ _ hj) e; omega
    · have h1 := h.1 _ _ p q (eL _ _ hi) (eR _ _ hj) e
      have h2 := (List.getElem?_eq_some_iff.mp hi).1
      omega
  · rintro ⟨h1, h2, h3⟩
    refine ⟨fun i j p q hi hj e => ?_, fun k q hk => ?_⟩
    · by_cases hl : i < X.length
      · rw [List.getElem?_append_left hl] at hi
        by_cases hr : j < X.length
        · rw [List.getElem?_append_left hr] at hj; exact h1.1 i j p q hi hj e
        · rw [List.getElem?_append_right (by omega)] at hj; exact absurd e (h3 _ _ p q hi hj)
      · rw [List.getElem?_append_right (by omega)] at hi
        by_cases hr : j < X.length
        · rw [List.getElem?_append_left hr] at hj; exact absurd e.symm (h3 _ _ q p hj hi)
        · rw [List.getElem?_append_right (by omega)] at hj
          have := h2.1 _ _ p q hi hj e; omega
    · by_cases hl : k < X.length
      · rw [List.getElem?_append_left hl] at hk; exact h1.2 k q hk
      · rw [List.getElem?_append_right (by omega)] at hk; exact h2.2 _ q hk
/-- cells apart from the ones that a call may change are kept -/
theorem va_P_kept {ws wc : va_W} (hP : va_P D cl ws H) (hne : ∀ (i j : Nat) (p q : Nat × va_E), wc[i]? = some p → ws[j]? = some q → ¬ p.1 = q.1) (hk : ∀ a : Nat, a < H.size → ¬ va_A wc H.size a → H1[a]? = H[a]?) : va_P D cl ws H1 :=
  hP.kept (fun k q hq => hk q.1 (hP k q hq).lt (fun h => by
    rcases h with ⟨i, x, hi⟩ | h
    · exact hne i k _ q hi hq rfl
    · exact absurd (hP k q hq).lt (Nat.not_lt.mpr h)))
theorem va_A_ne {ws wc : va_W} {sz : Nat} (hP : va_P D cl ws H) (hsz : H.size ≤ sz) (hne : ∀ (i j : Nat) (p q : Nat × va_E), wc[i]? = some p → ws[j]? = some q → ¬ p.1 = q.1) {w1 : va_W} (hD1 : va_D (va_A wc sz) w1) : ∀ (i j : Nat) (p q : Nat × va_E), w1[i]? = some p → ws[j]? = some q → ¬ p.1 = q.1 := fun i j p q hi hj e => by
  rcases hD1.2 i p hi with ⟨k, x, hk⟩ | h
  · exact hne k j (p.1, x) q hk hj e
  · have := (hP j q hj).lt
    rw [← e] at this; omega
end APP
def outE (cy : Nat → ClassId) (f : Nat → Int64) : va_E := .inl (cy 1, 1, .inr (.inl f))
def LWl (cy : Nat → ClassId) (aC aM : Nat → Nat) (q : Nat) (κ : KS) (σ : RS) (f : Nat → Int64) (L : List Nat) : va_W := WLc cy aC κ L ++ (MWr cy aM σ ++ [(q, outE cy f)])
def LW (D : va_G) (cy : Nat → ClassId) (aC aM : Nat → Nat) (q : Nat) (A : Nat → Prop) (κ : KS) (σ : RS) (f : Nat → Int64) (H : Heap) : Prop := ∃ L : List Nat, va_P D vwCl (LWl cy aC aM q κ σ f L) H ∧ va_D A (LWl cy aC aM q κ σ f L) ∧ ∀ a, a ∈ L ↔ ¬ oT κ.2.2.2.2 a = 0
section LWs
variable {D : va_G} {cy : Nat → ClassId} {aC aM : Nat → Nat} {q : Nat} {A : Nat → Prop} {κ κ' : KS} {σ σ' : RS} {f : Nat → Int64} {H H1 : Heap}
/-- a call of the class: what it may change, what it leaves -/
theorem LW.call (h : LW D cy aC aM q A κ σ f H) (hA : ∀ a, H.size ≤ a → A a) : ∃ Ac : Nat → Prop, (∀ a, Ac a → A a) ∧ (∀ a, H.size ≤ a → Ac a) ∧ CH D cy aC Ac κ H ∧ ∀ (κ' : KS) (H1 : Heap), (∀ a, a < H.size → ¬ Ac a → H1[a]? = H[a]?) → CH D cy aC Ac κ' H1 → LW D cy aC aM q A κ' σ f H1 := by
  obtain ⟨L, hP, hD, hL⟩ := h
  unfold LWl at hP hD
  obtain ⟨p1, p2⟩ := va_P_app.mp hP
  obtain ⟨d1, d2, d3⟩ := va_D_app.mp hD
  have hAc : ∀ a, va_A (WLc cy aC κ L) H.size a → A a := fun a h => by
    rcases h with ⟨k, x, hk⟩ | h
    · exact d1.2 k _ hk
    · exact hA a h
  refine ⟨va_A (WLc cy aC κ L) H.size, hAc, fun a h => Or.inr h, ⟨L, p1, d1.self, hL⟩, fun κ' H1 hk hC => ?_⟩
  obtain ⟨L', r1, r2, r3⟩ := hC
  exact ⟨L', va_P_app.mpr ⟨r1, va_P_kept p2 d3 hk⟩, va_D_app.mpr ⟨r2.weaken (fun _ p _ h => hAc p.1 h), d2, va_A_ne p2 (Nat.le_refl _) d3 r2⟩, r3⟩
theorem fst_ne {X Y Y' : va_W} (e : Y.map (·.1) = Y'.map (·.1)) (h : ∀ (i j : Nat) (p q : Nat × va_E), X[i]? = some p → Y[j]? = some q → ¬ p.1 = q.1) : ∀ (i j : Nat) (p q : Nat × va_E), X[i]? = some p → Y'[j]? = some q → ¬ p.1 = q.1 := fun i j p q hi hj e2 => by
  obtain ⟨r, h1, h2⟩ := fst_of e.symm hj
  exact h i j p r hi h1 (e2.trans h2.symm)
theorem ne_symm {X Y : va_W} (h : ∀ (i j : Nat) (p q : Nat × va_E), X[i]? = some p → Y[j]? = some q → ¬ p.1 = q.1) : ∀ (i j : Nat) (p q : Nat × va_E), Y[i]? = some p → X[j]? = some q → ¬ p.1 = q.1 := fun i j p q hi hj e => h j i q p hj hi e.symm
/-- a call of the reference -/
theorem LW.callR (h : LW D cy aC aM q A κ σ f H) (hA : ∀ a, H.size ≤ a → A a) : (∀ a, AR cy aM H.size a → A a) ∧ RP D cy aM σ H ∧ va_D A (MWr cy aM r00) ∧ ∀ (σ' : RS) (H1 : Heap), (∀ a, a < H.size → ¬ AR cy aM H.size a → H1[a]? = H[a]?) → RP D cy aM σ' H1 → LW D cy aC aM q A κ σ' f H1 := by
  obtain ⟨L, hP, hD, hL⟩ := h
  unfold LWl at hP hD
  obtain ⟨p1, p2⟩ := va_P_app.mp hP
  obtain ⟨p2, p3⟩ := va_P_app.mp p2
  obtain ⟨d1, d2, d3⟩ := va_D_app.mp hD
  obtain ⟨d4, d5, d6⟩ := va_D_app.mp d2
  have d0 : va_D A (MWr cy aM r00) := d4.fst (MWr_fst cy aM σ r00)
  have x1 : ∀ (i j : Nat) (p r : Nat × va_E), (WLc cy aC κ L)[i]? = some p → (MWr cy aM σ)[j]? = some r → ¬ p.1 = r.1 := fun i j p r hi hj => d3 i j p r hi (by rw [List.getElem?_append_left (List.getElem?_eq_some_iff.mp hj).1]; exact hj)
  have x2 : ∀ (i j : Nat) (p r : Nat × va_E), (WLc cy aC κ L)[i]? = some p → ([(q, outE cy f)] : va_W)[j]? = some r → ¬ p.1 = r.1 := fun i j p r hi hj => d3 i ((MWr cy aM σ).length + j) p r hi (by rw [List.getElem?_append_right (Nat.le_add_right _ _), Nat.add_sub_cancel_left]; exact hj)
  refine ⟨fun a h => ?_, p2, d0, fun σ' H1 hk hC => ?_⟩
  · rcases h with ⟨k, x, hk⟩ | h
    · exact d0.2 k _ hk
    · exact hA a h
  · have e1 := MWr_fst cy aM σ r00
    have e2 := MWr_fst cy aM σ σ'
    have k1 : va_P D vwCl (WLc cy aC κ L) H1 := va_P_kept p1 (ne_symm (fst_ne e1 x1)) hk
    have k3 : va_P D vwCl [(q, outE cy f)] H1 := va_P_kept p3 (ne_symm (fst_ne e1 (ne_symm d6))) hk
    refine ⟨L, va_P_app.mpr ⟨k1, va_P_app.mpr ⟨hC, k3⟩⟩, va_D_app.mpr ⟨d1, va_D_app.mpr ⟨d4.fst e2, d5, ne_symm (fst_ne e2 (ne_symm d6))⟩, fun i j p r hi hj => ?_⟩, hL⟩
    by_cases hl : j < (MWr cy aM σ').length
    · rw [List.getElem?_append_left hl] at hj; exact fst_ne e2 x1 i j p r hi hj
    · rw [List.getElem?_append_right (by omega)] at hj; exact x2 i _ p r hi hj
theorem LW.at (h : LW D cy aC aM q A κ σ f H) : ∃ (ws : va_W) (k : Nat), va_P D vwCl ws H ∧ va_D A ws ∧ ws[k]? = some (q, outE cy f) ∧ ∀ (g : Nat → Int64) (H1 : Heap), va_P D vwCl (ws.set k (q, outE cy g)) H1 → va_D A (ws.set k (q, outE cy g)) → LW D cy aC aM q A κ σ g H1 := by
  obtain ⟨L, hP, hD, hL⟩ := h
  refine ⟨_, (WLc cy aC κ L).length + (MWr cy aM σ).length, hP, hD, ?_, fun g H1 h1 h2 => ?_⟩
  · unfold LWl
    rw [List.getElem?_append_right (Nat.le_add_right _ _), Nat.add_sub_cancel_left, List.getElem?_append_right (Nat.le_refl _), Nat.sub_self]; rfl
  · have e : (LWl cy aC aM q κ σ f L).set ((WLc cy aC κ L).length + (MWr cy aM σ).length) (q, outE cy g) = LWl cy aC aM q κ σ g L := by
      unfold LWl
      rw [List.set_append_right _ _ (Nat.le_add_right _ _), Nat.add_sub_cancel_left, List.set_append_right _ _ (Nat.le_refl _), Nat.sub_self]; rfl
    rw [e] at h1 h2
    exact ⟨L, h1, h2, hL⟩
theorem LW.recvC {s : State} (h : LW D cy aC aM q A κ σ f H) (hK : va_K D vwCl (TY cy) s) : ∃ cell : Cell, H[aC 0]? = some cell ∧ cell.vm.isStatics = false ∧ s.vm.findClass RX11 = some cell.cls := by
  obtain ⟨L, hP, hD, hL⟩ := h
  exact va_recv (ci := 13) (q0 := 0) hK (va_P_app.mp hP).1 rfl rfl
theorem LW.recvM {s : State} (h : LW D cy aC aM q A κ σ f H) (hK : va_K D vwCl (TY cy) s) : ∃ cell : Cell, H[aM 0]? = some cell ∧ cell.vm.isStatics = false ∧ s.vm.findClass RX12 = some cell.cls := by
  obtain ⟨L, hP, hD, hL⟩ := h
  exact va_recv (ci := 14) (q0 := 0) hK (va_P_app.mp (va_P_app.mp hP).2).1 rfl rfl
end LWs
/-- what holds in a frame of the law and its helpers -/
def LC (p : Program) (s : State) (m : MethodId) (args : Array Value) (meth : Method) (c : Code) (cc : ByteArray) (maxL : Nat) (ret : Option FieldType) (D : va_G) (cy : Nat → ClassId) (sz0 : Nat) (sa : Nat → Nat) (Ts : List Cond) : Prop :=
  p.tables.exec = Jvm.exec ∧ c.code = cc ∧ c.maxLocals = maxL ∧ meth.sig.returnType = ret ∧ s.vm.findClass RL = some m.cls ∧ (∀ w ∈ Ts, w.before args s = true) ∧ meth.locks = false ∧ En D cy sz0 sa s ∧ Xn sz0 sa s s.heap ∧ Xw sa s
def PcL (D : va_G) (cy : Nat → ClassId) (aC aM : Nat → Nat) (q : Nat) (sz0 : Nat) (sa : Nat → Nat) (av : List Value) (κ : KS) (σ : RS) (f : Nat → Int64) (sz : Nat) : Array Value → State → Prop := va_Pc av (fun U => U.heap.size = sz ∧ LW D cy aC aM q (Fr sz0) κ σ f U.heap ∧ En D cy sz0 sa U ∧ Xn sz0 sa U U.heap ∧ Xw sa U)
theorem TX_eq {S : Type} {D : va_G} {cy : Nat → ClassId} {ad : Nat → Nat} {A : Nat → Prop} {px : String → S → Prop} {f : S → KS} : TX D cy ad A px f = vx_X (fun _ : S => True) (fun E u t => px E u ∧ CH D cy ad A (f u) t.heap) A := by
  funext E st t
  exact propext ⟨fun ⟨u, a, b, c⟩ => ⟨u, trivial, ⟨a, b⟩, c⟩, fun ⟨u, _, ⟨a, b⟩, c⟩ => ⟨u, a, b, c⟩⟩
section LCs
variable {p : Program} {l : Launch} {e : Env} {R : Room} {s : State} {m : MethodId} {args : Array Value} {below : List Frame} {meth : Method} {c : Code} {H : Heap} {locs : List Loc} {cells slots : Nat} {Q : State → Prop}
variable {cc : ByteArray} {pc : Nat} {ls : Array Slot} {rest : List Value} {D : va_G} {cy : Nat → ClassId} {sz0 : Nat} {sa : Nat → Nat} {aC aM : Nat → Nat} {q : Nat} {κ : KS} {σ : RS} {f : Nat → Int64} {maxL : Nat} {ret : Option FieldType} {Ts : List Cond}
theorem LC.x (C : LC p s m args meth c cc maxL ret D cy sz0 sa Ts) : p.tables.exec = Jvm.exec := C.1
theorem LC.b (C : LC p s m args meth c cc maxL ret D cy sz0 sa Ts) : c.code = cc := C.2.1
theorem LC.ml (C : LC p s m args meth c cc maxL ret D cy sz0 sa Ts) : c.maxLocals = maxL := C.2.2.1
theorem LC.r (C : LC p s m args meth c cc maxL ret D cy sz0 sa Ts) : meth.sig.returnType = ret := C.2.2.2.1
theorem LC.o (C : LC p s m args meth c cc maxL ret D cy sz0 sa Ts) : s.vm.findClass RL = some m.cls := C.2.2.2.2.1
theorem LC.w (C : LC p s m args meth c cc maxL ret D cy sz0 sa Ts) : ∀ w ∈ Ts, w.before args s = true := C.2.2.2.2.2.1
theorem LC.k (C : LC p s m args meth c cc maxL ret D cy sz0 sa Ts) : meth.locks = false := C.2.2.2.2.2.2.1
theorem LC.en (C : LC p s m args meth c cc maxL ret D cy sz0 sa Ts) : En D cy sz0 sa s := C.2.2.2.2.2.2.2.1
theorem LC.K (C : LC p s m args meth c cc maxL ret D cy sz0 sa Ts) : va_K D vwCl (TY cy) s := C.en.1
theorem LC.n (C : LC p s m args meth c cc maxL ret D cy sz0 sa Ts) : Xn sz0 sa s s.heap := C.2.2.2.2.2.2.2.2.1
theorem LC.t (C : LC p s m args meth c cc maxL ret D cy sz0 sa Ts) : Xw sa s := C.2.2.2.2.2.2.2.2.2
theorem LC.kept (hS : va_S (Fr sz0) s.heap H locs) : ∀ a : Nat, a < s.heap.size → ¬ Fr sz0 a → H[a]? = s.heap[a]? := fun a h1 h2 => hS.2.1 a h1 h2
theorem LC.fr (C : LC p s m args meth c cc maxL ret D cy sz0 sa Ts) (hS : va_S (Fr sz0) s.heap H locs) : ∀ a : Nat, H.size ≤ a → Fr sz0 a := fun a h => Nat.le_trans C.en.2.1 (Nat.le_trans hS.1 h)
theorem LC.enU (C : LC p s m args meth c cc maxL ret D cy sz0 sa Ts) (hS : va_S (Fr sz0) s.heap H locs) : ∀ U : State, U.heap = H → s.WarmedH U.vm → En D cy sz0 sa U ∧ Xn sz0 sa U U.heap ∧ Xw sa U := fun U hU hW => by
  have hE := C.en
  have hk := LC.kept hS
  refine ⟨⟨va_K.moved hW.alike hE.1, by rw [hU]; exact Nat.le_trans hE.2.1 hS.1, ?_, Wm.warm hW hE.2.2.2⟩, ?_, C.t.warm hW⟩
  · rw [hU]; exact (hE.2.2.1.kept hk).moved hW.alike
  · rw [hU]; exact (C.n.kept hk).moved hW.alike
theorem PcC.mkL {Ac : Nat → Prop} {av : List Value} (C : LC p s m args meth c cc maxL ret D cy sz0 sa Ts) (hS : va_S (Fr sz0) s.heap H locs) (hP : CH D cy aC Ac κ H) : ∀ U : State, U.heap = H → s.WarmedH U.vm → PcC D cy aC Ac sz0 sa av κ H.size (SLT H) av.toArray U := fun U hU hW => by
  obtain ⟨a1, a2, a3⟩ := C.enU hS U hU hW
  exact ⟨rfl, by rw [hU], by rw [hU], by rw [hU]; exact hP, a1, a2, a3⟩
theorem PcR.mkL {av : List Value} (C : LC p s m args meth c cc maxL ret D cy sz0 sa Ts) (hS : va_S (Fr sz0) s.heap H locs) (hP : RP D cy aM σ H) (hD : va_D (Fr sz0) (MWr cy aM r00)) : ∀ U : State, U.heap = H → s.WarmedH U.vm → PcR D cy sz0 sa aM av σ H.size av.toArray U := fun U hU hW => by
  obtain ⟨a1, a2, a3⟩ := C.enU hS U hU hW
  exact ⟨rfl, by rw [hU], by rw [hU]; exact hP, hD, a1⟩
theorem PcL.mk {av : List Value} (C : LC p s m args meth c cc maxL ret D cy sz0 sa Ts) (hS : va_S (Fr sz0) s.heap H locs) (hP : LW D cy aC aM q (Fr sz0) κ σ f H) : ∀ U : State, U.heap = H → s.WarmedH U.vm → PcL D cy aC aM q sz0 sa av κ σ f H.size av.toArray U := fun U hU hW => by
  obtain ⟨a1, a2, a3⟩ := C.enU hS U hU hW
  exact ⟨rfl, by rw [hU], by rw [hU]; exact hP, a1, a2, a3⟩
theorem PcL.blind {av : List Value} {sz : Nat} : FrameBlind (PcL D cy aC aM q sz0 sa av κ σ f sz) := fun a U g mk r => by
  obtain ⟨q0, q1, q2, ⟨q4, q5, q6, q7⟩, q8, q9⟩ := r
  exact ⟨q0, q1, q2, ⟨va_K.moved (u := U) (U := U.calling g mk a) (Vm.Alike.refl U.vm) q4, q5, Am.moved (u := U) (U := U.calling g mk a) (Vm.Alike.refl U.vm) q6, Wm.same (u := U) (U := U.calling g mk a) rfl q7⟩, Xn.moved (u := U) (U := U.calling g mk a) (Vm.Alike.refl U.vm) q8, Xw.same (u := U) (U := U.calling g mk a) rfl q9⟩
/-- a call of the class's method that may throw -/
theorem lc_classX {S : Type} {post : Int32 → S → Prop} {px : String → S → Prop} {fs : S → KS} {g1 g2 : S → Nat} (C : LC p s m args meth c cc maxL ret D cy sz0 sa Ts) (hP : LW D cy aC aM q (Fr sz0) κ σ f H) (hS : va_S (Fr sz0) s.heap H locs) (hl : ls.size = maxL) {y : MethodName} {bytes : ByteArray} {maxL2 : Nat} {ret2 : Option FieldType} {fr lo n idx mc ms : Nat} {As st : List Value}
    (hM : ∀ A : Nat → Prop, (∀ a, A a → Fr sz0 a) → (∀ a, H.size ≤ a → A a) → vx_Met l y (Cond.code y bytes maxL2 ret2 :: GWc) ({ frames := fr, cells := mc, slots := ms, locals := lo }) (PcC D cy aC A sz0 sa (.ref (aC 0) :: As) κ H.size (SLT H)) (va_Qi post (fun u t => Bx D cy aC A H.size (SLT H) (fs u) (g1 u) (g2 u) t) A) (TX D cy aC A px fs) mc ms A)
    (hG : GoodIn Ts (wsV RL idx RX11 y (Cond.code y bytes maxL2 ret2 :: GWc))) (hd : y.cls = RX11 ∧ y.cls ≠ "java/lang/invoke/MethodHandle" ∧ y.cls ≠ "java/lang/invoke/VarHandle" ∧ (parseMethodDescriptor y.desc).map (fun d => d.parameters.length) = some n) (hn : As.length = n) (hst : st = As.reverse ++ .ref (aC 0) :: rest) (hW : 2 * (F0 m pc ls st).monitorRoom + (rest.map fun v => v.category).sum ≤ 8) (hR : fr + 1 ≤ R.frames ∧ 8 + (maxL2 + 11) + lo ≤ R.locals) (hcR : cells + mc ≤ R.cells ∧ slots + ms ≤ R.slots) (hdg : decode cc pc = .ok (.invokevirtual idx, 3))
    (kx : ∀ (E : String) (ce : Cell) (q9 : Addr) (u : S) (H1 : Heap) (locs1 : List Loc), px E u → LW D cy aC aM q (Fr sz0) (fs u) σ f H1 → va_S (Fr sz0) s.heap H1 locs1 → H1[q9]? = some ce → ce.vm = .none → s.vm.findClass E = some ce.cls → vx_W p l e R s m args below meth c H1 locs1 (cells + mc) (slots + ms) Q (F0 m pc ls rest) q9)
    (kk : ∀ (r : Int32) (u : S) (H1 : Heap) (locs1 : List Loc), post r u → LW D cy aC aM q (Fr sz0) (fs u) σ f H1 → va_S (Fr sz0) s.heap H1 locs1 → W p l e R s m args below meth c H1 locs1 (cells + mc) (slots + ms) Q (F0 m (pc + 3) ls (.int r :: rest))) : W p l e R s m args below meth c H locs cells slots Q (F0 m pc ls st) := by
  have hrv := hP.recvC C.K
  obtain ⟨Ac, a1, a2, a3, a4⟩ := hP.call (C.fr hS)
  have hM := hM Ac a1 a2
  rw [TX_eq] at hM
  refine vx_calli (vx_runV (g := F0 m pc ls st) (As := As) (rest := rest) ⟨C.x, C.b, C.ml, C.o, C.w⟩ hM (cwV n C.w hG rfl rfl rfl hd hR) ⟨PcC.blind, hrv, PcC.mkL C hS a3⟩ rfl hn hl hst hW hdg hcR) hS (fun a _ h => a1 a h) a1 (fun a _ h => a1 a h) (fun E ce q9 u t H1 locs1 ht _ _ hb _ hk1 hS1 h9 hv9 hc9 => ?_) (fun r u t H1 locs1 ht _ hp hB _ hk1 hS1 => ?_)
  · obtain ⟨b1, b2⟩ := hb
    rw [ht] at b2
    exact kx E ce q9 u H1 locs1 b1 (a4 _ H1 hk1 b2) hS1 h9 hv9 hc9
  · obtain ⟨b1, b2, b3⟩ := hB
    rw [ht] at b1
    exact kk r u H1 locs1 hp (a4 _ H1 hk1 b1) hS1
/-- .. that throws nothing -/
theorem lc_class {S : Type} {post : Int32 → S → Prop} {fs : S → KS} {g1 g2 : S → Nat} (C : LC p s m args meth c cc maxL ret D cy sz0 sa Ts) (hP : LW D cy aC aM q (Fr sz0) κ σ f H) (hS : va_S (Fr sz0) s.heap H locs) (hl : ls.size = maxL) {y : MethodName} {bytes : ByteArray} {maxL2 : Nat} {ret2 : Option FieldType} {fr lo n idx mc ms : Nat} {As st : List Value}
    (hM : ∀ A : Nat → Prop, (∀ a, A a → Fr sz0 a) → (∀ a, H.size ≤ a → A a) → Met l y (Cond.code y bytes maxL2 ret2 :: GWc) ({ frames := fr, cells := mc, slots := ms, locals := lo }) (PcC D cy aC A sz0 sa (.ref (aC 0) :: As) κ H.size (SLT H)) (va_Qi post (fun u t => Bx D cy aC A H.size (SLT H) (fs u) (g1 u) (g2 u) t) A) mc ms A)
    (hG : GoodIn Ts (wsV RL idx RX11 y (Cond.code y bytes maxL2 ret2 :: GWc))) (hd : y.cls = RX11 ∧ y.cls ≠ "java/lang/invoke/MethodHandle" ∧ y.cls ≠ "java/lang/invoke/VarHandle" ∧ (parseMethodDescriptor y.desc).map (fun d => d.parameters.length) = some n) (hn : As.length = n) (hst : st = As.reverse ++ .ref (aC 0) :: rest) (hW : 2 * (F0 m pc ls st).monitorRoom + (rest.map fun v => v.category).sum ≤ 8) (hR : fr + 1 ≤ R.frames ∧ 8 + (maxL2 + 11) + lo ≤ R.locals) (hcR : cells + mc ≤ R.cells ∧ slots + ms ≤ R.slots) (hdg : decode cc pc = .ok (.invokevirtual idx, 3))
    (kk : ∀ (r : Int32) (u : S) (H1 : Heap) (locs1 : List Loc), post r u → LW D cy aC aM q (Fr sz0) (fs u) σ f H1 → va_S (Fr sz0) s.heap H1 locs1 → W p l e R s m args below meth c H1 locs1 (cells + mc) (slots + ms) Q (F0 m (pc + 3) ls (.int r :: rest))) : W p l e R s m args below meth c H locs cells slots Q (F0 m pc ls st) := by
  have hrv := hP.recvC C.K
  obtain ⟨Ac, a1, a2, a3, a4⟩ := hP.call (C.fr hS)
  have hM := hM Ac a1 a2
  refine va_calli (va_runV (g := F0 m pc ls st) (As := As) (rest := rest) ⟨C.x, C.b, C.ml, C.o, C.w⟩ hM (cwV n C.w hG rfl rfl rfl hd hR) ⟨PcC.blind, hrv, PcC.mkL C hS a3⟩ rfl hn hl hst hW hdg hcR) hS (fun a _ h => a1 a h) a1 (fun r u t H1 locs1 ht _ hp hB _ hk1 hS1 => ?_)
  obtain ⟨b1, b2, b3⟩ := hB
  rw [ht] at b1
  exact kk r u H1 locs1 hp (a4 _ H1 hk1 b1) hS1
/-- a call of the reference -/
theorem lc_ref {S : Type} {post : Int32 → S → Prop} {fs : S → RS} (C : LC p s m args meth c cc maxL ret D cy sz0 sa Ts) (hP : LW D cy aC aM q (Fr sz0) κ σ f H) (hS : va_S (Fr sz0) s.heap H locs) (hl : ls.size = maxL) {y : MethodName} {bytes : ByteArray} {maxL2 : Nat} {ret2 : Option FieldType} {fr lo n idx : Nat} {As st : List Value}
    (hM : Met l y (Cond.code y bytes maxL2 ret2 :: GWm) ({ frames := fr, cells := 0, slots := 0, locals := lo }) (PcR D cy sz0 sa aM (.ref (aM 0) :: As) σ H.size) (va_Qi post (fun u t => RP D cy aM (fs u) t.heap) (AR cy aM H.size)) 0 0 (AR cy aM H.size))
    (hG : GoodIn Ts (wsV RL idx RX12 y (Cond.code y bytes maxL2 ret2 :: GWm))) (hd : y.cls = RX12 ∧ y.cls ≠ "java/lang/invoke/MethodHandle" ∧ y.cls ≠ "java/lang/invoke/VarHandle" ∧ (parseMethodDescriptor y.desc).map (fun d => d.parameters.length) = some n) (hn : As.length = n) (hst : st = As.reverse ++ .ref (aM 0) :: rest) (hW : 2 * (F0 m pc ls st).monitorRoom + (rest.map fun v => v.category).sum ≤ 8) (hR : fr + 1 ≤ R.frames ∧ 8 + (maxL2 + 11) + lo ≤ R.locals) (hcR : cells + 0 ≤ R.cells ∧ slots + 0 ≤ R.slots) (hdg : decode cc pc = .ok (.invokevirtual idx, 3))
    (kk : ∀ (r : Int32) (u : S) (H1 : Heap) (locs1 : List Loc), post r u → LW D cy aC aM q (Fr sz0) κ (fs u) f H1 → va_S (Fr sz0) s.heap H1 locs1 → W p l e R s m args below meth c H1 locs1 cells slots Q (F0 m (pc + 3) ls (.int r :: rest))) : W p l e R s m args below meth c H locs cells slots Q (F0 m pc ls st) := by
  have hrv := hP.recvM C.K
  obtain ⟨a1, a2, a3, a4⟩ := hP.callR (C.fr hS)
  refine va_calli (va_runV (g := F0 m pc ls st) (As := As) (rest := rest) ⟨C.x, C.b, C.ml, C.o, C.w⟩ hM (cwV n C.w hG rfl rfl rfl hd hR) ⟨PcR.blind, hrv, PcR.mkL C hS a2 a3⟩ rfl hn hl hst hW hdg hcR) hS (fun a _ h => a1 a h) a1 (fun r u t H1 locs1 ht _ hp hB _ hk1 hS1 => ?_)
  rw [ht] at hB
  exact kk r u H1 locs1 hp (a4 _ H1 hk1 hB) hS1
/-- a call of one of the law's own helpers -/
theorem lc_stat {S : Type} {post : Int32 → S → Prop} {fs : S → KS} {fo : S → Nat → Int64} (C : LC p s m args meth c cc maxL ret D cy sz0 sa Ts) (hP : LW D cy aC aM q (Fr sz0) κ σ f H) (hS : va_S (Fr sz0) s.heap H locs) (hl : ls.size = maxL) {y : MethodName} {bytes : ByteArray} {maxL2 : Nat} {ret2 : Option FieldType} {hh : List (Nat × Nat × Nat × Nat)} {ws' : List Cond} {fr lo n idx mc ms : Nat} {As st : List Value}
    (hM : Met l y (Cond.codeWith y bytes maxL2 ret2 hh :: ws') ({ frames := fr, cells := mc, slots := ms, locals := lo }) (PcL D cy aC aM q sz0 sa As κ σ f H.size) (va_Qi post (fun u t => LW D cy aC aM q (Fr sz0) (fs u) σ (fo u) t.heap) (Fr sz0)) mc ms (Fr sz0))
    (hG : GoodIn Ts (va_wsS RL idx y (Cond.codeWith y bytes maxL2 ret2 hh :: ws'))) (hd : y.cls ≠ "java/lang/invoke/MethodHandle" ∧ y.cls ≠ "java/lang/invoke/VarHandle" ∧ (parseMethodDescriptor y.desc).map (fun d => d.parameters.length) = some n) (hn : As.length = n) (hst : st = As.reverse ++ rest) (hW : 2 * (F0 m pc ls st).monitorRoom + (rest.map fun v => v.category).sum ≤ 8) (hR : fr + 1 ≤ R.frames ∧ 8 + (maxL2 + 11) + lo ≤ R.locals) (hcR : cells + mc ≤ R.cells ∧ slots + ms ≤ R.slots) (hdg : decode cc pc = .ok (.invokestatic idx, 3))
    (kk : ∀ (r : Int32) (u : S) (H1 : Heap) (locs1 : List Loc), post r u → LW D cy aC aM q (Fr sz0) (fs u) σ (fo u) H1 → va_S (Fr sz0) s.heap H1 locs1 → W p l e R s m args below meth c H1 locs1 (cells + mc) (slots + ms) Q (F0 m (pc + 3) ls (.int r :: rest))) : W p l e R s m args below meth c H locs cells slots Q (F0 m pc ls st) := by
  refine va_calli (vx_runSW (g := F0 m pc ls st) (As := As) (rest := rest) ⟨C.x, C.b, C.ml, C.o, C.w⟩ hM (vx_cwSW n C.w hG rfl rfl rfl hd hR) ⟨PcL.blind, PcL.mk C hS hP⟩ rfl hn hl hst hW hdg hcR) hS (fun a _ h => h) (fun a h => h) (fun r u t H1 locs1 ht _ hp hB _ hk1 hS1 => ?_)
  rw [ht] at hB
  exact kk r u H1 locs1 hp hB hS1
/-- the answer's cell -/
theorem lc_last (C : LC p s m args meth c cc maxL ret D cy sz0 sa Ts) (hP : LW D cy aC aM q (Fr sz0) κ σ f H) (hS : va_S (Fr sz0) s.heap H locs) {x : Int64} (hdg : decode cc pc = .ok (.lastore, 1))
    (kk : ∀ (H1 : Heap) (locs1 : List Loc), LW D cy aC aM q (Fr sz0) κ σ (vp_updL f 0 x) H1 → va_S (Fr sz0) s.heap H1 locs1 → W p l e R s m args below meth c H1 locs1 cells slots Q (F0 m (pc + 1) ls rest)) : W p l e R s m args below meth c H locs cells slots Q (F0 m pc ls (.long x :: .int 0 :: .ref q :: rest)) := by
  obtain ⟨ws, k, h1, h2, h3, h4⟩ := hP.at
  exact va_last C.x C.b C.K h1 h2 hS k 1 h3 rfl (i := 0) (by unfold vp_in; decide +kernel) hdg (fun H1 locs1 p1 p2 p3 => kk H1 locs1 (h4 _ H1 p1 p2) p3)
theorem lc_lald (C : LC p s m args meth c cc maxL ret D cy sz0 sa Ts) (hP : LW D cy aC aM q (Fr sz0) κ σ f H) (hdg : decode cc pc = .ok (.laload, 1))
    (kk : W p l e R s m args below meth c H locs cells slots Q (F0 m (pc + 1) ls (.long (f 0) :: rest))) : W p l e R s m args below meth c H locs cells slots Q (F0 m pc ls (.int 0 :: .ref q :: rest)) := by
  obtain ⟨ws, k, h1, h2, h3, h4⟩ := hP.at
  exact va_lald C.x C.b C.K h1 k 1 h3 rfl (i := 0) (by unfold vp_in; decide +kernel) hdg kk
/-- a helper's contract out of its walk -/
theorem LM_of {y : MethodName} {rm : Room} {Qc : Array Value → State → Outcome → State → Prop} {hh : List (Nat × Nat × Nat × Nat)} {ws' : List Cond} {av : List Value} {sz mc ms : Nat} {loc0 : List (Nat × Value)} (hy : plainName y.cls = true) (hyc : y.cls = RL) (hloc : lv_args 0 av = loc0) (hle : (lg_sl av).length ≤ maxL)
    (hWk : ∀ (p : Program) (e : Env) (s : State) (m : MethodId) (below : List Frame) (meth : Method) (c : Code) (ls : Array Slot), s.heap.size = sz → c.exceptionTable.toList = tableOf hh → LC p s m av.toArray meth c cc maxL ret D cy sz0 sa (Cond.codeWith y cc maxL ret hh :: ws') → LW D cy aC aM q (Fr sz0) κ σ f s.heap → va_S (Fr sz0) s.heap s.heap [] → lv_has ls maxL loc0 → W p l e (headSpec (Cond.codeWith y cc maxL ret hh :: ws') rm).room s m av.toArray below meth c s.heap [] 0 0 (MQ below Qc av.toArray s mc ms (Fr sz0)) (F0 m 0 ls [])) :
    Met l y (Cond.codeWith y cc maxL ret hh :: ws') rm (PcL D cy aC aM q sz0 sa av κ σ f sz) Qc mc ms (Fr sz0) := by
  refine va_MetW (cc := cc) (maxL := maxL) (ret := ret) (hh := hh) hy rfl ?_
  intro p e s m args below meth c s₁ B hml hv
  obtain ⟨rfl, hsz, hP, hE, hn, ht⟩ := hv
  have hts := atoms_spec (ws := Cond.codeWith y cc maxL ret hh :: ws') B.pre
  have hown : s.vm.findClass RL = some m.cls := hyc ▸ findClass_of_methodNamed B.named
  have hl := lv_entry av (n := maxL) hle
  rw [lg_entry_eq]
  rw [hloc] at hl
  exact hWk p e s m below meth c _ hsz (vx_table (x := y) B (hts _ List.mem_cons_self)) ⟨B.exec, B.bytes, hml, B.returns, hown, hts, B.notSynchronized, hE, hn, ht⟩ hP va_S.rf hl
end LCs
