/-! ===== the parser's state as its methods hand it on ===== -/
def Keep (S : Int) (st st' : Nat → Int32) (wt wt' : Nat → Int64) : Prop := ∀ q : Nat, (q : Int) < S → st' q = st q ∧ wt' q = wt q
theorem Keep.rf {S : Int} {st : Nat → Int32} {wt : Nat → Int64} : Keep S st st wt wt := fun _ _ => ⟨rfl, rfl⟩
theorem Keep.tr {S : Int} {st st' st2 : Nat → Int32} {wt wt' wt2 : Nat → Int64} (h1 : Keep S st st' wt wt') (h2 : Keep S st' st2 wt' wt2) : Keep S st st2 wt wt2 := fun q hq => ⟨(h2 q hq).1.trans (h1 q hq).1, (h2 q hq).2.trans (h1 q hq).2⟩
theorem Keep.em {S : Int} {st st' : Nat → Int32} {wt wt' : Nat → Int64} {E : Nat} {s : Int32} {v : Int64} (h1 : Keep S st st' wt wt') (hE : S ≤ E) : Keep S st (upd st' E s) wt (vp_updL wt' E v) := fun q hq => ⟨by rw [upd_ne (by omega)]; exact (h1 q hq).1, by rw [updL_ne (by omega)]; exact (h1 q hq).2⟩
theorem Keep.pa {S : Int} {st st' : Nat → Int32} {wt wt' : Nat → Int64} {E : Nat} {v : Int64} (h1 : Keep S st st' wt wt') (hE : S ≤ E) : Keep S st st' wt (vp_updL wt' E v) := fun q hq => ⟨(h1 q hq).1, by rw [updL_ne (by omega)]; exact (h1 q hq).2⟩
def TKI (tk : Nat → Int32) (tv : Nat → Int64) (ts : Nat → Int32) (tn nx : Int32) : Prop := TKok tk tv ts (tn.toInt - 1) ∧ 1 ≤ tn.toInt ∧ tn.toInt ≤ 41 ∧ (tk (tn.toInt - 1).toNat).toInt = 0 ∧ 0 ≤ nx.toInt ∧ nx.toInt ≤ tn.toInt - 1
theorem TKI.b {tk : Nat → Int32} {tv : Nat → Int64} {ts : Nat → Int32} {tn nx : Int32} (h : TKI tk tv ts tn nx) : 0 ≤ nx.toInt ∧ nx.toInt ≤ 40 ∧ nx.toInt ≤ tn.toInt - 1 ∧ tn.toInt ≤ 41 := by
  obtain ⟨h1, h2, h3, h4, h5, h6⟩ := h; omega
theorem TKI.in {tk : Nat → Int32} {tv : Nat → Int64} {ts : Nat → Int32} {tn nx : Int32} (h : TKI tk tv ts tn nx) (hk : ¬ (tk nx.toNatClampNeg).toInt = 0) : nx.toInt + 1 ≤ tn.toInt - 1 ∧ 1 ≤ (tk nx.toNatClampNeg).toInt ∧ (tk nx.toNatClampNeg).toInt ≤ 5 ∧ ((tk nx.toNatClampNeg).toInt = 2 → 1 ≤ (ts nx.toNatClampNeg).toInt ∧ (ts nx.toNatClampNeg).toInt ≤ 3) ∧ ((tk nx.toNatClampNeg).toInt = 3 → 0 ≤ (tv nx.toNatClampNeg).toInt ∧ (tv nx.toNatClampNeg).toInt ≤ 14348906) := by
  obtain ⟨h1, h2, h3, h4, h5, h6⟩ := h
  have e : ¬ nx.toInt = tn.toInt - 1 := by
    intro e
    rw [clampN, e] at hk
    exact hk h4
  exact ⟨by omega, h1 _ (by rw [clampZ h5]; omega)⟩
theorem TKI.up {tk : Nat → Int32} {tv : Nat → Int64} {ts : Nat → Int32} {tn nx nx' : Int32} (h : TKI tk tv ts tn nx) (h1 : nx.toInt ≤ nx'.toInt) (h2 : nx'.toInt ≤ tn.toInt - 1) : TKI tk tv ts tn nx' := by
  obtain ⟨k1, k2, k3, k4, k5, k6⟩ := h
  exact ⟨k1, k2, k3, k4, by omega, h2⟩
theorem pot_nn (sg : Nat → Int32) (n : Nat) : 0 ≤ pot sg n := by
  induction n with
  | zero => exact Int.le_refl _
  | succ n ih => unfold pot; split <;> omega
theorem pot_eq {sg sg' : Nat → Int32} (n : Nat) (h : ∀ j, j < n → sg' j = sg j) : pot sg' n = pot sg n := by
  induction n with
  | zero => rfl
  | succ n ih => unfold pot; rw [ih (fun j hj => h j (by omega)), h n (by omega)]
theorem pot_succ {sg : Nat → Int32} {n : Nat} : pot sg (n + 1) = pot sg n + (if (sg n).toInt = 0 then 0 else 1) := rfl
theorem pot_set {sg : Nat → Int32} {n : Nat} {z : Int32} : pot (upd sg n z) (n + 1) = pot sg n + (if z.toInt = 0 then 0 else 1) := by
  rw [pot_succ, upd_eq, pot_eq (sg := sg) (sg' := upd sg n z) n (fun j hj => upd_ne (by omega))]
theorem pot_new {sg : Nat → Int32} {n : Nat} {z : Int32} (hz : z.toInt = 0) : pot (upd sg n z) (n + 1) = pot sg n := by
  rw [pot_set, if_pos hz]; omega
def PQ0 (o c : Int) (nx sr wr fm wa : Int32) (st : Nat → Int32) (wt : Nat → Int64) (lv op jm bs sg fr pt cn cc pl : Nat → Int32) (tg ts : Int32) : Prop :=
  ∃ (h g B : Nat → Int) (a S E F W : Nat), sr.toInt = S ∧ sr.toInt + wr.toInt = E ∧ fm.toInt = F ∧ wa.toInt = W ∧ PI h g B a S E F W o st wt lv op jm bs sg fr pt cn cc pl tg ts ∧ ((E : Int) - S) + W + pot sg F + c ≤ 2 * nx.toInt ∧ W ≤ nx.toInt ∧ (∀ q, S ≤ q → q ≤ E → h q ≤ nx.toInt)
def PQ1 (o c : Int) (nx sr wr fm wa : Int32) (st : Nat → Int32) (wt : Nat → Int64) (lv op jm bs sg fr pt cn cc pl : Nat → Int32) (tg ts : Int32) (ai : Nat → Int32) : Prop :=
  ∃ (h g B : Nat → Int) (a S E F W : Nat), sr.toInt = S ∧ sr.toInt + wr.toInt = E ∧ fm.toInt = F ∧ wa.toInt = W ∧ PI h g B a S E F W o st wt lv op jm bs sg fr pt cn cc pl tg ts ∧ ((E : Int) - S) + W + pot sg F + c ≤ 2 * nx.toInt ∧ W ≤ nx.toInt ∧ (∀ q, S ≤ q → q ≤ E → h q ≤ nx.toInt) ∧ Plast S E F o st wt fr pl ai
def LI (od nx sr wr fm wa : Int32) (st : Nat → Int32) (wt : Nat → Int64) (lv op jm bs sg fr pt cn cc pl : Nat → Int32) (tg ts : Int32) (ai : Nat → Int32) : Prop :=
  (od.toInt = 1 ∧ PQ1 0 0 nx sr wr fm wa st wt lv op jm bs sg fr pt cn cc pl tg ts ai) ∨ (od.toInt = 0 ∧ PQ1 1 0 nx sr wr fm wa st wt lv op jm bs sg fr pt cn cc pl tg ts ai)
section PQ
variable {o c : Int} {nx sr wr fm wa tg ts : Int32} {st : Nat → Int32} {wt : Nat → Int64} {lv op jm bs sg fr pt cn cc pl ai : Nat → Int32}
theorem PQ1.z (hq : PQ1 o c nx sr wr fm wa st wt lv op jm bs sg fr pt cn cc pl tg ts ai) : PQ0 o c nx sr wr fm wa st wt lv op jm bs sg fr pt cn cc pl tg ts := by
  obtain ⟨h, g, B, a, S, E, F, W, h1, h2, h3, h4, h5, h6, h7, h8, h9⟩ := hq
  exact ⟨h, g, B, a, S, E, F, W, h1, h2, h3, h4, h5, h6, h7, h8⟩
theorem PQ0.b (hq : PQ0 o c nx sr wr fm wa st wt lv op jm bs sg fr pt cn cc pl tg ts) : 1 ≤ fm.toInt ∧ fm.toInt ≤ 5 ∧ 0 ≤ wr.toInt ∧ 0 ≤ wa.toInt ∧ wa.toInt ≤ nx.toInt ∧ wr.toInt + wa.toInt + c ≤ 2 * nx.toInt ∧ 0 ≤ (bs (fm.toInt - 1).toNat).toInt ∧ (bs (fm.toInt - 1).toNat).toInt ≤ wa.toInt := by
  obtain ⟨h, g, B, a, S, E, F, W, h1, h2, h3, h4, h5, h6, h7, h8⟩ := hq
  have k1 := h5.1.1
  have k2 := h5.1.2.1
  have k3 := h5.2.2.2.2.1.1
  have := pot_nn sg F
  have k5 := h5.1.2.2.2.1 (fm.toInt - 1).toNat (by omega)
  have k6 := h5.1.2.2.2.2.1 (fm.toInt - 1).toNat (by omega)
  omega
theorem LI.b {od : Int32} (hq : LI od nx sr wr fm wa st wt lv op jm bs sg fr pt cn cc pl tg ts ai) : (od.toInt = 0 ∨ od.toInt = 1) ∧ 1 ≤ fm.toInt ∧ fm.toInt ≤ 5 ∧ 0 ≤ wr.toInt ∧ 0 ≤ wa.toInt ∧ wa.toInt ≤ nx.toInt ∧ wr.toInt + wa.toInt ≤ 2 * nx.toInt := by
  rcases hq with ⟨h, hq⟩ | ⟨h, hq⟩ <;> have := hq.z.b <;> omega
end PQ
