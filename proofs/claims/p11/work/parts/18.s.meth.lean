/-! ===== the reference: which method a call means ===== -/
theorem q_split {m : Nat} : ∀ {p r l1 l2 : List Nat}, p ++ m :: r = l1 ++ m :: l2 → m ∉ p → m ∉ l1 → p = l1
  | [], _, [], _, _, _, _ => rfl
  | [], _, y :: l1, _, h, _, h2 => by
    have h := (List.cons.inj h).1
    exact absurd (h ▸ List.mem_cons_self) h2
  | x :: p, _, [], _, h, h1, _ => by
    have h := (List.cons.inj h).1
    exact absurd (h ▸ List.mem_cons_self) h1
  | x :: p, r, y :: l1, l2, h, h1, h2 => by
    have h := List.cons.inj h
    rw [h.1, q_split h.2 (fun z => h1 (List.mem_cons_of_mem _ z)) (fun z => h2 (List.mem_cons_of_mem _ z))]
/-- the loops of stands -/
def QSD (H : QT) (c n : Int) (m : Nat) (mo fr : Int) (rest : List Nat) : Prop :=
  (mo = 1 ∧ ∃ p : List Nat, qMeth H (qAnc H c) = p ++ rest ∧ m ∉ p ∧ (fr = 0 ↔ qHid H n m p = true)) ∨
  (mo = 0 ∧ ∃ p r : List Nat, qMeth H (qAnc H c) = p ++ m :: r ∧ m ∉ p ∧ (fr = 0 ↔ qHid H n m p = true))
def QAG (H : QT) (ob : Int) (m : QM) (p : Nat) (as : List QV) : Prop := ∀ j : Nat, j < as.length → QAT H ob m (p + j) (as.getD j qNull)
/-- the loop of suits -/
def QSI (H : QT) (zs : List (QV × Int)) (k ex cl ca su : Int) : Prop :=
  (¬ ex = 0 ↔ (zs.take k.toNat).all (fun z => decide (z.1.1 = z.2)) = true) ∧ (¬ cl = 0 ↔ (zs.take k.toNat).all (fun z => qFits H z.1 z.2) = true) ∧
  (¬ ca = 0 ↔ (zs.take k.toNat).all (fun z => qFits H z.1 z.2 || qReach H z.1 z.2) = true) ∧ (¬ cl = 0 → su = ((zs.take k.toNat).map (fun z => qWei H z.1 z.2)).foldl (· + ·) 0)
/-- the loops of found -/
def QFN (H : QT) (c n : Int) (as : List QV) (x k be su wa : Int) (rest : List Nat) : Prop :=
  ∃ p : List Nat, qMeth H (qAnc H c) = p ++ rest ∧ (∀ j ∈ p, 6 * x + 6 ≤ (j : Int) ∨ (6 * x ≤ (j : Int) ∧ (j : Int) < k)) ∧ (p.length : Int) ≤ 6 * (4 - x) + (k - 6 * x) ∧ 0 ≤ wa ∧ wa ≤ p.length ∧
  (be, su, wa) = qBest H as (qCands H n as.length [] p) (-1, 2000, 0)
section QMT
variable {H : QT} {ob n c nm x x2 k k2 e mo mo2 fr fr2 ex ex2 cl cl2 ca ca2 su su2 be be2 wa wa2 t u : Int} {m : Nat} {rest l1 l2 : List Nat} {as : List QV} {zs : List (QV × Int)} {v : QV} {b : Bool}
theorem qMeth_cons (hp : QPA H n) (h5 : n ≤ 5) (h0 : 0 ≤ x) (hn : x < n) : qMeth H (qAnc H x) = List.range' (6 * x.toNat) (H 4 x.toNat).toNat ++ qMeth H (qAnc H (H 0 x.toNat)) := by
  rw [qAnc_cons hp h0 hn h5]
  unfold qMeth
  rw [List.flatMap_cons]
theorem qMeth_neg (h : x < 0) : qMeth H (qAnc H x) = [] := by rw [qAnc_neg h]; rfl
theorem q_rng (h0 : 0 ≤ k) (hk : k < e) (hk2 : k2 = k + 1) : List.range' k.toNat (e - k).toNat = k.toNat :: List.range' k2.toNat (e - k2).toNat := by
  rw [show (e - k).toNat = (e - k2).toNat + 1 by omega, List.range'_succ, show k.toNat + 1 = k2.toNat by omega]
theorem q_rng0 (h : e ≤ k) : List.range' k.toNat (e - k).toNat = [] := by rw [show (e - k).toNat = 0 by omega]; rfl
theorem qHid_snoc {p : List Nat} {j : Nat} : qHid H nm m (p ++ [j]) = (qHid H nm m p || decide (H 5 j = nm ∧ H 6 j = H 6 m ∧ H 7 j = H 7 m)) := by
  unfold qHid; rw [List.any_append]; simp
theorem QSD.start (hm : mo = 1) (hf : ¬ fr = 0) : QSD H c nm m mo fr (qMeth H (qAnc H c)) :=
  Or.inl ⟨hm, [], rfl, List.not_mem_nil, by constructor <;> intro h <;> first | exact absurd h hf | cases h⟩
theorem QSD.inn (h : QSD H c nm m mo fr (qMeth H (qAnc H x))) (hp : QPA H n) (h5 : n ≤ 5) (h0 : 0 ≤ x) (hn : x < n) (hk : k = 6 * x) (he : e = 6 * x + H 4 x.toNat) : QSD H c nm m mo fr (List.range' k.toNat (e - k).toNat ++ qMeth H (qAnc H (H 0 x.toNat))) := by
  rw [qMeth_cons hp h5 h0 hn] at h
  rw [show k.toNat = 6 * x.toNat by omega, show (e - k).toNat = (H 4 x.toNat).toNat by omega]; exact h
theorem QSD.out (h : QSD H c nm m mo fr (List.range' k.toNat (e - k).toNat ++ qMeth H (qAnc H u))) (hx : mo = 0 ∨ e ≤ k) (hu : x2 = u) : QSD H c nm m mo fr (qMeth H (qAnc H x2)) := by
  subst hu
  rcases h with ⟨h1, h⟩ | h
  · rw [q_rng0 (by omega), List.nil_append] at h
    exact Or.inl ⟨h1, h⟩
  · exact Or.inr h
theorem QSD.step (h : QSD H c nm m mo fr (List.range' k.toNat (e - k).toNat ++ rest)) (hm : ¬ mo = 0) (h0 : 0 ≤ k) (hk : k < e) (hk2 : k2 = k + 1) (hs : (mo2 = 0 ∧ k = m ∧ (fr2 = 0 ↔ fr = 0)) ∨ (mo2 = 1 ∧ ¬ k = m ∧ (fr2 = 0 ↔ fr = 0 ∨ (H 5 k.toNat = nm ∧ H 6 k.toNat = H 6 m ∧ H 7 k.toNat = H 7 m)))) : QSD H c nm m mo2 fr2 (List.range' k2.toNat (e - k2).toNat ++ rest) := by
  rcases h with ⟨h1, p, h2, h3, h4⟩ | ⟨h1, _⟩
  · rw [q_rng h0 hk hk2, List.cons_append] at h2
    rcases hs with ⟨a1, a2, a3⟩ | ⟨a1, a2, a3⟩
    · refine Or.inr ⟨a1, p, List.range' k2.toNat (e - k2).toNat ++ rest, ?_, h3, a3.trans h4⟩
      rw [h2, show k.toNat = m by omega]
    · refine Or.inl ⟨a1, p ++ [k.toNat], by rw [h2, List.append_assoc]; rfl, fun z => ?_, ?_⟩
      · rcases List.mem_append.mp z with z | z
        · exact h3 z
        · have := List.mem_singleton.mp z
          omega
      · rw [qHid_snoc, Bool.or_eq_true, decide_eq_true_iff, a3, h4]
  · exact absurd h1 hm
theorem QSD.fin (h : QSD H c nm m mo fr (qMeth H (qAnc H x))) (hx : x < 0 ∨ mo = 0) (hl : qMeth H (qAnc H c) = l1 ++ m :: l2) (hm : m ∉ l1) : fr = 0 ↔ qHid H nm m l1 = true := by
  rcases h with ⟨h1, p, h2, h3, h4⟩ | ⟨h1, p, r, h2, h3, h4⟩
  · rw [qMeth_neg (x := x) (hx.resolve_right (by omega)), List.append_nil] at h2
    rw [h2] at hl
    exact absurd (hl ▸ List.mem_append_right _ List.mem_cons_self) h3
  · rw [← q_split (h2.symm.trans hl) h3 hm]; exact h4
-- suits
theorem q_zip {a b : Int} : ∀ (as : List QV) (k : Nat), k < as.length → k < 2 → (as.zip [a, b]).take (k + 1) = (as.zip [a, b]).take k ++ [(as.getD k qNull, if k = 0 then a else b)]
  | [], k, h, _ => absurd h (Nat.not_lt_zero _)
  | v :: t, 0, _, _ => rfl
  | [v], 1, h, _ => absurd (show 1 < 1 from h) (Nat.lt_irrefl 1)
  | v :: w :: t, 1, _, _ => rfl
  | _, k + 2, _, h => absurd h (by omega)
theorem q_zall {a b : Int} (h : as.length ≤ 2) (hk : (as.length : Int) ≤ k) : (as.zip [a, b]).take k.toNat = as.zip [a, b] := List.take_of_length_le (by rw [List.length_zip]; omega)
theorem QSI.start (h1 : ¬ ex = 0) (h2 : ¬ cl = 0) (h3 : ¬ ca = 0) (h4 : su = 0) (hk : k = 0) : QSI H zs k ex cl ca su := by
  subst hk h4
  exact ⟨⟨fun _ => rfl, fun _ => h1⟩, ⟨fun _ => rfl, fun _ => h2⟩, ⟨fun _ => rfl, fun _ => h3⟩, fun _ => rfl⟩
theorem QSI.step (h : QSI H zs k ex cl ca su) (hk : k2 = k + 1) (h0 : 0 ≤ k) (hz : zs.take (k.toNat + 1) = zs.take k.toNat ++ [(v, t)]) (h1 : ¬ ex2 = 0 ↔ (¬ ex = 0 ∧ v.1 = t)) (h2 : ¬ cl2 = 0 ↔ (¬ cl = 0 ∧ qFits H v t = true)) (h3 : ¬ ca2 = 0 ↔ (¬ ca = 0 ∧ (qFits H v t = true ∨ qReach H v t = true))) (h4 : qFits H v t = true → su2 = su + qWei H v t) : QSI H zs k2 ex2 cl2 ca2 su2 := by
  obtain ⟨g1, g2, g3, g4⟩ := h
  have e : zs.take k2.toNat = zs.take k.toNat ++ [(v, t)] := by rw [← hz, show k2.toNat = k.toNat + 1 by omega]
  unfold QSI
  rw [e]
  refine ⟨?_, ?_, ?_, fun h => ?_⟩
  · rw [List.all_append, h1, g1]; simp
  · rw [List.all_append, h2, g2]; simp
  · rw [List.all_append, h3, g3]; simp
  · obtain ⟨a, b⟩ := h2.mp h
    rw [h4 b, g4 a, List.map_append, List.foldl_append]; rfl
theorem QSI.step2 {fi ri : Int} (h : QSI H zs k ex cl ca su) (hk : k2 = k + 1) (h0 : 0 ≤ k) (hz : zs.take (k.toNat + 1) = zs.take k.toNat ++ [(v, t)]) (hf : (fi = 0 → qFits H v t = false) ∧ (¬ fi = 0 → qFits H v t = true)) (hr : fi = 0 → ¬ ca = 0 → (ri = 0 → qReach H v t = false) ∧ (¬ ri = 0 → qReach H v t = true)) (h1 : ¬ ex2 = 0 ↔ (¬ ex = 0 ∧ v.1 = t)) (h2 : ¬ cl2 = 0 ↔ (¬ cl = 0 ∧ ¬ fi = 0)) (h3 : ¬ ca2 = 0 ↔ (¬ ca = 0 ∧ (¬ fi = 0 ∨ ¬ ri = 0))) (h4 : ¬ fi = 0 → su2 = su + qWei H v t) : QSI H zs k2 ex2 cl2 ca2 su2 := by
  have ff : ¬ fi = 0 ↔ qFits H v t = true := by
    by_cases q : fi = 0
    · rw [hf.1 q]; exact ⟨fun h => absurd q h, fun h => by cases h⟩
    · rw [hf.2 q]; exact ⟨fun _ => rfl, fun _ => q⟩
  refine h.step hk h0 hz h1 (h2.trans (and_congr_right fun _ => ff)) (h3.trans ?_) (fun h => h4 (ff.mpr h))
  refine and_congr_right fun hc => ?_
  by_cases q : fi = 0
  · have r := hr q hc
    rw [← ff]
    by_cases y : ri = 0
    · rw [r.1 y]
      exact ⟨fun h => h.elim Or.inl (fun h => absurd y h), fun h => h.elim Or.inl (fun h => by cases h)⟩
    · rw [r.2 y]
      exact ⟨fun _ => Or.inr rfl, fun _ => Or.inr y⟩
  · exact ⟨fun _ => Or.inl (ff.mp q), fun _ => Or.inl q⟩
theorem QSI.fin {r : Int} {a b : Int} (h : QSI H (as.zip [a, b]) k ex cl ca su) (hl : as.length ≤ 2) (hk : (as.length : Int) ≤ k) (ha : a = H 6 m) (hb : b = H 7 m) (hr : r = if ¬ ex = 0 then -1 else if ¬ cl = 0 then su else if ¬ ca = 0 then 1000 else 2000) : r = qSuit H m as := by
  subst ha hb
  unfold QSI at h
  rw [q_zall hl hk] at h
  obtain ⟨g1, g2, g3, g4⟩ := h
  unfold qSuit
  rw [hr]
  by_cases q1 : ex = 0
  · rw [if_neg (fun h => h q1), if_neg (fun h => g1.mpr h q1)]
    by_cases q2 : cl = 0
    · rw [if_neg (fun h => h q2), if_neg (fun h => g2.mpr h q2)]
      by_cases q3 : ca = 0
      · rw [if_neg (fun h => h q3), if_neg (fun h => g3.mpr h q3)]
      · rw [if_pos q3, if_pos (g3.mp q3)]
    · rw [if_pos q2, if_pos (g2.mp q2)]; exact g4 q2
  · rw [if_pos q1, if_pos (g1.mp q1)]
-- found
theorem qCands_app {k : Int} : ∀ (l1 l2 seen : List Nat), qCands H nm k seen (l1 ++ l2) = qCands H nm k seen l1 ++ qCands H nm k (seen ++ l1) l2
  | [], l2, seen => by rw [List.append_nil]; rfl
  | m :: t, l2, seen => by
    rw [List.cons_append]
    show (if qLike H nm k m && !(qHid H nm m seen) then m :: qCands H nm k (seen ++ [m]) (t ++ l2) else qCands H nm k (seen ++ [m]) (t ++ l2)) = (if qLike H nm k m && !(qHid H nm m seen) then m :: qCands H nm k (seen ++ [m]) t else qCands H nm k (seen ++ [m]) t) ++ _
    rw [qCands_app t l2, List.append_assoc]
    split <;> rfl
theorem qCands_one {k : Int} {seen : List Nat} : qCands H nm k seen [m] = if qLike H nm k m && !(qHid H nm m seen) then [m] else [] := rfl
theorem qBest_app : ∀ (l1 l2 : List Nat) (b : Int × Int × Int), qBest H as (l1 ++ l2) b = qBest H as l2 (qBest H as l1 b)
  | [], _, _ => rfl
  | m :: t, l2, b => qBest_app t l2 _
theorem QFN.wb (h : QFN H c nm as x k be su wa rest) (h0 : 0 ≤ x) (hk : k ≤ 6 * x + 6) : 0 ≤ wa ∧ wa ≤ 30 := by
  obtain ⟨p, _, _, h3, h4, h5, _⟩ := h
  omega
theorem QFN.start (hc : c ≤ 4) (hx : x = c) (hb : be = -1) (hs : su = 2000) (hw : wa = 0) : QFN H c nm as x (6 * x) be su wa (qMeth H (qAnc H x)) := by
  subst hx hb hs hw
  refine ⟨[], rfl, fun j hj => absurd hj List.not_mem_nil, ?_, Int.le_refl _, Int.le_refl _, rfl⟩
  show (0 : Int) ≤ _
  omega
theorem QFN.inn (h : QFN H c nm as x (6 * x) be su wa (qMeth H (qAnc H x))) (hp : QPA H n) (h5 : n ≤ 5) (h0 : 0 ≤ x) (hn : x < n) (hk : k = 6 * x) (he : e = 6 * x + H 4 x.toNat) : QFN H c nm as x k be su wa (List.range' k.toNat (e - k).toNat ++ qMeth H (qAnc H (H 0 x.toNat))) := by
  rw [qMeth_cons hp h5 h0 hn] at h
  rw [show k.toNat = 6 * x.toNat by omega, show (e - k).toNat = (H 4 x.toNat).toNat by omega, hk]; exact h
theorem QFN.out (h : QFN H c nm as x k be su wa (List.range' k.toNat (e - k).toNat ++ qMeth H (qAnc H u))) (hx : e ≤ k) (hk : k ≤ 6 * x + 6) (hu : x2 = u) (hl : u < x) : QFN H c nm as x2 (6 * x2) be su wa (qMeth H (qAnc H x2)) := by
  subst hu
  obtain ⟨p, h1, h2, h3, h4, h5, h6⟩ := h
  rw [q_rng0 hx, List.nil_append] at h1
  exact ⟨p, h1, fun j hj => by have := h2 j hj; omega, by omega, h4, h5, h6⟩
theorem QFN.step (h : QFN H c nm as x k be su wa (List.range' k.toNat (e - k).toNat ++ rest)) (h0 : 0 ≤ k) (hk0 : 6 * x ≤ k) (hk : k < e) (he : e ≤ 6 * x + 6) (hk2 : k2 = k + 1) (hb : ∀ l1 l2 : List Nat, qMeth H (qAnc H c) = l1 ++ k.toNat :: l2 → k.toNat ∉ l1 → (qLike H nm as.length k.toNat && !(qHid H nm k.toNat l1)) = b)
    (hs : (b = false ∧ be2 = be ∧ su2 = su ∧ wa2 = wa) ∨ (b = true ∧ be2 = (if qSuit H k.toNat as < su then k else be) ∧ su2 = (if qSuit H k.toNat as < su then qSuit H k.toNat as else su) ∧ wa2 = wa + if qSuit H k.toNat as = 1000 then 1 else 0)) : QFN H c nm as x k2 be2 su2 wa2 (List.range' k2.toNat (e - k2).toNat ++ rest) := by
  obtain ⟨p, h1, h2, h3, h4, h5, h6⟩ := h
  rw [q_rng h0 hk hk2, List.cons_append] at h1
  have hn : k.toNat ∉ p := fun z => by have := h2 _ z; omega
  have hb := hb p _ h1 hn
  have ln : (p ++ [k.toNat]).length = p.length + 1 := by rw [List.length_append]; rfl
  refine ⟨p ++ [k.toNat], by rw [h1, List.append_assoc]; rfl, fun j hj => ?_, by rw [ln]; omega, ?_, ?_, ?_⟩
  · rcases List.mem_append.mp hj with z | z
    · have := h2 j z; omega
    · have := List.mem_singleton.mp z
      omega
  · rcases hs with ⟨_, _, _, e3⟩ | ⟨_, _, _, e3⟩
    · omega
    · rw [e3]; split <;> omega
  · rw [ln]
    rcases hs with ⟨_, _, _, e3⟩ | ⟨_, _, _, e3⟩
    · omega
    · rw [e3]; split <;> omega
  · rw [qCands_app, qBest_app, ← h6, List.nil_append, qCands_one, hb]
    rcases hs with ⟨e0, e1, e2, e3⟩ | ⟨e0, e1, e2, e3⟩
    · rw [e0, e1, e2, e3]; rfl
    · rw [e0, if_pos rfl, e1, e2, e3]
      show _ = (if qSuit H k.toNat as < su then (((k.toNat : Nat) : Int), qSuit H k.toNat as, wa + if qSuit H k.toNat as = 1000 then 1 else 0) else (be, su, wa + if qSuit H k.toNat as = 1000 then 1 else 0))
      rw [show ((k.toNat : Nat) : Int) = k by omega]
      split <;> rfl
theorem QFN.fin (h : QFN H c nm as x (6 * x) be su wa (qMeth H (qAnc H x))) (hx : x < 0) : qFind H c nm as = if su = 2000 then .inr 8 else if su = 1000 ∧ 1 < wa then .inr 7 else .inl be.toNat := by
  obtain ⟨p, h1, _, _, _, _, h6⟩ := h
  rw [qMeth_neg hx, List.append_nil] at h1
  unfold qFind
  rw [h1, ← h6]
end QMT
