/-! ===== the class: which method a call means ===== -/
/-- the candidates that the finder keeps -/
def CDq (P : PL) (H : QT) (F : Nat → Option Nat) (n : Int) (l : List Nat) : Prop := n = l.length ∧ l.length ≤ 30 ∧ ∀ i : Nat, i < l.length → ∃ x, F i = some x ∧ oT P x = 5 ∧ RTq P H x (l.getD i 0)
/-- two methods have the same parameters -/
def qSm (H : QT) (m j : Nat) : Bool := decide (H 6 j = H 6 m ∧ H 7 j = H 7 m)
/-- two values for the arguments: NULL for what is not given -/
def qARG (as : List QV) (v w : QV) : Prop := (as = [] ∧ v = qNull ∧ w = qNull) ∨ (as = [v] ∧ w = qNull) ∨ as = [v, w]
section FNDs
variable {P P' : PL} {H : QT} {nm k : Int} {m j : Nat} {as : List QV} {v w : QV} {cs l1 l2 : List Nat}
theorem qSm_eq9 (h : qSm H m j = true) (i : Nat) : qSm H m i = qSm H j i := by
  have h := of_decide_eq_true h
  unfold qSm
  rw [h.1, h.2]
theorem qSm_like9 (hm : qLike H nm k m = true) (h : qSm H m j = true) (h5 : H 5 j = nm) : qLike H nm k j = true := by
  have h := of_decide_eq_true h
  have hm := of_decide_eq_true hm
  exact decide_eq_true ⟨h5, by rw [h.1, h.2]; exact hm.2⟩
theorem qHid_g9 : ∀ (p seen cs : List Nat), (∀ m, qLike H nm k m = true → qHid H nm m seen = cs.any (qSm H m)) → ∀ m, qLike H nm k m = true → qHid H nm m (seen ++ p) = (cs ++ qCands H nm k seen p).any (qSm H m)
  | [], seen, cs, h, m, hm => by
    rw [List.append_nil]
    show _ = (cs ++ []).any _
    rw [List.append_nil]; exact h m hm
  | j :: t, seen, cs, h, m, hm => by
    have e1 : seen ++ j :: t = (seen ++ [j]) ++ t := by rw [List.append_assoc]; rfl
    have hj : ∀ i, qLike H nm k i = true → decide (H 5 j = nm ∧ H 6 j = H 6 i ∧ H 7 j = H 7 i) = (qLike H nm k j && qSm H i j) := by
      intro i hi
      by_cases q : qSm H i j = true
      · by_cases q5 : H 5 j = nm
        · rw [q, qSm_like9 hi q q5, decide_eq_true ⟨q5, of_decide_eq_true q⟩]; rfl
        · have z : qLike H nm k j = false := decide_eq_false (fun z => q5 z.1)
          rw [z, decide_eq_false (fun z => q5 z.1)]; rfl
      · have q2 : ¬ (H 6 j = H 6 i ∧ H 7 j = H 7 i) := fun z => q (decide_eq_true z)
        have q3 : qSm H i j = false := decide_eq_false q2
        rw [q3, decide_eq_false (fun z => q2 z.2), Bool.and_false]
    rw [e1]
    cases hl : qLike H nm k j && !(qHid H nm j seen) with
    | true =>
      have e2 : qCands H nm k seen (j :: t) = j :: qCands H nm k (seen ++ [j]) t := by
        show (if qLike H nm k j && !(qHid H nm j seen) then _ else _) = _
        rw [hl]; rfl
      rw [e2, show cs ++ j :: qCands H nm k (seen ++ [j]) t = (cs ++ [j]) ++ qCands H nm k (seen ++ [j]) t by rw [List.append_assoc]; rfl]
      refine qHid_g9 t (seen ++ [j]) (cs ++ [j]) (fun i hi => ?_) m hm
      rw [qHid_snoc, h i hi, List.any_append, hj i hi]
      rw [Bool.and_eq_true] at hl
      rw [hl.1, Bool.true_and]
      show _ = (cs.any (qSm H i) || (qSm H i j || false))
      rw [Bool.or_false]
    | false =>
      have e2 : qCands H nm k seen (j :: t) = qCands H nm k (seen ++ [j]) t := by
        show (if qLike H nm k j && !(qHid H nm j seen) then _ else _) = _
        rw [hl]; rfl
      rw [e2]
      refine qHid_g9 t (seen ++ [j]) cs (fun i hi => ?_) m hm
      rw [qHid_snoc, h i hi, hj i hi]
      cases ql : qLike H nm k j with
      | false => rw [Bool.false_and, Bool.or_false]
      | true =>
        rw [ql, Bool.true_and] at hl
        have hh : qHid H nm j seen = true := by
          cases z : qHid H nm j seen with
          | true => rfl
          | false => rw [z] at hl; cases hl
        rw [Bool.true_and]
        cases qs : qSm H i j with
        | false => rw [Bool.or_false]
        | true =>
          have z := h j ql
          rw [hh] at z
          have e3 : cs.any (qSm H i) = cs.any (qSm H j) := by
            congr 1
            funext a
            exact qSm_eq9 qs a
          rw [e3, ← z]; rfl
/-- hidden: a candidate so far has the same parameters -/
theorem qHid_c9 {p : List Nat} (hm : qLike H nm k m = true) : qHid H nm m p = (qCands H nm k [] p).any (qSm H m) := by
  have z := qHid_g9 (H := H) (nm := nm) (k := k) p [] [] (fun _ _ => rfl) m hm
  rw [List.nil_append, List.nil_append] at z
  exact z
theorem qCands_s9 {p : List Nat} : qCands H nm k [] (p ++ [m]) = if qLike H nm k m && !((qCands H nm k [] p).any (qSm H m)) then qCands H nm k [] p ++ [m] else qCands H nm k [] p := by
  rw [qCands_app, List.nil_append, qCands_one]
  cases hm : qLike H nm k m with
  | false => exact List.append_nil _
  | true =>
    rw [qHid_c9 hm]
    cases (qCands H nm k [] p).any (qSm H m)
    · rfl
    · exact List.append_nil _
theorem qFits_n9 : qFits H qNull 0 = true := decide_eq_true (Or.inr (Or.inl rfl))
theorem qWei_n9 : qWei H qNull 0 = 0 := rfl
theorem q_types9 (h : qARG as v w) (hc : qCnt (H 6 m) (H 7 m) = as.length) (h0 : H 6 m = 0 → H 7 m = 0) : (as = [] ∧ v = qNull ∧ w = qNull ∧ H 6 m = 0 ∧ H 7 m = 0) ∨ (as = [v] ∧ w = qNull ∧ H 7 m = 0) ∨ as = [v, w] := by
  unfold qCnt at hc
  rcases h with ⟨rfl, h1, h2⟩ | ⟨rfl, h1⟩ | h1
  · have hc : (if H 6 m = 0 then (0 : Int) else if H 7 m = 0 then 1 else 2) = 0 := hc
    have e6 : H 6 m = 0 := by
      by_cases q : H 6 m = 0
      · exact q
      · rw [if_neg q] at hc
        split at hc <;> omega
    exact Or.inl ⟨rfl, h1, h2, e6, h0 e6⟩
  · have hc : (if H 6 m = 0 then (0 : Int) else if H 7 m = 0 then 1 else 2) = 1 := hc
    have e7 : H 7 m = 0 := by
      by_cases q : H 6 m = 0
      · exact h0 q
      · rw [if_neg q] at hc
        by_cases q7 : H 7 m = 0
        · exact q7
        · rw [if_neg q7] at hc
          omega
    exact Or.inr (Or.inl ⟨rfl, h1, e7⟩)
  · exact Or.inr (Or.inr h1)
theorem q_all9 (h : qARG as v w) (hc : qCnt (H 6 m) (H 7 m) = as.length) (h0 : H 6 m = 0 → H 7 m = 0) (p : QV × Int → Bool) (pn : p (qNull, 0) = true) : (as.zip [H 6 m, H 7 m]).all p = true ↔ (p (v, H 6 m) = true ∧ p (w, H 7 m) = true) := by
  rcases q_types9 h hc h0 with ⟨rfl, rfl, rfl, e6, e7⟩ | ⟨rfl, rfl, e7⟩ | rfl
  · rw [e6, e7]
    exact ⟨fun _ => ⟨pn, pn⟩, fun _ => rfl⟩
  · rw [e7]
    show (p (v, H 6 m) && true) = true ↔ _
    rw [Bool.and_true]
    exact ⟨fun z => ⟨z, pn⟩, fun z => z.1⟩
  · show (p (v, H 6 m) && (p (w, H 7 m) && true)) = true ↔ _
    rw [Bool.and_true, Bool.and_eq_true]
theorem q_sum9 (h : qARG as v w) (hc : qCnt (H 6 m) (H 7 m) = as.length) (h0 : H 6 m = 0 → H 7 m = 0) : ((as.zip [H 6 m, H 7 m]).map (fun z => qWei H z.1 z.2)).foldl (· + ·) 0 = qWei H v (H 6 m) + qWei H w (H 7 m) := by
  rcases q_types9 h hc h0 with ⟨rfl, rfl, rfl, e6, e7⟩ | ⟨rfl, rfl, e7⟩ | rfl
  · rw [e6, e7]; rfl
  · rw [e7, qWei_n9]
    show (0 : Int) + qWei H v (H 6 m) = _
    omega
  · show (0 : Int) + qWei H v (H 6 m) + qWei H w (H 7 m) = _
    omega
theorem q_ite9 {α : Type} {p q : Prop} [Decidable p] [Decidable q] {x y u t : α} (h : p ↔ q) (h1 : x = u) (h2 : y = t) : (if p then x else y) = (if q then u else t) := by
  by_cases z : p
  · rw [if_pos z, if_pos (h.mp z), h1]
  · rw [if_neg z, if_neg (fun e => z (h.mpr e)), h2]
/-- a method's suit, by two values -/
theorem qSuit_9 (h : qARG as v w) (hc : qCnt (H 6 m) (H 7 m) = as.length) (h0 : H 6 m = 0 → H 7 m = 0) : qSuit H m as = if v.1 = H 6 m ∧ w.1 = H 7 m then -1 else if qFits H v (H 6 m) = true ∧ qFits H w (H 7 m) = true then qWei H v (H 6 m) + qWei H w (H 7 m) else if (qFits H v (H 6 m) || qReach H v (H 6 m)) = true ∧ (qFits H w (H 7 m) || qReach H w (H 7 m)) = true then 1000 else 2000 := by
  unfold qSuit
  refine q_ite9 ((q_all9 h hc h0 (fun z => decide (z.1.1 = z.2)) rfl).trans ?_) rfl (q_ite9 (q_all9 h hc h0 (fun z => qFits H z.1 z.2) qFits_n9) (q_sum9 h hc h0) (q_ite9 (q_all9 h hc h0 (fun z => qFits H z.1 z.2 || qReach H z.1 z.2) ?_) rfl rfl))
  · show (decide (v.1 = H 6 m) = true ∧ decide (w.1 = H 7 m) = true) ↔ _
    rw [decide_eq_true_iff, decide_eq_true_iff]
  · show (qFits H qNull 0 || qReach H qNull 0) = true
    rw [qFits_n9]; rfl
theorem qWei_b9 {t : Int} (hf : qFits H v t = true) : 0 ≤ qWei H v t ∧ qWei H v t ≤ 16 := by
  have hf := of_decide_eq_true hf
  have z := qSteps_b9 (H := H) (u := t - 8) (v.1 - 8)
  unfold qWei
  by_cases q1 : v.1 = t ∨ v.1 = 0
  · rw [if_pos q1]; omega
  · rw [if_neg q1]
    by_cases q2 : t = 5
    · rw [if_pos q2]; omega
    · rw [if_neg q2]; omega
/-- what a method's suit may be -/
theorem qSuit_b9 (h : qARG as v w) (hc : qCnt (H 6 m) (H 7 m) = as.length) (h0 : H 6 m = 0 → H 7 m = 0) : (qSuit H m as = -1 ∧ v.1 = H 6 m ∧ w.1 = H 7 m) ∨ (¬ (v.1 = H 6 m ∧ w.1 = H 7 m) ∧ qFits H v (H 6 m) = true ∧ qFits H w (H 7 m) = true ∧ qSuit H m as = qWei H v (H 6 m) + qWei H w (H 7 m) ∧ 0 ≤ qSuit H m as ∧ qSuit H m as ≤ 32) ∨ (¬ (v.1 = H 6 m ∧ w.1 = H 7 m) ∧ ¬ (qFits H v (H 6 m) = true ∧ qFits H w (H 7 m) = true) ∧ ((qSuit H m as = 1000 ∧ (qFits H v (H 6 m) || qReach H v (H 6 m)) = true ∧ (qFits H w (H 7 m) || qReach H w (H 7 m)) = true) ∨ (qSuit H m as = 2000 ∧ ¬ ((qFits H v (H 6 m) || qReach H v (H 6 m)) = true ∧ (qFits H w (H 7 m) || qReach H w (H 7 m)) = true)))) := by
  rw [qSuit_9 h hc h0]
  by_cases q1 : v.1 = H 6 m ∧ w.1 = H 7 m
  · rw [if_pos q1]; exact Or.inl ⟨rfl, q1⟩
  · rw [if_neg q1]
    by_cases q2 : qFits H v (H 6 m) = true ∧ qFits H w (H 7 m) = true
    · rw [if_pos q2]
      have b1 := qWei_b9 q2.1
      have b2 := qWei_b9 q2.2
      exact Or.inr (Or.inl ⟨q1, q2.1, q2.2, rfl, by omega, by omega⟩)
    · rw [if_neg q2]
      refine Or.inr (Or.inr ⟨q1, q2, ?_⟩)
      by_cases q3 : (qFits H v (H 6 m) || qReach H v (H 6 m)) = true ∧ (qFits H w (H 7 m) || qReach H w (H 7 m)) = true
      · rw [if_pos q3]; exact Or.inl ⟨rfl, q3⟩
      · rw [if_neg q3]; exact Or.inr ⟨rfl, q3⟩
theorem qBest_s9 {l : List Nat} {b : Int × Int × Int} : qBest H as (l ++ [m]) b = (if qSuit H m as < (qBest H as l b).2.1 then ((m : Int), qSuit H m as, (qBest H as l b).2.2 + if qSuit H m as = 1000 then 1 else 0) else ((qBest H as l b).1, (qBest H as l b).2.1, (qBest H as l b).2.2 + if qSuit H m as = 1000 then 1 else 0)) := by
  rw [qBest_app]; rfl
/-- nothing suits better than exactly -/
theorem qBest_e9 (hb : ∀ j ∈ l2, -1 ≤ qSuit H j as) : ∀ {b : Int × Int × Int}, b.2.1 = -1 → (qBest H as l2 b).1 = b.1 ∧ (qBest H as l2 b).2.1 = -1 := by
  induction l2 with
  | nil => exact fun h => ⟨rfl, h⟩
  | cons x t ih =>
    intro b h
    have z := hb x (List.mem_cons_self)
    have e : qBest H as (x :: t) b = qBest H as t (b.1, b.2.1, b.2.2 + if qSuit H x as = 1000 then 1 else 0) := by
      show qBest H as t (if qSuit H x as < b.2.1 then _ else _) = _
      rw [if_neg (by omega)]
    rw [e]
    exact ih (fun j hj => hb j (List.mem_cons_of_mem _ hj)) (b := (b.1, b.2.1, b.2.2 + if qSuit H x as = 1000 then 1 else 0)) h
theorem q_sp9 : ∀ (l : List Nat) (i : Nat), i < l.length → l = l.take i ++ l.getD i 0 :: l.drop (i + 1)
  | [], i, h => absurd h (Nat.not_lt_zero _)
  | x :: t, 0, _ => rfl
  | x :: t, i + 1, h => congrArg (x :: ·) (q_sp9 t i (Nat.lt_of_succ_lt_succ h))
theorem q_tk9 : ∀ (l : List Nat) (i : Nat), i < l.length → l.take (i + 1) = l.take i ++ [l.getD i 0]
  | [], i, h => absurd h (Nat.not_lt_zero _)
  | x :: t, 0, _ => rfl
  | x :: t, i + 1, h => congrArg (x :: ·) (q_tk9 t i (Nat.lt_of_succ_lt_succ h))
theorem q_mem9 : ∀ (l : List Nat) (i : Nat), i < l.length → l.getD i 0 ∈ l
  | [], i, h => absurd h (Nat.not_lt_zero _)
  | x :: t, 0, _ => List.mem_cons_self
  | x :: t, i + 1, h => List.mem_cons_of_mem _ (q_mem9 t i (Nat.lt_of_succ_lt_succ h))
/-- the best is the least of all -/
theorem qBest_m9 : ∀ (p : List Nat) (b : Int × Int × Int), (∀ j ∈ p, (qBest H as p b).2.1 ≤ qSuit H j as) ∧ (qBest H as p b).2.1 ≤ b.2.1 ∧ b.2.2 ≤ (qBest H as p b).2.2 ∧ ((qBest H as p b).2.1 = b.2.1 ∨ ∃ j ∈ p, (qBest H as p b).2.1 = qSuit H j as)
  | [], b => ⟨fun j hj => absurd hj List.not_mem_nil, Int.le_refl _, Int.le_refl _, Or.inl rfl⟩
  | x :: t, b => by
    have z := qBest_m9 t (if qSuit H x as < b.2.1 then ((x : Int), qSuit H x as, b.2.2 + if qSuit H x as = 1000 then 1 else 0) else (b.1, b.2.1, b.2.2 + if qSuit H x as = 1000 then 1 else 0))
    have e : qBest H as (x :: t) b = qBest H as t (if qSuit H x as < b.2.1 then ((x : Int), qSuit H x as, b.2.2 + if qSuit H x as = 1000 then 1 else 0) else (b.1, b.2.1, b.2.2 + if qSuit H x as = 1000 then 1 else 0)) := rfl
    have w : b.2.2 ≤ b.2.2 + (if qSuit H x as = 1000 then 1 else 0 : Int) := by split <;> omega
    rw [e]
    by_cases q : qSuit H x as < b.2.1
    · rw [if_pos q] at z ⊢
      obtain ⟨z1, z2, z3, z4⟩ := z
      have z2 : _ ≤ qSuit H x as := z2
      have z3 : b.2.2 + (if qSuit H x as = 1000 then 1 else 0 : Int) ≤ _ := z3
      refine ⟨fun j hj => ?_, Int.le_trans z2 (by omega), Int.le_trans w z3, ?_⟩
      · rcases List.mem_cons.mp hj with rfl | hj
        · exact z2
        · exact z1 j hj
      · rcases z4 with z4 | ⟨j, j1, j2⟩
        · exact Or.inr ⟨x, List.mem_cons_self, z4⟩
        · exact Or.inr ⟨j, List.mem_cons_of_mem _ j1, j2⟩
    · rw [if_neg q] at z ⊢
      obtain ⟨z1, z2, z3, z4⟩ := z
      have z2 : _ ≤ b.2.1 := z2
      have z3 : b.2.2 + (if qSuit H x as = 1000 then 1 else 0 : Int) ≤ _ := z3
      refine ⟨fun j hj => ?_, z2, Int.le_trans w z3, ?_⟩
      · rcases List.mem_cons.mp hj with rfl | hj
        · exact Int.le_trans z2 (by omega)
        · exact z1 j hj
      · rcases z4 with z4 | ⟨j, j1, j2⟩
        · exact Or.inl z4
        · exact Or.inr ⟨j, List.mem_cons_of_mem _ j1, j2⟩
/-- the candidates' parameters are as many as the arguments -/
def qWF (H : QT) (as : List QV) (l : List Nat) : Prop := ∀ m ∈ l, qCnt (H 6 m) (H 7 m) = as.length ∧ (H 6 m = 0 → H 7 m = 0)
theorem qFnd_e9 {l : List Nat} {i : Nat} (h : qARG as v w) (W : qWF H as l) (hi : i < l.length) (hn : ∀ j, j < i → ¬ (v.1 = H 6 (l.getD j 0) ∧ w.1 = H 7 (l.getD j 0))) (he : v.1 = H 6 (l.getD i 0) ∧ w.1 = H 7 (l.getD i 0)) : (qBest H as l (-1, 2000, 0)).1 = (l.getD i 0 : Nat) ∧ (qBest H as l (-1, 2000, 0)).2.1 = -1 := by
  have sb : ∀ m ∈ l, -1 ≤ qSuit H m as := fun m hm => by
    obtain ⟨c1, c2⟩ := W m hm
    rcases qSuit_b9 h c1 c2 with z | z | ⟨_, _, z | z⟩ <;> omega
  have me := q_mem9 l i hi
  have sm : qSuit H (l.getD i 0) as = -1 := by
    obtain ⟨c1, c2⟩ := W _ me
    rcases qSuit_b9 h c1 c2 with z | z | z
    · exact z.1
    · exact absurd he z.1
    · exact absurd he z.1
  have sp := q_sp9 l i hi
  have lb : -1 < (qBest H as (l.take i) (-1, 2000, 0)).2.1 := by
    obtain ⟨_, _, _, z | ⟨j, j1, j2⟩⟩ := qBest_m9 (H := H) (as := as) (l.take i) (-1, 2000, 0)
    · rw [z]; decide
    · rw [j2]
      obtain ⟨k, hk, ek⟩ := List.getElem_of_mem j1
      have hk2 : k < i := by
        rw [List.length_take] at hk
        omega
      have ej : l.getD k 0 = j := by
        rw [← ek, List.getElem_take, List.getD_eq_getElem?_getD, List.getElem?_eq_getElem (by omega)]; rfl
      have mj : j ∈ l := by rw [← ej]; exact q_mem9 l k (by omega)
      obtain ⟨c1, c2⟩ := W j mj
      have nj := hn k hk2
      rw [ej] at nj
      rcases qSuit_b9 h c1 c2 with z | z | ⟨_, _, z | z⟩
      · exact absurd ⟨z.2.1, z.2.2⟩ nj
      all_goals omega
  have e2 : qBest H as l (-1, 2000, 0) = qBest H as (l.drop (i + 1)) (if qSuit H (l.getD i 0) as < (qBest H as (l.take i) (-1, 2000, 0)).2.1 then ((l.getD i 0 : Nat), qSuit H (l.getD i 0) as, (qBest H as (l.take i) (-1, 2000, 0)).2.2 + if qSuit H (l.getD i 0) as = 1000 then 1 else 0) else ((qBest H as (l.take i) (-1, 2000, 0)).1, (qBest H as (l.take i) (-1, 2000, 0)).2.1, (qBest H as (l.take i) (-1, 2000, 0)).2.2 + if qSuit H (l.getD i 0) as = 1000 then 1 else 0)) := by
    conv => lhs; rw [sp]
    rw [qBest_app]; rfl
  rw [if_pos (by omega)] at e2
  rw [e2]
  exact qBest_e9 (fun j hj => sb j (by rw [sp]; exact List.mem_append_right _ (List.mem_cons_of_mem _ hj))) sm
/-- the closest so far -/
def qCLO (H : QT) (as : List QV) (l : List Nat) (i : Nat) (best : Option Nat) (least : Int) : Prop :=
  (best = none ∧ 1000 ≤ (qBest H as (l.take i) (-1, 2000, 0)).2.1) ∨ (∃ m : Nat, best = some m ∧ (qBest H as (l.take i) (-1, 2000, 0)).1 = m ∧ (qBest H as (l.take i) (-1, 2000, 0)).2.1 = least ∧ 0 ≤ least ∧ least ≤ 32)
/-- the only one by converters so far -/
def qCVT (H : QT) (as : List QV) (l : List Nat) (i : Nat) (only : Option Nat) : Prop :=
  (only = none ∧ (qBest H as (l.take i) (-1, 2000, 0)).2.1 = 2000 ∧ (qBest H as (l.take i) (-1, 2000, 0)).2.2 = 0) ∨ (∃ m : Nat, only = some m ∧ (qBest H as (l.take i) (-1, 2000, 0)).1 = m ∧ (qBest H as (l.take i) (-1, 2000, 0)).2.1 = 1000 ∧ (qBest H as (l.take i) (-1, 2000, 0)).2.2 = 1)
theorem qCLO.start9 {l : List Nat} {x : Int} : qCLO H as l 0 none x := Or.inl ⟨rfl, (by decide : (1000 : Int) ≤ 2000)⟩
theorem qCVT.start9 {l : List Nat} : qCVT H as l 0 none := Or.inl ⟨rfl, rfl, rfl⟩
theorem qCLO.step9 {l : List Nat} {i : Nat} {best : Option Nat} {least : Int} (g : qCLO H as l i best least) (h : qARG as v w) (W : qWF H as l) (hi : i < l.length) (hn : ¬ (v.1 = H 6 (l.getD i 0) ∧ w.1 = H 7 (l.getD i 0))) :
    (¬ (qFits H v (H 6 (l.getD i 0)) = true ∧ qFits H w (H 7 (l.getD i 0)) = true) → qCLO H as l (i + 1) best least) ∧
    (qFits H v (H 6 (l.getD i 0)) = true ∧ qFits H w (H 7 (l.getD i 0)) = true → ∀ t : Int, t = qWei H v (H 6 (l.getD i 0)) + qWei H w (H 7 (l.getD i 0)) → (best = none ∨ t < least → qCLO H as l (i + 1) (some (l.getD i 0)) t) ∧ (¬ best = none → ¬ t < least → qCLO H as l (i + 1) best least)) := by
  obtain ⟨c1, c2⟩ := W _ (q_mem9 l i hi)
  have sb := qSuit_b9 h c1 c2
  have tk := q_tk9 l i hi
  have bs := qBest_s9 (H := H) (as := as) (m := l.getD i 0) (l := l.take i) (b := (-1, 2000, 0))
  unfold qCLO at g ⊢
  rw [tk, bs]
  refine ⟨fun hf => ?_, fun hf t ht => ⟨fun hb => ?_, fun hb hl => ?_⟩⟩
  · have s1 : 1000 ≤ qSuit H (l.getD i 0) as := by
      rcases sb with z | z | ⟨_, _, z | z⟩
      · exact absurd z.2 hn
      · exact absurd ⟨z.2.1, z.2.2.1⟩ hf
      all_goals omega
    rcases g with ⟨g1, g2⟩ | ⟨m, g1, g2, g3, g4, g5⟩
    · refine Or.inl ⟨g1, ?_⟩
      split
      · exact s1
      · exact g2
    · refine Or.inr ⟨m, g1, ?_⟩
      rw [if_neg (by omega)]
      exact ⟨g2, g3, g4, g5⟩
  · have s1 : qSuit H (l.getD i 0) as = t ∧ 0 ≤ t ∧ t ≤ 32 := by
      rcases sb with z | z | z
      · exact absurd z.2 hn
      · rw [ht]
        refine ⟨z.2.2.2.1, by omega, by omega⟩
      · exact absurd hf z.2.1
    refine Or.inr ⟨l.getD i 0, rfl, ?_⟩
    rw [if_pos (by
      rcases g with ⟨g1, g2⟩ | ⟨m, g1, g2, g3, g4, g5⟩
      · omega
      · rcases hb with hb | hb
        · rw [g1] at hb; cases hb
        · omega)]
    exact ⟨rfl, s1.1, s1.2.1, s1.2.2⟩
  · have s1 : qSuit H (l.getD i 0) as = t := by
      rcases sb with z | z | z
      · exact absurd z.2 hn
      · rw [ht]; exact z.2.2.2.1
      · exact absurd hf z.2.1
    rcases g with ⟨g1, g2⟩ | ⟨m, g1, g2, g3, g4, g5⟩
    · exact absurd g1 hb
    · refine Or.inr ⟨m, g1, ?_⟩
      rw [if_neg (by omega)]
      exact ⟨g2, g3, g4, g5⟩
theorem qCVT.step9 {l : List Nat} {i : Nat} {only : Option Nat} (g : qCVT H as l i only) (h : qARG as v w) (W : qWF H as l) (hi : i < l.length) (h1000 : ∀ m ∈ l, 1000 ≤ qSuit H m as) :
    (¬ ((qFits H v (H 6 (l.getD i 0)) || qReach H v (H 6 (l.getD i 0))) = true ∧ (qFits H w (H 7 (l.getD i 0)) || qReach H w (H 7 (l.getD i 0))) = true) → qCVT H as l (i + 1) only) ∧
    ((qFits H v (H 6 (l.getD i 0)) || qReach H v (H 6 (l.getD i 0))) = true ∧ (qFits H w (H 7 (l.getD i 0)) || qReach H w (H 7 (l.getD i 0))) = true → (only = none → qCVT H as l (i + 1) (some (l.getD i 0))) ∧ (¬ only = none → (qBest H as l (-1, 2000, 0)).2.1 = 1000 ∧ 1 < (qBest H as l (-1, 2000, 0)).2.2)) := by
  have me := q_mem9 l i hi
  obtain ⟨c1, c2⟩ := W _ me
  have sb := qSuit_b9 h c1 c2
  have s0 := h1000 _ me
  have tk := q_tk9 l i hi
  have bs := qBest_s9 (H := H) (as := as) (m := l.getD i 0) (l := l.take i) (b := (-1, 2000, 0))
  have sp := q_sp9 l i hi
  have bl : qBest H as l (-1, 2000, 0) = qBest H as (l.drop (i + 1)) (qBest H as (l.take (i + 1)) (-1, 2000, 0)) := by
    conv => lhs; rw [← List.take_append_drop (i + 1) l]
    rw [qBest_app]
  unfold qCVT at g ⊢
  refine ⟨fun hf => ?_, fun hf => ⟨fun hb => ?_, fun hb => ?_⟩⟩
  · have s1 : qSuit H (l.getD i 0) as = 2000 := by
      rcases sb with z | z | ⟨_, _, z | z⟩
      · omega
      · omega
      · exact absurd z.2 hf
      · exact z.1
    rw [tk, bs, s1]
    rcases g with ⟨g1, g2, g3⟩ | ⟨m, g1, g2, g3, g4⟩
    · refine Or.inl ⟨g1, ?_⟩
      rw [if_neg (by omega), if_neg (by decide)]
      exact ⟨g2, by show _ + (0 : Int) = 0; omega⟩
    · refine Or.inr ⟨m, g1, ?_⟩
      rw [if_neg (by omega), if_neg (by decide)]
      exact ⟨g2, g3, by show _ + (0 : Int) = 1; omega⟩
  all_goals
    have s1 : qSuit H (l.getD i 0) as = 1000 := by
      rcases sb with z | z | ⟨_, _, z | z⟩
      · omega
      · omega
      · exact z.1
      · exact absurd hf z.2
  · rw [tk, bs, s1]
    rcases g with ⟨g1, g2, g3⟩ | ⟨m, g1, g2, g3, g4⟩
    · refine Or.inr ⟨l.getD i 0, rfl, ?_⟩
      rw [if_pos (by omega), if_pos rfl]
      exact ⟨rfl, rfl, by show _ + (1 : Int) = 1; omega⟩
    · rw [g1] at hb; cases hb
  · rcases g with ⟨g1, g2, g3⟩ | ⟨m, g1, g2, g3, g4⟩
    · exact absurd g1 hb
    · have e1 : (qBest H as (l.take (i + 1)) (-1, 2000, 0)).2.1 = 1000 ∧ (qBest H as (l.take (i + 1)) (-1, 2000, 0)).2.2 = 2 := by
        rw [tk, bs, s1, if_neg (by omega), if_pos rfl]
        exact ⟨g3, by show _ + (1 : Int) = 2; omega⟩
      rw [bl]
      obtain ⟨m1, m2, m3, m4⟩ := qBest_m9 (H := H) (as := as) (l.drop (i + 1)) (qBest H as (l.take (i + 1)) (-1, 2000, 0))
      refine ⟨?_, by omega⟩
      rcases m4 with m4 | ⟨j, j1, j2⟩
      · omega
      · have := h1000 j (by rw [sp]; exact List.mem_append_right _ (List.mem_cons_of_mem _ j1))
        omega
theorem qFind_f9 {c n0 : Int} (hl : l1 = qCands H n0 as.length [] (qMeth H (qAnc H c))) : ((qBest H as l1 (-1, 2000, 0)).2.1 = 2000 → qFind H c n0 as = .inr 8) ∧ ((qBest H as l1 (-1, 2000, 0)).2.1 = 1000 → 1 < (qBest H as l1 (-1, 2000, 0)).2.2 → qFind H c n0 as = .inr 7) ∧ (¬ (qBest H as l1 (-1, 2000, 0)).2.1 = 2000 → ¬ ((qBest H as l1 (-1, 2000, 0)).2.1 = 1000 ∧ 1 < (qBest H as l1 (-1, 2000, 0)).2.2) → qFind H c n0 as = .inl (qBest H as l1 (-1, 2000, 0)).1.toNat) := by
  have e : qFind H c n0 as = if (qBest H as l1 (-1, 2000, 0)).2.1 = 2000 then .inr 8 else if (qBest H as l1 (-1, 2000, 0)).2.1 = 1000 ∧ 1 < (qBest H as l1 (-1, 2000, 0)).2.2 then .inr 7 else .inl (qBest H as l1 (-1, 2000, 0)).1.toNat := by rw [hl]; rfl
  refine ⟨fun h => ?_, fun h g => ?_, fun h g => ?_⟩
  · rw [e, if_pos h]
  · rw [e, if_neg (by omega), if_pos ⟨h, g⟩]
  · rw [e, if_neg h, if_neg g]
theorem q_ga9 : ∀ (l t : List Nat) (i : Nat), i < l.length → (l ++ t).getD i 0 = l.getD i 0
  | [], t, i, h => absurd h (Nat.not_lt_zero _)
  | x :: l, t, 0, _ => rfl
  | x :: l, t, i + 1, h => q_ga9 l t i (Nat.lt_of_succ_lt_succ h)
theorem q_gb9 : ∀ l : List Nat, (l ++ [m]).getD l.length 0 = m
  | [] => rfl
  | x :: l => q_gb9 l
theorem q_any9 {p : Nat → Bool} : ∀ l : List Nat, (∀ i : Nat, i < l.length → p (l.getD i 0) = false) → l.any p = false
  | [], _ => rfl
  | x :: l, h => by
    have z := q_any9 l (fun i hi => h (i + 1) (Nat.succ_lt_succ hi))
    have y : p x = false := h 0 (Nat.succ_pos _)
    show (p x || l.any p) = false
    rw [y, z]; rfl
theorem q_anyt9 {p : Nat → Bool} {l : List Nat} {i : Nat} (hi : i < l.length) (h : p (l.getD i 0) = true) : l.any p = true := List.any_eq_true.mpr ⟨_, q_mem9 l i hi, h⟩
theorem CDq.app9 {F : Nat → Option Nat} {n n2 : Int} {l : List Nat} {x z : Nat} (h : CDq P H F n l) (hx : oT P x = 5) (R : RTq P H x m) (hl : l.length < 30) (hn : n2 = n + 1) (hz : z = n.toNat) : CDq P H (va_up F z (some x)) n2 (l ++ [m]) := by
  obtain ⟨h1, h2, h3⟩ := h
  have el : (l ++ [m]).length = l.length + 1 := by rw [List.length_append]; rfl
  refine ⟨by rw [el]; omega, by omega, fun i hi => ?_⟩
  by_cases q : i = l.length
  · subst q
    refine ⟨x, ?_, hx, by rw [q_gb9]; exact R⟩
    rw [show l.length = z by omega]
    exact vu_eq
  · obtain ⟨y, y1, y2, y3⟩ := h3 i (by omega)
    exact ⟨y, (vu_ne (by omega)).trans y1, y2, by rw [q_ga9 l [m] i (by omega)]; exact y3⟩
end FNDs
