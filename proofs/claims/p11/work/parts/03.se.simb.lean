/-! ===== the reader, rule by rule: first, member, chain ===== -/
theorem KT.mono {Q : PSt → Prop} {r : GR} {o o2 : Int → Bool → IS → Prop} (h : KT Q r o) (ho : ∀ a m k, o a m k → o2 a m k) : KT Q r o2 := by
  cases r with
  | inl x => exact ho _ _ _ h
  | inr x => exact h
section SIM1
variable {tk tv ta sc : Nat → Int} {S n : Nat} {T N Pl : Int → Int} {Lt : Int → Int × Int} {Q : PSt → Prop} {c c0 c1 c2 c3 : PSt} {f w p0 g : Nat} {a a1 a2 b e x p l l1 d d1 cc : Int} {m m1 m2 s : Bool} {k k1 k2 : IS} {r : GR}
theorem mis_go (hT : TOK tk tv ta sc n T N Pl Lt) (h : xer c = 0) (hn : xnx c < n) (ha : (xnx c : Int) = a) (hq : ∀ c1, xer c1 = 2 → xwh c1 = Pl a → Q c1) : EE tk tv ta sc S Q (misC ta c) := by
  unfold misC
  refine EE_w (by decide) h (fun c1 h1 h2 => hq c1 h1 ?_)
  rw [h2, ← ha, hT.pl hn]
theorem tgt_n {y : Int × Int} {i : Nat} (h : ¬ isJ y.1) : tgt y i = y.2 := if_neg h
theorem tgt_j {y : Int × Int} {i : Nat} (h : isJ y.1) : tgt y i = (i : Int) + y.2 := if_pos h
/-- one place laid behind, and a token passed -/
theorem ch_one {sq v y : Int} (hp : PreC n f c0 a) (h : PreC n f c a) (hc : c = c0) (hnx : xnx c + 1 < n) (hj : ¬ isJ sq) (hb : b = a + 1) (hy : m = true ↔ ¬ y = 0) : ChP S n f c (rdyC (skC (emitC S c sq v)) y) b m [(sq, v)] := by
  obtain ⟨h1, h2, h3, h4, h5, h6, h7⟩ := h
  have ef : xfr c - 1 = f := by omega
  refine ⟨h1, h2, rfl, ?_, hnx, ⟨rfl, ((KQ.emit (Nat.le_refl _)).tr KQ.sk (Nat.le_refl _) (Nat.le_refl _) (Nat.le_refl _)).tr (KQ.rdy (show f ≤ xfr c - 1 by omega)) (Nat.le_refl _) (Nat.le_refl _) (Nat.le_refl _), ⟨rfl, rfl, rfl, rfl, rfl⟩⟩, rfl, rfl, SEG.one uz_eq (uz_eq.trans (tgt_n (y := (sq, v)) hj).symm), rfl, rfl, h7, ?_⟩
  · show ((xnx c + 1 : Nat) : Int) = b
    omega
  · show m = true ↔ ¬ uz (xam c) (xfr c - 1) y f = 0
    rw [ef, uz_eq]; exact hy
theorem S_first_l (hT : TOK tk tv ta sc n T N Pl Lt) (h1 : T a = 1) (hb : b = a + 1) : Q7 tk tv ta sc S n T d a (.inl (b, false, [Lt a])) := by
  intro Q c f hd hp hs hk
  obtain ⟨q1, q2, q3, q4, q5, q6, q7⟩ := id hp
  subst q5
  unfold fstC
  rw [if_pos ((hT.li q6).mp h1)]
  refine hk _ ?_
  rw [hT.lt q6 h1]
  exact ch_one hp hp rfl (hT.nx q6 (by omega)) (hT.lj q6 h1) hb (by simp)
theorem S_first_v (hT : TOK tk tv ta sc n T N Pl Lt) (h1 : T a = 35) (hb : b = a + 1) (h2 : T b = 2) (hcc : cc = b + 1) : Q7 tk tv ta sc S n T d a (.inl (cc, true, [(9, N b)])) := by
  intro Q c f hd hp hs hk
  obtain ⟨q1, q2, q3, q4, q5, q6, q7⟩ := id hp
  subst q5
  have n1 := hT.nx q6 (by omega)
  have e1 : ((xnx c + 1 : Nat) : Int) = b := by omega
  have z1 := (hT.sg q6 (ch := 35) (by decide)).mp h1
  have z2 : tk (xnx c + 1) = 3 := (hT.nm n1).mp (by rw [e1]; exact h2)
  have z3 := hT.nv n1 (by rw [e1]; exact h2)
  rw [e1] at z3
  unfold fstC
  rw [if_neg (by omega), if_neg (by omega), if_neg (by omega), if_neg (by omega), if_pos z1, if_pos z2, ← z3]
  refine hk _ ?_
  have n3 : ¬ T ((xnx c + 1 : Nat) : Int) = 0 := by rw [e1]; omega
  exact ch_one (c := skC c) (a := b) (c0 := skC c) ⟨q1, q2, q3, q4, e1, n1, q7⟩ ⟨q1, q2, q3, q4, e1, n1, q7⟩ rfl (hT.nx n1 n3) (by decide) hcc (by simp)
theorem S_first_vx (hT : TOK tk tv ta sc n T N Pl Lt) (h1 : T a = 35) (hb : b = a + 1) (h2 : ¬ T b = 2) (hp0 : p = Pl b) : Q7 tk tv ta sc S n T d a (.inr (2, p)) := by
  intro Q c f hd hp hs hk
  obtain ⟨q1, q2, q3, q4, q5, q6, q7⟩ := id hp
  subst q5
  have n1 := hT.nx q6 (by omega)
  have e1 : ((xnx c + 1 : Nat) : Int) = b := by omega
  have z1 := (hT.sg q6 (ch := 35) (by decide)).mp h1
  have z2 : ¬ tk (xnx c + 1) = 3 := fun h => h2 (by rw [← e1]; exact (hT.nm n1).mpr h)
  unfold fstC
  rw [if_neg (by omega), if_neg (by omega), if_neg (by omega), if_neg (by omega), if_pos z1, if_neg z2]
  exact mis_go (c := skC c) hT q1 n1 e1 (fun c1 k1 k2 => hk c1 k1 (k2.trans hp0.symm))
theorem S_first_x (hT : TOK tk tv ta sc n T N Pl Lt) (h1 : ¬ T a = 1) (h2 : ¬ T a = 35) (h3 : ¬ T a = 40) (h4 : ¬ T a = 2) (hp0 : p = Pl a) : Q7 tk tv ta sc S n T d a (.inr (2, p)) := by
  intro Q c f hd hp hs hk
  obtain ⟨q1, q2, q3, q4, q5, q6, q7⟩ := id hp
  subst q5
  have ef : xfr c - 1 = f := by omega
  have z0 := (hT.li q6)
  have z1 := (hT.sg q6 (ch := 35) (by decide))
  have z2 := (hT.sg q6 (ch := 40) (by decide))
  have z3 := (hT.nm q6)
  have z4 := (hT.sg q6 (ch := 45) (by decide))
  have z5 := (hT.sg q6 (ch := 33) (by decide))
  unfold fstC
  rw [ef, if_neg (by omega), if_neg (by omega), if_neg (by
    rintro ⟨k1, k2⟩
    have := hs k1
    omega), if_neg (by omega), if_neg (by omega)]
  exact mis_go hT q1 q6 rfl (fun c1 k1 k2 => hk c1 k1 (k2.trans hp0.symm))
theorem S_first_b (hT : TOK tk tv ta sc n T N Pl Lt) (h1 : T a = 40) (hb : b = a + 1) (h2 : Q8 tk tv ta sc S n d b r) : Q7 tk tv ta sc S n T d a r := by
  intro Q c f hd hp hs hk
  obtain ⟨q1, q2, q3, q4, q5, q6, q7⟩ := id hp
  subst q5
  have n1 := hT.nx q6 (by omega)
  have e1 : ((xnx c + 1 : Nat) : Int) = b := by omega
  have z1 := (hT.sg q6 (ch := 40) (by decide)).mp h1
  unfold fstC
  rw [if_neg (by omega), if_neg (by omega), if_neg (by omega), if_pos z1]
  exact h2 Q (skC c) f hd ⟨q1, q2, q3, q4, e1, n1, q7⟩ hk
theorem S_first_n (hT : TOK tk tv ta sc n T N Pl Lt) (h1 : T a = 2) (h2 : Q9 tk tv ta sc S n T d a r) : Q7 tk tv ta sc S n T d a r := by
  intro Q c f hd hp hs hk
  obtain ⟨q1, q2, q3, q4, q5, q6, q7⟩ := id hp
  have z1 : tk (xnx c) = 3 := (hT.nm q6).mp (by rw [q5]; exact h1)
  unfold fstC
  rw [if_neg (by omega), if_pos z1]
  exact h2 Q c f hd hp h1 hk
theorem S_named_k (hT : TOK tk tv ta sc n T N Pl Lt) (h1 : KW (N a)) (hb : b = a + 1) : Q9 tk tv ta sc S n T d a (.inl (b, false, [(kwop (N a), 0)])) := by
  intro Q c f hd hp h2 hk
  obtain ⟨q1, q2, q3, q4, q5, q6, q7⟩ := id hp
  subst q5
  have z3 := hT.nv q6 h2
  unfold worC
  rw [← z3, if_pos h1]
  refine hk _ ?_
  exact ch_one (c := c) hp hp rfl (hT.nx q6 (by omega)) (by unfold kwop; (repeat' split) <;> decide) hb (by simp)
theorem S_named_e (hT : TOK tk tv ta sc n T N Pl Lt) (h1 : ¬ KW (N a)) (h3 : QA tk tv ta sc S n T N false d a (.inr (x, p))) : Q9 tk tv ta sc S n T d a (.inr (x, p)) := by
  intro Q c f hd hp h2 hk
  obtain ⟨q1, q2, q3, q4, q5, q6, q7⟩ := id hp
  subst q5
  have z3 := hT.nv q6 h2
  unfold worC
  rw [← z3, if_neg h1]
  exact h3 Q (emitC S (skC c) 10 0) f hd ⟨q1, q2, q3, q4, rfl, hT.nx q6 (by omega), q7⟩ h2 hk
theorem S_named_m (hT : TOK tk tv ta sc n T N Pl Lt) (h1 : ¬ KW (N a)) (h3 : QA tk tv ta sc S n T N false d a (.inl (a1, m, k))) : Q9 tk tv ta sc S n T d a (.inl (a1, m, (10, 0) :: k)) := by
  intro Q c f hd hp h2 hk
  obtain ⟨q1, q2, q3, q4, q5, q6, q7⟩ := id hp
  subst q5
  have z3 := hT.nv q6 h2
  unfold worC
  rw [← z3, if_neg h1]
  refine h3 Q (emitC S (skC c) 10 0) f hd ⟨q1, q2, q3, q4, rfl, hT.nx q6 (by omega), q7⟩ h2 (fun c1 hc => hk c1 ?_)
  obtain ⟨k1, k2, k3, k4, k5, k6, k7, k8, k9, k10, k11, k12, k13⟩ := hc
  have kk : KP f (xwa c) (S + xwr c) c (emitC S (skC c) 10 0) := ⟨rfl, KQ.sk.tr (KQ.emit (c := skC c) (Nat.le_refl _)) (Nat.le_refl _) (Nat.le_refl _) (Nat.le_refl _), ⟨rfl, rfl, rfl, rfl, rfl⟩⟩
  have k6b := k6.2.1.2.2.2.2 (S + xwr c) (by show S + xwr c < S + (xwr c + 1); omega)
  refine ⟨k1, k2, k3, k4, k5, kk.tr k6 (Nat.le_refl _) (by show S + xwr c ≤ S + (xwr c + 1); omega), k7, ?_, ⟨k6b.1.trans uz_eq, k6b.2.trans (uz_eq.trans (tgt_n (y := (10, 0)) (by decide)).symm), k9⟩, k10, k11, k12, k13⟩
  have k8 : xwr c1 = xwr c + 1 + k.length := k8
  show xwr c1 = xwr c + (k.length + 1)
  omega
theorem S_chain_e (h : Q7 tk tv ta sc S n T d a (.inr (x, p))) : Q5 tk tv ta sc S n T d a (.inr (x, p)) := by
  intro Q c f hd hp ho hs hk
  exact EE_f hp.1 hp.2.1 (by have := hp.2.2.1; omega) ho (h Q c f hd hp hs hk)
theorem S_chain_l (h : Q7 tk tv ta sc S n T d a (.inl (a1, m, k))) (h2 : Q6 tk tv ta sc S n T m k d a1 r) : Q5 tk tv ta sc S n T d a r := by
  intro Q c f hd hp ho hs hk
  exact EE_f hp.1 hp.2.1 (by have := hp.2.2.1; omega) ho (h Q c f hd hp hs (fun c1 hc => h2 Q c c1 f hd hp.2.2.1 hp.2.2.2.1 hc hk))
theorem S_chl_0 (h1 : ¬ T a = 16174) (h2 : ¬ T a = 46) : Q6 tk tv ta sc S n T m k d a (.inl (a, m, k)) := by
  intro Q c0 c1 f hd hf hf4 hc hk
  exact hk c1 hc h1 h2
theorem ch_beh (hT : TOK tk tv ta sc n T N Pl Lt) (hf : xfr c0 = f + 1) (hc : ChP S n f c0 c1 a m k) (ha : T a = 16174 ∨ T a = 46) (hq : EE tk tv ta sc S Q (sufC tk tv ta S c1)) : EE tk tv ta sc S Q c1 := by
  obtain ⟨k1, k2, k3, k4, k5, k6, k7, k8, k9, k10, k11, k12, k13⟩ := hc
  subst k4
  have hf1 : xfr c1 = f + 1 := k6.1.trans hf
  have z1 := (hT.sg k5 (ch := 16174) (by decide))
  have z2 := (hT.sg k5 (ch := 46) (by decide))
  refine EE_b k1 k2 (by omega) k3 ?_
  unfold behC
  rw [show xfr c1 - 1 = f by omega, if_neg (by omega), if_pos (by omega)]
  exact hq
theorem S_chl_x (hT : TOK tk tv ta sc n T N Pl Lt) (h1 : T a = 16174 ∨ T a = 46) (hb : b = a + 1) (h2 : ¬ T b = 2) (hp0 : p = Pl b) : Q6 tk tv ta sc S n T m k d a (.inr (2, p)) := by
  intro Q c0 c1 f hd hf hf4 hc hk
  refine ch_beh hT hf hc h1 ?_
  obtain ⟨k1, k2, k3, k4, k5, k6, k7, k8, k9, k10, k11, k12, k13⟩ := hc
  subst k4
  have n1 := hT.nx k5 (by omega)
  have e1 : ((xnx c1 + 1 : Nat) : Int) = b := by omega
  unfold sufC
  rw [if_neg (fun h => h2 (by rw [← e1]; exact (hT.nm n1).mpr h))]
  exact mis_go (c := skC c1) hT k1 n1 e1 (fun c1 k1 k2 => hk c1 k1 (k2.trans hp0.symm))
theorem suf_is (hT : TOK tk tv ta sc n T N Pl Lt) (hn : xnx c1 < n) (ha : (xnx c1 : Int) = a) (hs : (T a = 16174 ∧ s = true) ∨ (T a = 46 ∧ s = false)) (hb : b = a + 1) (h2 : T b = 2) : sufC tk tv ta S c1 = namC tk tv ta S (skC (skC c1)) (N b) (if s then 1 else 0) ∧ xnx c1 + 1 < n ∧ xnx c1 + 1 + 1 < n := by
  subst ha
  have n1 := hT.nx hn (by omega)
  have e1 : ((xnx c1 + 1 : Nat) : Int) = b := by omega
  rw [← e1] at h2
  have z := hT.nv n1 h2
  rw [e1] at z
  have z1 := (hT.sg hn (ch := 16174) (by decide))
  refine ⟨?_, n1, hT.nx n1 (by omega)⟩
  unfold sufC
  rw [if_pos ((hT.nm n1).mp h2), z]
  congr 1
  rcases hs with ⟨k1, k2⟩ | ⟨k1, k2⟩
  · rw [if_pos (z1.mp k1), k2]; rfl
  · rw [if_neg (fun h => by have := z1.mpr h; omega), k2]; rfl
theorem S_chl_e (hT : TOK tk tv ta sc n T N Pl Lt) (h1 : (T a = 16174 ∧ s = true) ∨ (T a = 46 ∧ s = false)) (hb : b = a + 1) (h2 : T b = 2) (h3 : QA tk tv ta sc S n T N s d b (.inr (x, p))) : Q6 tk tv ta sc S n T m k d a (.inr (x, p)) := by
  intro Q c0 c1 f hd hf hf4 hc hk
  refine ch_beh hT hf hc (by omega) ?_
  obtain ⟨k1, k2, k3, k4, k5, k6, k7, k8, k9, k10, k11, k12, k13⟩ := hc
  obtain ⟨z1, z2, z3⟩ := suf_is (S := S) hT k5 k4 h1 hb h2
  rw [z1]
  exact h3 Q (skC (skC c1)) f hd ⟨k1, k2, k6.1.trans hf, hf4, by show ((xnx c1 + 1 + 1 : Nat) : Int) = b + 1; omega, z3, k12⟩ h2 hk
theorem ChP.tr (h : ChP S n f c0 c1 a m k) (h2 : ChP S n f c1 c2 a1 m1 k1) : ChP S n f c0 c2 a1 m1 (k ++ k1) := by
  obtain ⟨a1, a2, a3, a4, a5, a6, a7, a8, a9, a10, a11, a12, a13⟩ := h
  obtain ⟨b1, b2, b3, b4, b5, b6, b7, b8, b9, b10, b11, b12, b13⟩ := h2
  refine ⟨b1, b2, b3, b4, b5, a6.tr b6 (by omega) (by omega), b7.trans a7, by rw [List.length_append]; omega, SEG.app.mpr ⟨a9.keep (fun j j1 j2 => b6.2.1.2.2.2.2 j (by omega)), ?_⟩, b10.trans a10, b11.trans a11, b12, b13⟩
  rw [show S + xwr c0 + k.length = S + xwr c1 by omega]; exact b9
theorem S_chl_m (hT : TOK tk tv ta sc n T N Pl Lt) (h1 : (T a = 16174 ∧ s = true) ∨ (T a = 46 ∧ s = false)) (hb : b = a + 1) (h2 : T b = 2) (h3 : QA tk tv ta sc S n T N s d b (.inl (a1, m1, k1))) (h4 : Q6 tk tv ta sc S n T m1 (k ++ k1) d a1 r) : Q6 tk tv ta sc S n T m k d a r := by
  intro Q c0 c1 f hd hf hf4 hc hk
  refine ch_beh hT hf hc (by omega) ?_
  obtain ⟨k1, k2, k3, k4, k5, k6, k7, k8, k9, k10, k11, k12, k13⟩ := id hc
  obtain ⟨z1, z2, z3⟩ := suf_is (S := S) hT k5 k4 h1 hb h2
  rw [z1]
  exact h3 Q (skC (skC c1)) f hd ⟨k1, k2, k6.1.trans hf, hf4, by show ((xnx c1 + 1 + 1 : Nat) : Int) = b + 1; omega, z3, k12⟩ h2 (fun c2 hc2 => h4 Q c0 c2 f hd hf hf4 (hc.tr hc2) hk)
end SIM1
