/-! ===== the reference's parser: what holds between its methods ===== -/
def dlt (x : Int32) : Int := if x.toInt ≤ 2 then 0 else 1
def und (B : Int) (g : Nat → Int) (lv : Nat → Int32) (b w : Nat) : Int := if w ≤ b then B else g (w - 1) + dlt (lv (w - 1))
def jh (s h : Int) : Int := if s = 35 then h - 1 else h
def isj (s : Int) : Prop := s = 14 ∨ s = 32 ∨ s = 33 ∨ s = 35 ∨ s = 36 ∨ s = 37
def CK (s w h h' fl : Int) : Prop :=
  (1 ≤ s ∧ s ≤ 10 ∧ h' = h + 1 ∧ fl ≤ h) ∨ ((s = 11 ∨ s = 12 ∨ s = 13 ∨ s = 14 ∨ s = 30 ∨ s = 31 ∨ s = 34 ∨ s = 39) ∧ h' = h ∧ fl + 1 ≤ h) ∨ (s = 15 ∧ 0 ≤ w ∧ w % 4 ≤ 2 ∧ h' = h - w % 4 ∧ fl + 1 + w % 4 ≤ h) ∨ (16 ≤ s ∧ s ≤ 26 ∧ h' = h - 1 ∧ fl + 2 ≤ h) ∨ ((s = 32 ∨ s = 33 ∨ s = 35 ∨ s = 36 ∨ s = 37) ∧ h' = h - 1 ∧ fl + 1 ≤ h)
def fl (a q : Nat) : Int := if a < q then 1 else 0
def lim (F W : Nat) (bs : Nat → Int32) (f : Nat) : Int := if f + 1 < F then (bs (f + 1)).toInt else W
def pot (sg : Nat → Int32) : Nat → Int | 0 => 0 | n + 1 => pot sg n + (if (sg n).toInt = 0 then 0 else 1)
def pend (F W : Nat) (lv jm fr pt : Nat → Int32) (q : Nat) : Prop := (∃ w, w < W ∧ (lv w).toInt ≤ 2 ∧ (jm w).toInt = q) ∨ (∃ f, 1 ≤ f ∧ f < F ∧ 3 ≤ (fr f).toInt ∧ (pt f).toInt = q)
/-- a code place is typed: falling through, and jumping -/
def CD (st : Nat → Int32) (wt : Nat → Int64) (h : Nat → Int) (a E : Nat) (pd : Nat → Prop) (q : Nat) : Prop :=
  CK (st q).toInt (wt q).toInt (h q) (h (q + 1)) (fl a q) ∧ (isj (st q).toInt → (∃ t : Nat, (wt q).toInt = t ∧ q < t ∧ t ≤ E ∧ h t = jh (st q).toInt (h q) ∧ (q < a → t ≤ a)) ∨ pd q) ∧ ((st q).toInt = 39 ↔ q = a)
def lo (a S : Nat) : Nat := if a < 10000 then a else S
def Pshape (F W : Nat) (bs sg fr pl : Nat → Int32) : Prop := 1 ≤ F ∧ F ≤ 5 ∧ (bs 0).toInt = 0 ∧ (∀ f, f < F → 0 ≤ (bs f).toInt ∧ (bs f).toInt ≤ lim F W bs f) ∧ (∀ f, f < F → (bs f).toInt ≤ W) ∧ ((fr 0).toInt = 0 ∨ (fr 0).toInt = 1) ∧ (∀ f, 1 ≤ f → f < F → 2 ≤ (fr f).toInt ∧ (fr f).toInt ≤ 5) ∧ (∀ f, f < F → ((sg f).toInt = 0 ∨ (sg f).toInt = 30 ∨ (sg f).toInt = 31) ∧ (¬ (sg f).toInt = 0 → (pl f).toInt = 0)) ∧ (¬ (pl 0).toInt = 0 → lim F W bs 0 = 0)
def Pops (h g B : Nat → Int) (S E F W : Nat) (st lv op jm bs : Nat → Int32) : Prop :=
  (∀ w, w < W → 1 ≤ (lv w).toInt ∧ (lv w).toInt ≤ 5 ∧ B 0 ≤ g w ∧ (2 < (lv w).toInt → 16 ≤ (op w).toInt ∧ (op w).toInt ≤ 26) ∧ ((lv w).toInt ≤ 2 → ∃ q : Nat, (jm w).toInt = q ∧ S ≤ q ∧ q < E ∧ ((st q).toInt = 32 ∨ (st q).toInt = 33) ∧ h q = g w + 1)) ∧
  (∀ f w : Nat, f < F → (bs f).toInt ≤ w → (w : Int) < lim F W bs f → g w = und (B f) g lv (bs f).toInt.toNat w)
def Pfrs (h g B : Nat → Int) (S E F : Nat) (st lv bs fr pt cn cc : Nat → Int32) : Prop :=
  ∀ f, 1 ≤ f → f < F → B 0 ≤ B f ∧ ∃ T : Int, T = und (B (f - 1)) g lv (bs (f - 1)).toInt.toNat (bs f).toInt.toNat ∧ ((fr f).toInt = 2 → B f = T) ∧ ((fr f).toInt = 3 → 1 ≤ (cc f).toInt ∧ (cc f).toInt ≤ 2 ∧ B f = T + (cc f).toInt ∧ 0 ≤ (cn f).toInt ∧ (cn f).toInt ≤ 14348906) ∧ (4 ≤ (fr f).toInt → B f = T) ∧ (3 ≤ (fr f).toInt → ∃ q : Nat, (pt f).toInt = q ∧ S ≤ q ∧ q < E ∧ h q = T + 1 ∧ ((fr f).toInt = 3 → (st q).toInt = 13 ∨ (st q).toInt = 14) ∧ ((fr f).toInt = 4 → (st q).toInt = 35) ∧ ((fr f).toInt = 5 → (st q).toInt = 36 ∨ (st q).toInt = 37))
def Paim (h B : Nat → Int) (a S E : Nat) (st : Nat → Int32) (wt : Nat → Int64) (fr : Nat → Int32) (tg ts : Int32) : Prop :=
  ((fr 0).toInt = 0 → 10000 ≤ a ∧ B 0 = 0) ∧ ((fr 0).toInt = 1 → (ts.toInt = 38 ∧ B 0 = 0 ∧ 10000 ≤ a) ∨ (ts.toInt = 40 ∧ B 0 = 1 ∧ S ≤ a ∧ a < E ∧ h a = 1 ∧ (wt a).toInt = tg.toInt))
/-- the parser's state; o: 1 where a value has just been left on the stack -/
def PI (h g B : Nat → Int) (a S E F W : Nat) (o : Int) (st : Nat → Int32) (wt : Nat → Int64) (lv op jm bs sg fr pt cn cc pl : Nat → Int32) (tg ts : Int32) : Prop :=
  Pshape F W bs sg fr pl ∧ Pops h g B (lo a S) E F W st lv op jm bs ∧ Pfrs h g B (lo a S) E F st lv bs fr pt cn cc ∧ Paim h B a S E st wt fr tg ts ∧ (S ≤ E ∧ E ≤ 9000 ∧ h S = 0 ∧ ∀ q, S ≤ q → q < E → CD st wt h a E (pend F W lv jm fr pt) q) ∧ h E = und (B (F - 1)) g lv (bs (F - 1)).toInt.toNat W + o
theorem upd_ap {f : Nat → Int32} {k : Nat} {v : Int32} {j : Nat} : upd f k v j = if j = k then v else f j := rfl
theorem updL_ap {f : Nat → Int64} {k : Nat} {v : Int64} {j : Nat} : vp_updL f k v j = if j = k then v else f j := rfl
def updI (f : Nat → Int) (k : Nat) (v : Int) : Nat → Int := fun j => if j = k then v else f j
theorem updI_ap {f : Nat → Int} {k : Nat} {v : Int} {j : Nat} : updI f k v j = if j = k then v else f j := rfl
section PI1
variable {h g B : Nat → Int} {a S E F W n : Nat} {o : Int} {st : Nat → Int32} {wt : Nat → Int64} {lv op jm bs sg fr pt cn cc pl : Nat → Int32} {tg ts : Int32}
theorem PI_fl (h1 : Pshape F W bs sg fr pl) (h4 : Paim h B a S E st wt fr tg ts) (h5a : E ≤ 9000) : fl a E = B 0 := by
  unfold Paim Pshape at *
  unfold fl
  grind
theorem PI_lo (h1 : Pshape F W bs sg fr pl) (h4 : Paim h B a S E st wt fr tg ts) (h5 : S ≤ E) : lo a S ≤ E ∧ S ≤ lo a S := by
  have h6 := h1.2.2.2.2.2.1
  unfold lo
  split
  · rename_i ha
    rcases h6 with h6 | h6
    · have := (h4.1 h6).1; omega
    · rcases h4.2 h6 with k | k
      · omega
      · exact ⟨by omega, k.2.2.1⟩
  · exact ⟨h5, Nat.le_refl _⟩
theorem PI_xa {x t : Nat} (h : lo a S ≤ x) (ht : t ≤ 9999) : x < a → t ≤ a := by
  intro hx
  unfold lo at h
  split at h <;> omega
theorem PI_und (h1 : Pshape (n + 1) W bs sg fr pl) (h2 : Pops h g B S E (n + 1) W st lv op jm bs) (h3 : Pfrs h g B S E (n + 1) st lv bs fr pt cn cc) : B 0 ≤ und (B n) g lv (bs n).toInt.toNat W := by
  have hB : B 0 ≤ B n := by
    by_cases e : n = 0
    · subst e; exact Int.le_refl _
    · exact (h3 n (by omega) (by omega)).1
  unfold und dlt
  split
  · exact hB
  · have := (h2.1 (W - 1) (by omega)).2.2.1
    split <;> omega
/-- the jumps of ops and frames stand ahead of what is laid behind -/
theorem Pops_emit {s : Int32} {y : Int} (h2 : Pops h g B S E F W st lv op jm bs) : Pops (updI h (E + 1) y) g B S (E + 1) F W (upd st E s) lv op jm bs := by
  refine ⟨fun w hw => ?_, h2.2⟩
  obtain ⟨k1, k2, k3, k4, k5⟩ := h2.1 w hw
  refine ⟨k1, k2, k3, k4, fun hc => ?_⟩
  obtain ⟨q, q1, q2, q3, q4, q5⟩ := k5 hc
  refine ⟨q, q1, q2, by omega, ?_, ?_⟩
  · rw [upd_ne (by omega)]; exact q4
  · rw [updI_ap, if_neg (by omega)]; exact q5
theorem Pfrs_emit {s : Int32} {y : Int} (h3 : Pfrs h g B S E F st lv bs fr pt cn cc) : Pfrs (updI h (E + 1) y) g B S (E + 1) F (upd st E s) lv bs fr pt cn cc := by
  intro f hf1 hf2
  obtain ⟨k1, T, k2, k3, k4, k5, k6⟩ := h3 f hf1 hf2
  refine ⟨k1, T, k2, k3, k4, k5, fun hc => ?_⟩
  obtain ⟨q, q1, q2, q3, q4, q5, q6, q7⟩ := k6 hc
  refine ⟨q, q1, q2, by omega, ?_, ?_, ?_, ?_⟩
  · rw [updI_ap, if_neg (by omega)]; exact q4
  · rw [upd_ne (by omega)]; exact q5
  · rw [upd_ne (by omega)]; exact q6
  · rw [upd_ne (by omega)]; exact q7
theorem Paim_emit {s : Int32} {v : Int64} {y : Int} (h1 : Pshape F W bs sg fr pl) (h4 : Paim h B a S E st wt fr tg ts) : Paim (updI h (E + 1) y) B a S (E + 1) (upd st E s) (vp_updL wt E v) fr tg ts := by
  refine ⟨h4.1, fun hc => ?_⟩
  rcases h4.2 hc with k | ⟨k1, k2, k3, k4, k5, k6⟩
  · exact Or.inl k
  · refine Or.inr ⟨k1, k2, k3, by omega, ?_, ?_⟩
    · rw [updI_ap, if_neg (by omega)]; exact k5
    · rw [updL_ne (by omega)]; exact k6
/-- old places keep their type when one is laid behind, their pends being pends still or mended -/
theorem CD_emit {s : Int32} {v : Int64} {y : Int} {pd pd' : Nat → Prop} {q : Nat} (k : CD st wt h a E pd q) (hq : q < E) (hpd : pd q → pd' q) : CD (upd st E s) (vp_updL wt E v) (updI h (E + 1) y) a (E + 1) pd' q := by
  obtain ⟨k1, k2, k3⟩ := k
  unfold CD
  rw [upd_ne (by omega), updL_ne (by omega), updI_ap, updI_ap, if_neg (by omega), if_neg (by omega)]
  refine ⟨k1, fun hc => ?_, k3⟩
  rcases k2 hc with ⟨t, t1, t2, t3, t4, t5⟩ | k
  · refine Or.inl ⟨t, t1, t2, by omega, ?_, t5⟩
    rw [updI_ap, if_neg (by omega)]; exact t4
  · exact Or.inr (hpd k)
theorem CD_new {s : Int32} {v : Int64} {y : Int} {pd' : Nat → Prop} (h1 : Pshape F W bs sg fr pl) (h4 : Paim h B a S E st wt fr tg ts) (hE : E ≤ 9000) (h39 : ¬ s.toInt = 39) (hk : CK s.toInt v.toInt (h E) y (B 0)) (hj : isj s.toInt → pd' E) : CD (upd st E s) (vp_updL wt E v) (updI h (E + 1) y) a (E + 1) pd' E := by
  have hfl := PI_fl h1 h4 hE
  unfold CD
  rw [upd_eq, updL_eq, hfl, updI_ap, updI_ap, if_neg (by omega), if_pos rfl]
  refine ⟨hk, fun hc => Or.inr (hj hc), fun hc => absurd hc h39, fun hc => ?_⟩
  subst hc
  unfold Paim Pshape at *
  grind
/-- a patched place -/
theorem CD_patch {x : Nat} {v : Int64} {t : Nat} {pd pd' : Nat → Prop} {q : Nat} (k : CD st wt h a E pd q) (hv : v.toInt = t) (hx : x < t) (ht : t ≤ E) (h13 : isj (st x).toInt → h t = jh (st x).toInt (h x)) (h15 : ¬ (st x).toInt = 15) (hxa : x < a → t ≤ a) (hpd : pd q → pd' q ∨ q = x) : CD st (vp_updL wt x v) h a E pd' q := by
  obtain ⟨k1, k2, k3⟩ := k
  unfold CD
  by_cases e : q = x
  · subst e
    rw [updL_eq]
    refine ⟨?_, fun hc => Or.inl ⟨t, hv, hx, ht, h13 hc, hxa⟩, k3⟩
    unfold CK at *
    grind
  · rw [updL_ne e]
    refine ⟨k1, fun hc => ?_, k3⟩
    rcases k2 hc with k | k
    · exact Or.inl k
    · rcases hpd k with k | k
      · exact Or.inr k
      · exact absurd k e
theorem PI_emit {s : Int32} {v : Int64} {o' : Int} (hp : PI h g B a S E F W o st wt lv op jm bs sg fr pt cn cc pl tg ts) (hE : E < 8000) (hj : ¬ isj s.toInt) (h39 : ¬ s.toInt = 39) (hk : CK s.toInt v.toInt (h E) (h E - o + o') (B 0)) :
    PI (updI h (E + 1) (h E - o + o')) g B a S (E + 1) F W o' (upd st E s) (vp_updL wt E v) lv op jm bs sg fr pt cn cc pl tg ts := by
  obtain ⟨h1, h2, h3, h4, ⟨h5, h5a, h6, h7⟩, h8⟩ := hp
  refine ⟨h1, Pops_emit h2, Pfrs_emit h3, Paim_emit h1 h4, ⟨by omega, by omega, ?_, fun q hq1 hq2 => ?_⟩, ?_⟩
  · rw [updI_ap, if_neg (by omega)]; exact h6
  · by_cases e : q = E
    · subst e; exact CD_new h1 h4 h5a h39 hk (fun hc => absurd hc hj)
    · exact CD_emit (h7 q hq1 (by omega)) (by omega) id
  · rw [updI_ap, if_pos rfl, h8]; omega
theorem und_new {b w : Nat} {x : Int32} {y : Int} (hb : b ≤ w) : und (B n) (updI g w y) (upd lv w x) b (w + 1) = y + dlt x := by
  unfold und
  rw [if_neg (by omega), show w + 1 - 1 = w from rfl, updI_ap, if_pos rfl, upd_eq]
theorem und_old {b w w' : Nat} {x : Int32} {y : Int} {Bn : Int} (hw : w' ≤ w) : und Bn (updI g w y) (upd lv w x) b w' = und Bn g lv b w' := by
  unfold und
  split
  · rfl
  · rw [updI_ap, if_neg (by omega), upd_ne (by omega)]
/-- shape: one more op in the topmost frame, its plain struck -/
theorem Pshape_push (h1 : Pshape (n + 1) W bs sg fr pl) : Pshape (n + 1) (W + 1) bs sg fr (upd pl n 0) := by
  obtain ⟨k1, k2, k3, k4, k5, k6, k7, k8, k9⟩ := h1
  have q0 : (0 : Int32).toInt = 0 := by decide +kernel
  refine ⟨k1, k2, k3, fun f hf => ?_, fun f hf => ?_, k6, k7, fun f hf => ?_, fun hc => ?_⟩
  · have := k4 f hf
    unfold lim at *
    grind
  · have := k5 f hf; omega
  · refine ⟨(k8 f hf).1, fun hc => ?_⟩
    by_cases e : f = n
    · subst e; rw [upd_eq]; exact q0
    · rw [upd_ne e]; exact (k8 f hf).2 hc
  · by_cases e : n = 0
    · subst e; rw [upd_eq] at hc; exact absurd q0 hc
    · rw [upd_ne (by omega)] at hc
      have := k9 hc
      unfold lim at *
      grind
theorem Pops_push {l x y : Int32} (h1 : Pshape (n + 1) W bs sg fr pl) (h2 : Pops h g B S E (n + 1) W st lv op jm bs) (hub : B 0 ≤ und (B n) g lv (bs n).toInt.toNat W) (hl : 1 ≤ l.toInt ∧ l.toInt ≤ 5) (hx : 2 < l.toInt → 16 ≤ x.toInt ∧ x.toInt ≤ 26)
    (hy : l.toInt ≤ 2 → ∃ q : Nat, y.toInt = q ∧ S ≤ q ∧ q < E ∧ ((st q).toInt = 32 ∨ (st q).toInt = 33) ∧ h q = und (B n) g lv (bs n).toInt.toNat W + 1) :
    Pops h (updI g W (und (B n) g lv (bs n).toInt.toNat W)) B S E (n + 1) (W + 1) st (upd lv W l) (upd op W x) (upd jm W y) bs := by
  refine ⟨fun w hw => ?_, fun f w hf hw1 hw2 => ?_⟩
  · by_cases e : w = W
    · subst e
      rw [upd_eq, upd_eq, upd_eq, updI_ap, if_pos rfl]
      exact ⟨hl.1, hl.2, hub, hx, hy⟩
    · rw [upd_ne e, upd_ne e, upd_ne e, updI_ap, if_neg e]
      exact h2.1 w (by omega)
  · by_cases e : w = W
    · subst e
      have hfn : f = n := by
        obtain ⟨k1, k2, k3, k4, k5, k6, k7, k8, k9⟩ := h1
        unfold lim at hw2
        by_cases e2 : f + 1 < n + 1
        · rw [if_pos e2] at hw2
          have := k5 (f + 1) (by omega)
          omega
        · omega
      subst hfn
      rw [updI_ap, if_pos rfl, und_old (Nat.le_refl _)]
    · have hwW : w < W := by
        unfold lim at hw2
        obtain ⟨k1, k2, k3, k4, k5, k6, k7, k8, k9⟩ := h1
        by_cases e2 : f + 1 < n + 1
        · rw [if_pos e2] at hw2
          have := k5 (f + 1) (by omega)
          omega
        · rw [if_neg e2] at hw2; omega
      rw [updI_ap, if_neg e, und_old (by omega)]
      refine h2.2 f w hf hw1 ?_
      unfold lim at *
      split <;> rename_i e2
      · rw [if_pos e2] at hw2; exact hw2
      · omega
theorem Pfrs_push {l : Int32} {y : Int} (h1 : Pshape (n + 1) W bs sg fr pl) (h3 : Pfrs h g B S E (n + 1) st lv bs fr pt cn cc) : Pfrs h (updI g W y) B S E (n + 1) st (upd lv W l) bs fr pt cn cc := by
  intro f hf1 hf2
  obtain ⟨k1, T, k2, k3⟩ := h3 f hf1 hf2
  refine ⟨k1, T, ?_, k3⟩
  have := h1.2.2.2.2.1 f hf2
  have := h1.2.2.2.1 f hf2
  rw [und_old (by omega)]; exact k2
theorem pend_push {l y : Int32} {q : Nat} (hq : pend F W lv jm fr pt q) : pend F (W + 1) (upd lv W l) (upd jm W y) fr pt q := by
  rcases hq with ⟨w, w1, w2, w3⟩ | hq
  · exact Or.inl ⟨w, by omega, by rw [upd_ne (by omega)]; exact w2, by rw [upd_ne (by omega)]; exact w3⟩
  · exact Or.inr hq
/-- an arithmetic sign waits -/
theorem PI_push {l x y : Int32} (hp : PI h g B a S E (n + 1) W 1 st wt lv op jm bs sg fr pt cn cc pl tg ts) (hl : 2 < l.toInt ∧ l.toInt ≤ 5) (hx : 16 ≤ x.toInt ∧ x.toInt ≤ 26) :
    PI h (updI g W (und (B n) g lv (bs n).toInt.toNat W)) B a S E (n + 1) (W + 1) 0 st wt (upd lv W l) (upd op W x) (upd jm W y) bs sg fr pt cn cc (upd pl n 0) tg ts := by
  obtain ⟨h1, h2, h3, h4, ⟨h5, h5a, h6, h7⟩, h8⟩ := hp
  have h8 : h E = und (B n) g lv (bs n).toInt.toNat W + 1 := h8
  have hub : B 0 ≤ und (B n) g lv (bs n).toInt.toNat W := PI_und h1 h2 h3
  have hbw := h1.2.2.2.2.1 n (by omega)
  refine ⟨Pshape_push h1, Pops_push h1 h2 hub (by omega) (fun _ => hx) (fun hc => by omega), Pfrs_push h1 h3, h4, ⟨h5, h5a, h6, fun q hq1 hq2 => ?_⟩, ?_⟩
  · obtain ⟨k1, k2, k3⟩ := h7 q hq1 hq2
    exact ⟨k1, fun hc => (k2 hc).imp id pend_push, k3⟩
  · show h E = und (B n) _ _ (bs n).toInt.toNat (W + 1) + 0
    rw [und_new (by omega), h8]
    unfold dlt
    rw [if_neg (by omega)]; omega
/-- && or || waits, its jump laid -/
theorem PI_pushJ {l x y s : Int32} (hp : PI h g B a S E (n + 1) W 1 st wt lv op jm bs sg fr pt cn cc pl tg ts) (hE : E < 8000) (hl : 1 ≤ l.toInt ∧ l.toInt ≤ 2) (hs : s.toInt = 32 ∨ s.toInt = 33) (hy : y.toInt = E) {v : Int64} :
    PI (updI h (E + 1) (h E - 1)) (updI g W (und (B n) g lv (bs n).toInt.toNat W)) B a S (E + 1) (n + 1) (W + 1) 0 (upd st E s) (vp_updL wt E v) (upd lv W l) (upd op W x) (upd jm W y) bs sg fr pt cn cc (upd pl n 0) tg ts := by
  obtain ⟨h1, h2, h3, h4, ⟨h5, h5a, h6, h7⟩, h8⟩ := hp
  have h8 : h E = und (B n) g lv (bs n).toInt.toNat W + 1 := h8
  have hub : B 0 ≤ und (B n) g lv (bs n).toInt.toNat W := PI_und h1 h2 h3
  have hbw := h1.2.2.2.2.1 n (by omega)
  have h2' := Pops_emit (s := s) (y := h E - 1) h2
  refine ⟨Pshape_push h1, Pops_push h1 h2' hub (by omega) (fun hc => by omega) (fun _ => ⟨E, hy, (PI_lo h1 h4 h5).1, by omega, by rw [upd_eq]; exact hs, by rw [updI_ap, if_neg (by omega)]; exact h8⟩), Pfrs_push h1 (Pfrs_emit h3), Paim_emit h1 h4, ⟨by omega, by omega, ?_, fun q hq1 hq2 => ?_⟩, ?_⟩
  · rw [updI_ap, if_neg (by omega)]; exact h6
  · by_cases e : q = E
    · subst e
      refine CD_new h1 h4 h5a (by omega) ?_ (fun _ => Or.inl ⟨W, by omega, by rw [upd_eq]; omega, by rw [upd_eq]; exact hy⟩)
      unfold CK
      omega
    · exact CD_emit (h7 q hq1 (by omega)) (by omega) pend_push
  · show updI h (E + 1) _ (E + 1) = und (B n) _ _ (bs n).toInt.toNat (W + 1) + 0
    rw [und_new (by omega), updI_ap, if_pos rfl, h8]
    unfold dlt
    rw [if_pos (by omega)]; omega
theorem Pshape_mono (h1 : Pshape F W bs sg fr pl) : ∀ k f : Nat, f + k < F → (bs f).toInt ≤ (bs (f + k)).toInt := by
  intro k
  induction k with
  | zero => intro f _; exact Int.le_refl _
  | succ k ih =>
    intro f hf
    have a1 := ih f (by omega)
    have a2 := (h1.2.2.2.1 (f + k) (by omega)).2
    unfold lim at a2
    rw [if_pos (by omega)] at a2
    exact Int.le_trans a1 a2
theorem Pshape_pop (h1 : Pshape (n + 1) (W + 1) bs sg fr pl) (hw : (bs n).toInt ≤ W) : Pshape (n + 1) W bs sg fr pl := by
  have hm := Pshape_mono h1
  obtain ⟨k1, k2, k3, k4, k5, k6, k7, k8, k9⟩ := h1
  refine ⟨k1, k2, k3, fun f hf => ⟨(k4 f hf).1, ?_⟩, fun f hf => ?_, k6, k7, k8, fun hc => ?_⟩
  · have := (k4 f hf).2
    unfold lim at *
    by_cases e : f + 1 < n + 1
    · rw [if_pos e] at *; exact this
    · rw [if_neg e]; rw [show f = n by omega]; exact hw
  · have := hm (n - f) f (by omega)
    rw [show f + (n - f) = n by omega] at this
    omega
  · have := k9 hc
    unfold lim at *
    by_cases e : 0 + 1 < n + 1
    · rw [if_pos e] at *; exact this
    · rw [if_neg e] at *; omega
theorem Pops_pop (h2 : Pops h g B S E (n + 1) (W + 1) st lv op jm bs) (h1 : Pshape (n + 1) (W + 1) bs sg fr pl) : Pops h g B S E (n + 1) W st lv op jm bs := by
  refine ⟨fun w hw => h2.1 w (by omega), fun f w hf hw1 hw2 => h2.2 f w hf hw1 ?_⟩
  unfold lim at *
  split <;> rename_i e
  · rw [if_pos e] at hw2; exact hw2
  · rw [if_neg e] at hw2; omega
theorem pend_pop {q : Nat} (hq : pend F (W + 1) lv jm fr pt q) : pend F W lv jm fr pt q ∨ ((lv W).toInt ≤ 2 ∧ (jm W).toInt = q) := by
  rcases hq with ⟨w, w1, w2, w3⟩ | hq
  · by_cases e : w = W
    · subst e; exact Or.inr ⟨w2, w3⟩
    · exact Or.inl (Or.inl ⟨w, by omega, w2, w3⟩)
  · exact Or.inl (Or.inr hq)
theorem und_pop (h2 : Pops h g B S E (n + 1) (W + 1) st lv op jm bs) (hw0 : 0 ≤ (bs n).toInt) (hw : (bs n).toInt ≤ W) : und (B n) g lv (bs n).toInt.toNat (W + 1) = und (B n) g lv (bs n).toInt.toNat W + dlt (lv W) ∧ g W = und (B n) g lv (bs n).toInt.toNat W := by
  have := h2.2 n W (by omega) hw (by unfold lim; rw [if_neg (by omega)]; omega)
  refine ⟨?_, this⟩
  rw [← this]
  unfold und
  rw [if_neg (by omega)]; rfl
theorem PI_pop {v : Int64} (hp : PI h g B a S E (n + 1) (W + 1) 1 st wt lv op jm bs sg fr pt cn cc pl tg ts) (hE : E < 8000) (hw : (bs n).toInt ≤ W) (hl : 2 < (lv W).toInt) :
    PI (updI h (E + 1) (h E - 1)) g B a S (E + 1) (n + 1) W 1 (upd st E (op W)) (vp_updL wt E v) lv op jm bs sg fr pt cn cc pl tg ts := by
  obtain ⟨h1, h2, h3, h4, ⟨h5, h5a, h6, h7⟩, h8⟩ := hp
  have h8 : h E = und (B n) g lv (bs n).toInt.toNat (W + 1) + 1 := h8
  have h1' := Pshape_pop h1 hw
  have h2' := Pops_pop h2 h1
  have hub : B 0 ≤ und (B n) g lv (bs n).toInt.toNat W := PI_und h1' h2' h3
  obtain ⟨u1, u2⟩ := und_pop h2 (h1.2.2.2.1 n (by omega)).1 hw
  have hop := (h2.1 W (by omega)).2.2.2.1 hl
  have hd : dlt (lv W) = 1 := by unfold dlt; rw [if_neg (by omega)]
  refine ⟨h1', Pops_emit h2', Pfrs_emit h3, Paim_emit h1 h4, ⟨by omega, by omega, ?_, fun q hq1 hq2 => ?_⟩, ?_⟩
  · rw [updI_ap, if_neg (by omega)]; exact h6
  · by_cases e : q = E
    · subst e
      refine CD_new h1 h4 h5a (by omega) ?_ (fun hc => ?_)
      · unfold CK; omega
      · unfold isj at hc; omega
    · refine CD_emit (h7 q hq1 (by omega)) (by omega) (fun hq => ?_)
      rcases pend_pop hq with k | k
      · exact k
      · omega
  · show updI h (E + 1) _ (E + 1) = und (B n) _ _ (bs n).toInt.toNat W + 1
    rw [updI_ap, if_pos rfl, h8]; omega
theorem PI_popJ {v t : Int64} {x : Nat} {s : Int32} (hp : PI h g B a S E (n + 1) (W + 1) 1 st wt lv op jm bs sg fr pt cn cc pl tg ts) (hE : E < 8000) (hw : (bs n).toInt ≤ W) (hl : (lv W).toInt ≤ 2) (hs : s.toInt = 34) (hx : (jm W).toInt = x) (ht : t.toInt = E + 1) :
    PI (updI h (E + 1) (h E)) g B a S (E + 1) (n + 1) W 1 (upd st E s) (vp_updL (vp_updL wt E v) x t) lv op jm bs sg fr pt cn cc pl tg ts := by
  obtain ⟨h1, h2, h3, h4, ⟨h5, h5a, h6, h7⟩, h8⟩ := hp
  have h8 : h E = und (B n) g lv (bs n).toInt.toNat (W + 1) + 1 := h8
  have h1' := Pshape_pop h1 hw
  have h2' := Pops_pop h2 h1
  have hub : B 0 ≤ und (B n) g lv (bs n).toInt.toNat W := PI_und h1' h2' h3
  obtain ⟨u1, u2⟩ := und_pop h2 (h1.2.2.2.1 n (by omega)).1 hw
  obtain ⟨x', x1, xl, x3, x4, x5⟩ := (h2.1 W (by omega)).2.2.2.2 hl
  have x2 : S ≤ x' := Nat.le_trans (PI_lo h1 h4 h5).2 xl
  obtain rfl : x' = x := by omega
  have hd : dlt (lv W) = 0 := by unfold dlt; rw [if_pos (by omega)]
  have hst : upd st E s x' = st x' := upd_ne (by omega)
  have hhx : updI h (E + 1) (h E) x' = h x' := by rw [updI_ap, if_neg (by omega)]
  have hhE : updI h (E + 1) (h E) (E + 1) = h E := by rw [updI_ap, if_pos rfl]
  have hPaim := Paim_emit (s := s) (v := v) (y := h E) h1 h4
  refine ⟨h1', Pops_emit h2', Pfrs_emit h3, ?_, ⟨by omega, by omega, ?_, fun q hq1 hq2 => ?_⟩, ?_⟩
  · refine ⟨hPaim.1, fun hc => (hPaim.2 hc).imp id (fun ⟨k1, k2, k3, k4, k5, k6⟩ => ⟨k1, k2, k3, k4, k5, ?_⟩)⟩
    have hax : ¬ a = x' := by
      intro e; subst e
      have := (h7 a (by omega) (by omega)).2.2.2 rfl
      omega
    rw [updL_ne hax]; exact k6
  · rw [updI_ap, if_neg (by omega)]; exact h6
  · have key : CD (upd st E s) (vp_updL wt E v) (updI h (E + 1) (h E)) a (E + 1) (pend (n + 1) (W + 1) lv jm fr pt) q := by
      by_cases e : q = E
      · subst e
        refine CD_new h1 h4 h5a (by omega) ?_ (fun hc => ?_)
        · unfold CK; omega
        · unfold isj at hc; omega
      · exact CD_emit (h7 q hq1 (by omega)) (by omega) id
    refine CD_patch key (t := E + 1) (by rw [ht]; rfl) (by omega) (by omega) (fun _ => ?_) (by rw [hst]; omega) (PI_xa xl (by omega)) (fun hq => ?_)
    · rw [hst, hhx, hhE, x5, h8]
      unfold jh
      rw [if_neg (by omega)]; omega
    · rcases pend_pop hq with k | k
      · exact Or.inl k
      · exact Or.inr (by omega)
  · show updI h (E + 1) _ (E + 1) = und (B n) _ _ (bs n).toInt.toNat W + 1
    rw [hhE, h8]; omega
/-- striking a frame's plain, setting a sign -/
theorem PI_strike {z : Int32} {i : Nat} (hp : PI h g B a S E F W o st wt lv op jm bs sg fr pt cn cc pl tg ts) (hz : z.toInt = 0) : PI h g B a S E F W o st wt lv op jm bs sg fr pt cn cc (upd pl i z) tg ts := by
  obtain ⟨⟨k1, k2, k3, k4, k5, k6, k7, k8, k9⟩, hr⟩ := hp
  refine ⟨⟨k1, k2, k3, k4, k5, k6, k7, fun f hf => ⟨(k8 f hf).1, fun hc => ?_⟩, fun hc => ?_⟩, hr⟩
  · rw [upd_ap]; split
    · exact hz
    · exact (k8 f hf).2 hc
  · rw [upd_ap] at hc; split at hc
    · exact absurd hz hc
    · exact k9 hc
theorem PI_sign {x : Int32} {i : Nat} (hp : PI h g B a S E F W o st wt lv op jm bs sg fr pt cn cc pl tg ts) (hx : x.toInt = 0 ∨ ((x.toInt = 30 ∨ x.toInt = 31) ∧ (pl i).toInt = 0)) : PI h g B a S E F W o st wt lv op jm bs (upd sg i x) fr pt cn cc pl tg ts := by
  obtain ⟨⟨k1, k2, k3, k4, k5, k6, k7, k8, k9⟩, hr⟩ := hp
  refine ⟨⟨k1, k2, k3, k4, k5, k6, k7, fun f hf => ?_, k9⟩, hr⟩
  have := k8 f hf
  rw [upd_ap]; split
  · rename_i e; subst e; omega
  · exact this
/-- one more frame -/
theorem Pshape_open {k b z p1 : Int32} (h1 : Pshape (n + 1) W bs sg fr pl) (hn : n + 2 ≤ 5) (hk : 2 ≤ k.toInt ∧ k.toInt ≤ 5) (hb : b.toInt = W) (hz : z.toInt = 0) : Pshape (n + 2) W (upd bs (n + 1) b) (upd sg (n + 1) z) (upd fr (n + 1) k) (upd pl (n + 1) p1) := by
  obtain ⟨k1, k2, k3, k4, k5, k6, k7, k8, k9⟩ := h1
  refine ⟨by omega, hn, by rw [upd_ne (by omega)]; exact k3, fun f hf => ?_, fun f hf => ?_, by rw [upd_ne (by omega)]; exact k6, fun f hf1 hf => ?_, fun f hf => ?_, fun hc => ?_⟩
  · unfold lim
    by_cases e : f = n + 1
    · subst e; rw [upd_eq, if_neg (by omega), hb]; omega
    · rw [upd_ne e, if_pos (by omega)]
      have := k4 f (by omega)
      unfold lim at this
      by_cases e2 : f = n
      · subst e2; rw [upd_eq, hb]; rw [if_neg (by omega)] at this; exact this
      · rw [upd_ne (by omega)]; rw [if_pos (by omega)] at this; exact this
  · by_cases e : f = n + 1
    · subst e; rw [upd_eq, hb]; omega
    · rw [upd_ne e]; exact k5 f (by omega)
  · by_cases e : f = n + 1
    · subst e; rw [upd_eq]; exact hk
    · rw [upd_ne e]; exact k7 f hf1 (by omega)
  · by_cases e : f = n + 1
    · subst e; rw [upd_eq]; exact ⟨Or.inl hz, fun hc => absurd hz hc⟩
    · rw [upd_ne e, upd_ne e]; exact k8 f (by omega)
  · rw [upd_ne (by omega)] at hc
    have := k9 hc
    unfold lim at *
    rw [if_pos (by omega)]
    by_cases e2 : n = 0
    · subst e2; rw [upd_eq, hb]; rw [if_neg (by omega)] at this; exact this
    · rw [upd_ne (by omega)]; rw [if_pos (by omega)] at this; exact this
theorem Pops_open {b : Int32} {y : Int} (h2 : Pops h g B S E (n + 1) W st lv op jm bs) (hb : b.toInt = W) : Pops h g (updI B (n + 1) y) S E (n + 2) W st lv op jm (upd bs (n + 1) b) := by
  have hB0 : updI B (n + 1) y 0 = B 0 := by rw [updI_ap, if_neg (by omega)]
  refine ⟨fun w hw => by rw [hB0]; exact h2.1 w hw, fun f w hf hw1 hw2 => ?_⟩
  unfold lim at hw2
  by_cases e : f = n + 1
  · subst e
    rw [upd_eq, hb] at hw1; rw [if_neg (by omega)] at hw2; omega
  · rw [upd_ne e] at hw1
    rw [if_pos (by omega)] at hw2
    rw [upd_ne e, updI_ap, if_neg e]
    refine h2.2 f w (by omega) hw1 ?_
    unfold lim
    by_cases e2 : f = n
    · subst e2; rw [upd_eq, hb] at hw2; rw [if_neg (by omega)]; exact hw2
    · rw [upd_ne (by omega)] at hw2; rw [if_pos (by omega)]; exact hw2
theorem Pfrs_open {b k pp nn c2 : Int32} {y : Int} (h3 : Pfrs h g B S E (n + 1) st lv bs fr pt cn cc) (hb : b.toInt = W) (hB : B 0 ≤ y) {T : Int} (hT : T = und (B n) g lv (bs n).toInt.toNat W) (t2 : k.toInt = 2 → y = T) (t3 : k.toInt = 3 → 1 ≤ c2.toInt ∧ c2.toInt ≤ 2 ∧ y = T + c2.toInt ∧ 0 ≤ nn.toInt ∧ nn.toInt ≤ 14348906) (t4 : 4 ≤ k.toInt → y = T)
    (t5 : 3 ≤ k.toInt → ∃ q : Nat, pp.toInt = q ∧ S ≤ q ∧ q < E ∧ h q = T + 1 ∧ (k.toInt = 3 → (st q).toInt = 13 ∨ (st q).toInt = 14) ∧ (k.toInt = 4 → (st q).toInt = 35) ∧ (k.toInt = 5 → (st q).toInt = 36 ∨ (st q).toInt = 37)) :
    Pfrs h g (updI B (n + 1) y) S E (n + 2) st lv (upd bs (n + 1) b) (upd fr (n + 1) k) (upd pt (n + 1) pp) (upd cn (n + 1) nn) (upd cc (n + 1) c2) := by
  have hB0 : updI B (n + 1) y 0 = B 0 := by rw [updI_ap, if_neg (by omega)]
  intro f hf1 hf2
  by_cases e : f = n + 1
  · subst e
    rw [hB0]
    simp only [upd_eq]
    rw [updI_ap, if_pos rfl]
    refine ⟨hB, T, ?_, t2, t3, t4, t5⟩
    rw [show n + 1 - 1 = n from rfl, updI_ap, if_neg (by omega), upd_ne (by omega), hb, hT]
    rfl
  · obtain ⟨k1, T', k2, k3⟩ := h3 f hf1 (by omega)
    rw [hB0]
    simp only [upd_ne e]
    rw [updI_ap, if_neg e]
    refine ⟨k1, T', ?_, k3⟩
    rw [updI_ap, if_neg (by omega), upd_ne (by omega)]; exact k2
theorem pend_open {k pp : Int32} {q : Nat} (hq : pend (n + 1) W lv jm fr pt q) : pend (n + 2) W lv jm (upd fr (n + 1) k) (upd pt (n + 1) pp) q := by
  rcases hq with hq | ⟨f, f1, f2, f3, f4⟩
  · exact Or.inl hq
  · exact Or.inr ⟨f, f1, by omega, by rw [upd_ne (by omega)]; exact f3, by rw [upd_ne (by omega)]; exact f4⟩
theorem Paim_open {k : Int32} {y : Int} (h4 : Paim h B a S E st wt fr tg ts) : Paim h (updI B (n + 1) y) a S E st wt (upd fr (n + 1) k) tg ts := by
  unfold Paim at *
  rw [upd_ne (by omega), updI_ap, if_neg (by omega)]
  exact h4
/-- ( -/
theorem PI_open2 {k b z p1 pp nn c2 : Int32} (hp : PI h g B a S E (n + 1) W 0 st wt lv op jm bs sg fr pt cn cc pl tg ts) (hn : n + 2 ≤ 5) (hk : k.toInt = 2) (hb : b.toInt = W) (hz : z.toInt = 0) :
    PI h g (updI B (n + 1) (und (B n) g lv (bs n).toInt.toNat W)) a S E (n + 2) W 0 st wt lv op jm (upd bs (n + 1) b) (upd sg (n + 1) z) (upd fr (n + 1) k) (upd pt (n + 1) pp) (upd cn (n + 1) nn) (upd cc (n + 1) c2) (upd pl (n + 1) p1) tg ts := by
  obtain ⟨h1, h2, h3, h4, ⟨h5, h5a, h6, h7⟩, h8⟩ := hp
  have h8 : h E = und (B n) g lv (bs n).toInt.toNat W + 0 := h8
  have hub := PI_und h1 h2 h3
  refine ⟨Pshape_open h1 hn (by omega) hb hz, Pops_open h2 hb, Pfrs_open h3 hb hub rfl (fun _ => rfl) (fun hc => by omega) (fun hc => by omega) (fun hc => by omega), Paim_open h4, ⟨h5, h5a, h6, fun q hq1 hq2 => ?_⟩, ?_⟩
  · obtain ⟨k1, k2, k3⟩ := h7 q hq1 hq2
    exact ⟨k1, fun hc => (k2 hc).imp id pend_open, k3⟩
  · show h E = und (updI B (n + 1) _ (n + 1)) g lv (upd bs (n + 1) b (n + 1)).toInt.toNat W + 0
    rw [updI_ap, if_pos rfl, upd_eq, hb, h8]
    have e : und (und (B n) g lv (bs n).toInt.toNat W) g lv ((W : Int).toNat) W = und (B n) g lv (bs n).toInt.toNat W := by
      rw [und, if_pos (by omega)]
    rw [e]
/-- ? ?: and a call's first bracket: a jump is laid, a frame opens -/
theorem PI_openJ {k b z p1 pp nn c2 s : Int32} {v : Int64} (hp : PI h g B a S E (n + 1) W 1 st wt lv op jm bs sg fr pt cn cc pl tg ts) (hE : E < 8000) (hn : n + 2 ≤ 5) (hb : b.toInt = W) (hz : z.toInt = 0) (hpp : pp.toInt = E)
    (hk : (k.toInt = 3 ∧ (s.toInt = 13 ∨ s.toInt = 14) ∧ c2.toInt = 1 ∧ 0 ≤ nn.toInt ∧ nn.toInt ≤ 14348906) ∨ (k.toInt = 4 ∧ s.toInt = 35) ∨ (k.toInt = 5 ∧ s.toInt = 37)) {y : Int} (hy : y = und (B n) g lv (bs n).toInt.toNat W + (if k.toInt = 3 then 1 else 0)) :
    PI (updI h (E + 1) y) g (updI B (n + 1) y) a S (E + 1) (n + 2) W 0 (upd st E s) (vp_updL wt E v) lv op jm (upd bs (n + 1) b) (upd sg (n + 1) z) (upd fr (n + 1) k) (upd pt (n + 1) pp) (upd cn (n + 1) nn) (upd cc (n + 1) c2) (upd pl (n + 1) p1) tg ts := by
  obtain ⟨h1, h2, h3, h4, ⟨h5, h5a, h6, h7⟩, h8⟩ := hp
  have h8 : h E = und (B n) g lv (bs n).toInt.toNat W + 1 := h8
  have hub := PI_und h1 h2 h3
  have hy2 : B 0 ≤ y := by rw [hy]; split <;> omega
  have hq0 : updI h (E + 1) y E = und (B n) g lv (bs n).toInt.toNat W + 1 := by rw [updI_ap, if_neg (by omega), h8]
  refine ⟨Pshape_open h1 hn (by omega) hb hz, Pops_open (Pops_emit h2) hb, Pfrs_open (Pfrs_emit h3) hb hy2 rfl (fun hc => by omega) (fun hc => ?_) (fun hc => ?_) (fun hc => ⟨E, hpp, (PI_lo h1 h4 h5).1, by omega, hq0, by rw [upd_eq]; omega, by rw [upd_eq]; omega, by rw [upd_eq]; omega⟩), Paim_open (Paim_emit h1 h4), ⟨by omega, by omega, ?_, fun q hq1 hq2 => ?_⟩, ?_⟩
  · rw [if_pos hc] at hy; omega
  · rw [if_neg (by omega)] at hy; omega
  · rw [updI_ap, if_neg (by omega)]; exact h6
  · by_cases e : q = E
    · subst e
      refine CD_new h1 h4 h5a (by omega) ?_ (fun _ => Or.inr ⟨n + 1, by omega, by omega, by rw [upd_eq]; omega, by rw [upd_eq]; exact hpp⟩)
      unfold CK
      split at hy <;> omega
    · exact CD_emit (h7 q hq1 (by omega)) (by omega) pend_open
  · show updI h (E + 1) y (E + 1) = und (updI B (n + 1) y (n + 1)) g lv (upd bs (n + 1) b (n + 1)).toInt.toNat W + 0
    rw [updI_ap, if_pos rfl, updI_ap, if_pos rfl, upd_eq, hb]
    unfold und
    rw [if_pos (by omega)]; omega
/-- a frame is left -/
theorem Pshape_close (h1 : Pshape (n + 2) W bs sg fr pl) (hb : (bs (n + 1)).toInt = W) : Pshape (n + 1) W bs sg fr pl := by
  obtain ⟨k1, k2, k3, k4, k5, k6, k7, k8, k9⟩ := h1
  have hl : ∀ f, f < n + 1 → lim (n + 1) W bs f = lim (n + 2) W bs f := by
    intro f hf
    unfold lim
    by_cases e : f = n
    · subst e; rw [if_neg (by omega), if_pos (by omega), hb]
    · rw [if_pos (by omega), if_pos (by omega)]
  refine ⟨by omega, by omega, k3, fun f hf => by rw [hl f hf]; exact k4 f (by omega), fun f hf => k5 f (by omega), k6, fun f a1 a2 => k7 f a1 (by omega), fun f hf => k8 f (by omega), fun hc => by rw [hl 0 (by omega)]; exact k9 hc⟩
theorem Pops_close (h2 : Pops h g B S E (n + 2) W st lv op jm bs) (hb : (bs (n + 1)).toInt = W) : Pops h g B S E (n + 1) W st lv op jm bs := by
  refine ⟨h2.1, fun f w hf hw1 hw2 => h2.2 f w (by omega) hw1 ?_⟩
  unfold lim at *
  by_cases e : f = n
  · subst e; rw [if_neg (by omega)] at hw2; rw [if_pos (by omega), hb]; exact hw2
  · rw [if_pos (by omega)] at hw2; rw [if_pos (by omega)]; exact hw2
theorem Pfrs_close (h3 : Pfrs h g B S E (n + 2) st lv bs fr pt cn cc) : Pfrs h g B S E (n + 1) st lv bs fr pt cn cc := fun f a1 a2 => h3 f a1 (by omega)
theorem pend_close {q : Nat} (hq : pend (n + 2) W lv jm fr pt q) : pend (n + 1) W lv jm fr pt q ∨ (3 ≤ (fr (n + 1)).toInt ∧ (pt (n + 1)).toInt = q) := by
  rcases hq with hq | ⟨f, f1, f2, f3, f4⟩
  · exact Or.inl (Or.inl hq)
  · by_cases e : f = n + 1
    · subst e; exact Or.inr ⟨f3, f4⟩
    · exact Or.inl (Or.inr ⟨f, f1, by omega, f3, f4⟩)
/-- ) behind a bracket's choice -/
theorem PI_close2 (hp : PI h g B a S E (n + 2) W 1 st wt lv op jm bs sg fr pt cn cc pl tg ts) (hb : (bs (n + 1)).toInt = W) (hk : (fr (n + 1)).toInt = 2) : PI h g B a S E (n + 1) W 1 st wt lv op jm bs sg fr pt cn cc pl tg ts := by
  obtain ⟨h1, h2, h3, h4, ⟨h5, h5a, h6, h7⟩, h8⟩ := hp
  have h8 : h E = und (B (n + 1)) g lv (bs (n + 1)).toInt.toNat W + 1 := h8
  obtain ⟨_, T, t1, t2, -⟩ := h3 (n + 1) (by omega) (by omega)
  have t2 := t2 hk
  refine ⟨Pshape_close h1 hb, Pops_close h2 hb, Pfrs_close h3, h4, ⟨h5, h5a, h6, fun q hq1 hq2 => ?_⟩, ?_⟩
  · obtain ⟨k1, k2, k3⟩ := h7 q hq1 hq2
    refine ⟨k1, fun hc => (k2 hc).imp id (fun hq => ?_), k3⟩
    rcases pend_close hq with k | k
    · exact k
    · omega
  · show h E = und (B n) g lv (bs n).toInt.toNat W + 1
    have t1 : T = und (B n) g lv (bs n).toInt.toNat (bs (n + 1)).toInt.toNat := t1
    rw [hb] at t1 h8
    have e : und (B (n + 1)) g lv ((W : Int).toNat) W = B (n + 1) := by rw [und, if_pos (by omega)]
    rw [h8, e, t2, t1]; rfl
/-- the rest of ?: : its jump is mended -/
theorem PI_close5 {v : Int64} {x : Nat} (hp : PI h g B a S E (n + 2) W 1 st wt lv op jm bs sg fr pt cn cc pl tg ts) (hb : (bs (n + 1)).toInt = W) (hk : (fr (n + 1)).toInt = 5) (hx : (pt (n + 1)).toInt = x) (hv : v.toInt = E) : PI h g B a S E (n + 1) W 1 st (vp_updL wt x v) lv op jm bs sg fr pt cn cc pl tg ts := by
  obtain ⟨h1, h2, h3, h4, ⟨h5, h5a, h6, h7⟩, h8⟩ := hp
  have h8 : h E = und (B (n + 1)) g lv (bs (n + 1)).toInt.toNat W + 1 := h8
  obtain ⟨_, T, t1, -, -, t4, t5⟩ := h3 (n + 1) (by omega) (by omega)
  have t4 := t4 (by omega)
  obtain ⟨x', x1, xl, x3, x4, -, -, x7⟩ := t5 (by omega)
  have x2 : S ≤ x' := Nat.le_trans (PI_lo h1 h4 h5).2 xl
  obtain rfl : x' = x := by omega
  have x7 := x7 hk
  have t1 : T = und (B n) g lv (bs n).toInt.toNat (bs (n + 1)).toInt.toNat := t1
  rw [hb] at t1 h8
  have e : und (B (n + 1)) g lv ((W : Int).toNat) W = B (n + 1) := by rw [und, if_pos (by omega)]
  have h9 : h E = T + 1 := by rw [h8, e, t4]
  refine ⟨Pshape_close h1 hb, Pops_close h2 hb, Pfrs_close h3, ?_, ⟨h5, h5a, h6, fun q hq1 hq2 => ?_⟩, ?_⟩
  · refine ⟨h4.1, fun hc => (h4.2 hc).imp id (fun ⟨k1, k2, k3, k4, k5, k6⟩ => ⟨k1, k2, k3, k4, k5, ?_⟩)⟩
    have hax : ¬ a = x' := by
      intro e; subst e
      have := (h7 a (by omega) (by omega)).2.2.2 rfl
      omega
    rw [updL_ne hax]; exact k6
  · refine CD_patch (h7 q hq1 hq2) (t := E) hv x3 (Nat.le_refl _) (fun _ => ?_) (by omega) (PI_xa xl (by omega)) (fun hq => ?_)
    · rw [h9, x4]; unfold jh; rw [if_neg (by omega)]
    · rcases pend_close hq with k | k
      · exact Or.inl k
      · exact Or.inr (by omega)
  · show h E = und (B n) g lv (bs n).toInt.toNat W + 1
    rw [h9, t1]; rfl
/-- ) behind the arguments: the call is laid, the jump round it mended -/
theorem PI_close3 {v t : Int64} {s : Int32} {x : Nat} (hp : PI h g B a S E (n + 2) W 1 st wt lv op jm bs sg fr pt cn cc pl tg ts) (hE : E < 8000) (hb : (bs (n + 1)).toInt = W) (hk : (fr (n + 1)).toInt = 3) (hs : s.toInt = 15) (hv : v.toInt = 4 * (cn (n + 1)).toInt + (cc (n + 1)).toInt) (hx : (pt (n + 1)).toInt = x) (ht : t.toInt = E + 1) :
    PI (updI h (E + 1) (h E - (cc (n + 1)).toInt)) g B a S (E + 1) (n + 1) W 1 (upd st E s) (vp_updL (vp_updL wt E v) x t) lv op jm bs sg fr pt cn cc pl tg ts := by
  obtain ⟨h1, h2, h3, h4, ⟨h5, h5a, h6, h7⟩, h8⟩ := hp
  have h8 : h E = und (B (n + 1)) g lv (bs (n + 1)).toInt.toNat W + 1 := h8
  have h1' := Pshape_close h1 hb
  have h2' := Pops_close h2 hb
  have h3' := Pfrs_close h3
  have hub : B 0 ≤ und (B n) g lv (bs n).toInt.toNat W := PI_und h1' h2' h3'
  obtain ⟨_, T, t1, -, t3, -, t5⟩ := h3 (n + 1) (by omega) (by omega)
  obtain ⟨c1, c2, c3, c4, c5⟩ := t3 hk
  obtain ⟨x', x1, xl, x3, x4, x7, -, -⟩ := t5 (by omega)
  have x2 : S ≤ x' := Nat.le_trans (PI_lo h1 h4 h5).2 xl
  obtain rfl : x' = x := by omega
  have x7 := x7 hk
  have t1 : T = und (B n) g lv (bs n).toInt.toNat (bs (n + 1)).toInt.toNat := t1
  rw [hb] at t1 h8
  have t1 : T = und (B n) g lv (bs n).toInt.toNat W := t1
  have e : und (B (n + 1)) g lv ((W : Int).toNat) W = B (n + 1) := by rw [und, if_pos (by omega)]
  have h9 : h E = T + (cc (n + 1)).toInt + 1 := by rw [h8, e, c3]
  have hst : upd st E s x' = st x' := upd_ne (by omega)
  have hPaim := Paim_emit (s := s) (v := v) (y := h E - (cc (n + 1)).toInt) h1 h4
  refine ⟨h1', Pops_emit h2', Pfrs_emit h3', ?_, ⟨by omega, by omega, ?_, fun q hq1 hq2 => ?_⟩, ?_⟩
  · refine ⟨hPaim.1, fun hc => (hPaim.2 hc).imp id (fun ⟨k1, k2, k3, k4, k5, k6⟩ => ⟨k1, k2, k3, k4, k5, ?_⟩)⟩
    have hax : ¬ a = x' := by
      intro e; subst e
      have := (h7 a (by omega) (by omega)).2.2.2 rfl
      omega
    rw [updL_ne hax]; exact k6
  · rw [updI_ap, if_neg (by omega)]; exact h6
  · have key : CD (upd st E s) (vp_updL wt E v) (updI h (E + 1) (h E - (cc (n + 1)).toInt)) a (E + 1) (pend (n + 2) W lv jm fr pt) q := by
      by_cases e : q = E
      · subst e
        refine CD_new h1 h4 h5a (by omega) ?_ (fun hc => ?_)
        · unfold CK
          right; right; left
          rw [hv]
          omega
        · unfold isj at hc; omega
      · exact CD_emit (h7 q hq1 (by omega)) (by omega) id
    refine CD_patch key (t := E + 1) (by rw [ht]; rfl) (by omega) (by omega) (fun _ => ?_) (by rw [hst]; omega) (PI_xa xl (by omega)) (fun hq => ?_)
    · rw [hst, updI_ap, updI_ap, if_pos rfl, if_neg (by omega), x4, h9]
      unfold jh
      rw [if_neg (by omega)]; omega
    · rcases pend_close hq with k | k
      · exact Or.inl k
      · exact Or.inr (by omega)
  · show updI h (E + 1) _ (E + 1) = und (B n) _ _ (bs n).toInt.toNat W + 1
    rw [updI_ap, if_pos rfl, h9]; omega
/-- : behind ? -/
theorem PI_else {v t : Int64} {s k b z p1 pp : Int32} {x : Nat} (hp : PI h g B a S E (n + 2) W 1 st wt lv op jm bs sg fr pt cn cc pl tg ts) (hE : E < 8000) (hb : (bs (n + 1)).toInt = W) (hk : (fr (n + 1)).toInt = 4) (hs : s.toInt = 36) (hx : (pt (n + 1)).toInt = x) (ht : t.toInt = E + 1) (hk2 : k.toInt = 5) (hpp : pp.toInt = E) (hb2 : b.toInt = W) (hz : z.toInt = 0) :
    PI (updI h (E + 1) (h E - 1)) g B a S (E + 1) (n + 2) W 0 (upd st E s) (vp_updL (vp_updL wt E v) x t) lv op jm (upd bs (n + 1) b) (upd sg (n + 1) z) (upd fr (n + 1) k) (upd pt (n + 1) pp) cn cc (upd pl (n + 1) p1) tg ts := by
  obtain ⟨h1, h2, h3, h4, ⟨h5, h5a, h6, h7⟩, h8⟩ := hp
  have h8 : h E = und (B (n + 1)) g lv (bs (n + 1)).toInt.toNat W + 1 := h8
  have h1c := Pshape_close h1 hb
  have h2c := Pops_close h2 hb
  have h3c := Pfrs_close h3
  have hub : B 0 ≤ und (B n) g lv (bs n).toInt.toNat W := PI_und h1c h2c h3c
  obtain ⟨t0, T, t1, -, -, t4, t5⟩ := h3 (n + 1) (by omega) (by omega)
  have t4 := t4 (by omega)
  obtain ⟨x', x1, xl, x3, x4, -, x7, -⟩ := t5 (by omega)
  have hlo := PI_lo h1 h4 h5
  have x2 : S ≤ x' := Nat.le_trans hlo.2 xl
  obtain rfl : x' = x := by omega
  have x7 := x7 hk
  have t1 : T = und (B n) g lv (bs n).toInt.toNat (bs (n + 1)).toInt.toNat := t1
  have hbs : upd bs (n + 1) b = bs := by
    funext j
    by_cases e : j = n + 1
    · subst e; rw [upd_eq]; exact Int32.toInt_inj.mp (by omega)
    · rw [upd_ne e]
  rw [hbs]
  rw [hb] at t1 h8
  have t1 : T = und (B n) g lv (bs n).toInt.toNat W := t1
  have e : und (B (n + 1)) g lv ((W : Int).toNat) W = B (n + 1) := by rw [und, if_pos (by omega)]
  have h9 : h E = T + 1 := by rw [h8, e, t4]
  have hst : upd st E s x' = st x' := upd_ne (by omega)
  have hPaim := Paim_emit (s := s) (v := v) (y := h E - 1) h1 h4
  obtain ⟨j1, j2, j3, j4, j5, j6, j7, j8, j9⟩ := h1
  refine ⟨⟨j1, j2, j3, j4, j5, by rw [upd_ne (by omega)]; exact j6, fun f a1 a2 => ?_, fun f hf => ?_, fun hc => ?_⟩, Pops_emit h2, ?_, ?_, ⟨by omega, by omega, ?_, fun q hq1 hq2 => ?_⟩, ?_⟩
  · rw [upd_ap]; split
    · omega
    · exact j7 f a1 a2
  · rw [upd_ap, upd_ap]
    by_cases e : f = n + 1
    · rw [if_pos e, if_pos e]; exact ⟨Or.inl hz, fun hc => absurd hz hc⟩
    · rw [if_neg e, if_neg e]; exact j8 f hf
  · rw [upd_ne (by omega)] at hc; exact j9 hc
  · intro f hf1 hf2
    by_cases e : f = n + 1
    · subst e
      simp only [upd_eq]
      refine ⟨t0, T, ?_, fun hc => by omega, fun hc => by omega, fun _ => t4, fun _ => ⟨E, hpp, hlo.1, by omega, ?_, fun hc => by omega, fun hc => by omega, fun _ => by rw [upd_eq]; exact Or.inl hs⟩⟩
      · rw [hb]; exact t1
      · rw [updI_ap, if_neg (by omega)]; exact h9
    · obtain ⟨k1, T', k2, k3⟩ := Pfrs_emit (s := s) (y := h E - 1) h3 f hf1 hf2
      simp only [upd_ne e]
      exact ⟨k1, T', k2, k3⟩
  · unfold Paim
    rw [upd_ne (by omega)]
    refine ⟨hPaim.1, fun hc => (hPaim.2 hc).imp id (fun ⟨k1, k2, k3, k4, k5, k6⟩ => ⟨k1, k2, k3, k4, k5, ?_⟩)⟩
    have hax : ¬ a = x' := by
      intro e; subst e
      have := (h7 a (by omega) (by omega)).2.2.2 rfl
      omega
    rw [updL_ne hax]; exact k6
  · rw [updI_ap, if_neg (by omega)]; exact h6
  · have key : CD (upd st E s) (vp_updL wt E v) (updI h (E + 1) (h E - 1)) a (E + 1) (fun q => pend (n + 2) W lv jm fr pt q ∨ q = E) q := by
      by_cases e : q = E
      · subst e
        refine CD_new ⟨j1, j2, j3, j4, j5, j6, j7, j8, j9⟩ h4 h5a (by omega) ?_ (fun hc => Or.inr rfl)
        unfold CK
        omega
      · exact CD_emit (h7 q hq1 (by omega)) (by omega) Or.inl
    refine CD_patch key (t := E + 1) (by rw [ht]; rfl) (by omega) (by omega) (fun _ => ?_) (by rw [hst]; omega) (PI_xa xl (by omega)) (fun hq => ?_)
    · rw [hst, updI_ap, updI_ap, if_pos rfl, if_neg (by omega), x4, h9]
      unfold jh
      rw [if_pos (by omega)]; first | done | omega
    · rcases hq with (hq | ⟨f, f1, f2, f3, f4⟩) | hq
      · exact Or.inl (Or.inl hq)
      · by_cases e : f = n + 1
        · subst e; exact Or.inr (by omega)
        · exact Or.inl (Or.inr ⟨f, f1, f2, by rw [upd_ne e]; exact f3, by rw [upd_ne e]; exact f4⟩)
      · subst hq
        exact Or.inl (Or.inr ⟨n + 1, by omega, by omega, by rw [upd_eq]; omega, by rw [upd_eq]; exact hpp⟩)
  · show updI h (E + 1) _ (E + 1) = und (B (n + 1)) g lv (bs (n + 1)).toInt.toNat W + 0
    rw [hb, updI_ap, if_pos rfl, e, h9, t4]; omega
/-- , behind the first argument -/
theorem PI_comma {b z p1 c2 : Int32} (hp : PI h g B a S E (n + 2) W 1 st wt lv op jm bs sg fr pt cn cc pl tg ts) (hb : (bs (n + 1)).toInt = W) (hk : (fr (n + 1)).toInt = 3) (hc1 : (cc (n + 1)).toInt = 1) (hc2 : c2.toInt = 2) (hb2 : b.toInt = W) (hz : z.toInt = 0) :
    PI h g (updI B (n + 1) (B (n + 1) + 1)) a S E (n + 2) W 0 st wt lv op jm (upd bs (n + 1) b) (upd sg (n + 1) z) fr pt cn (upd cc (n + 1) c2) (upd pl (n + 1) p1) tg ts := by
  obtain ⟨h1, h2, h3, h4, ⟨h5, h5a, h6, h7⟩, h8⟩ := hp
  have h8 : h E = und (B (n + 1)) g lv (bs (n + 1)).toInt.toNat W + 1 := h8
  have hbs : upd bs (n + 1) b = bs := by
    funext j
    by_cases e : j = n + 1
    · subst e; rw [upd_eq]; exact Int32.toInt_inj.mp (by omega)
    · rw [upd_ne e]
  rw [hbs]
  have hB0 : updI B (n + 1) (B (n + 1) + 1) 0 = B 0 := by rw [updI_ap, if_neg (by omega)]
  have e : ∀ y : Int, und y g lv (bs (n + 1)).toInt.toNat W = y := fun y => by rw [und, if_pos (by omega)]
  rw [e] at h8
  obtain ⟨j1, j2, j3, j4, j5, j6, j7, j8, j9⟩ := h1
  refine ⟨⟨j1, j2, j3, j4, j5, j6, j7, fun f hf => ?_, fun hc => ?_⟩, ⟨fun w hw => by rw [hB0]; exact h2.1 w hw, fun f w hf hw1 hw2 => ?_⟩, ?_, ?_, ⟨h5, h5a, h6, h7⟩, ?_⟩
  · rw [upd_ap, upd_ap]
    by_cases e : f = n + 1
    · rw [if_pos e, if_pos e]; exact ⟨Or.inl hz, fun hc => absurd hz hc⟩
    · rw [if_neg e, if_neg e]; exact j8 f hf
  · rw [upd_ne (by omega)] at hc; exact j9 hc
  · by_cases e2 : f = n + 1
    · subst e2; unfold lim at hw2; rw [if_neg (by omega)] at hw2; omega
    · rw [updI_ap, if_neg e2]; exact h2.2 f w hf hw1 hw2
  · intro f hf1 hf2
    obtain ⟨k1, T, k2, k3, k4, k5, k6⟩ := h3 f hf1 hf2
    rw [hB0]
    have e3 : updI B (n + 1) (B (n + 1) + 1) (f - 1) = B (f - 1) := by rw [updI_ap, if_neg (by omega)]
    rw [e3]
    by_cases e2 : f = n + 1
    · subst e2
      have k4 := k4 hk
      rw [updI_ap, if_pos rfl, upd_eq]
      exact ⟨by omega, T, k2, fun hc => by omega, fun _ => ⟨by omega, by omega, by omega, k4.2.2.2⟩, fun hc => by omega, k6⟩
    · rw [updI_ap, if_neg e2, upd_ne e2]
      exact ⟨k1, T, k2, k3, k4, k5, k6⟩
  · unfold Paim at *
    rw [hB0]; exact h4
  · show h E = und (updI B (n + 1) _ (n + 1)) g lv (bs (n + 1)).toInt.toNat W + 0
    rw [e, updI_ap, if_pos rfl, h8]; omega
/-- a call without arguments -/
theorem PI_call0 {v1 v2 t : Int64} {s1 s2 : Int32} {y : Nat} (hp : PI h g B a S E F W 1 st wt lv op jm bs sg fr pt cn cc pl tg ts) (hF : F = n + 1) (hE : E < 8000) (hs1 : s1.toInt = 13 ∨ s1.toInt = 14) (hs2 : s2.toInt = 15) (hv : 0 ≤ v2.toInt ∧ v2.toInt % 4 = 0) (ht : t.toInt = E + 2) :
    PI (updI (updI h (E + 1) (h E)) (E + 2) (h E)) g B a S (E + 2) F W 1 (upd (upd st E s1) (E + 1) s2) (vp_updL (vp_updL (vp_updL wt E v1) (E + 1) v2) E t) lv op jm bs sg fr pt cn cc pl tg ts := by
  subst hF
  obtain ⟨h1, h2, h3, h4, ⟨h5, h5a, h6, h7⟩, h8⟩ := hp
  have h8 : h E = und (B n) g lv (bs n).toInt.toNat W + 1 := h8
  have hub : B 0 ≤ und (B n) g lv (bs n).toInt.toNat W := PI_und h1 h2 h3
  have q1 : updI h (E + 1) (h E) (E + 1) = h E := by rw [updI_ap, if_pos rfl]
  have hP1 := Paim_emit (s := s1) (v := v1) (y := h E) h1 h4
  have hP2 := Paim_emit (s := s2) (v := v2) (y := h E) h1 hP1
  refine ⟨h1, Pops_emit (Pops_emit h2), Pfrs_emit (Pfrs_emit h3), ?_, ⟨by omega, by omega, ?_, fun q hq1 hq2 => ?_⟩, ?_⟩
  · refine ⟨hP2.1, fun hc => ?_⟩
    rcases hP1.2 hc with k | k
    · exact Or.inl k
    · rcases hP2.2 hc with k' | ⟨k1, k2, k3, k4, k5, k6⟩
      · omega
      · have hax : ¬ a = E := by
          rcases h4.2 hc with k' | ⟨m1, m2, m3, m4, -⟩
          · omega
          · omega
        exact Or.inr ⟨k1, k2, k3, k4, k5, by rw [updL_ne hax]; exact k6⟩
  · rw [updI_ap, if_neg (by omega), updI_ap, if_neg (by omega)]; exact h6
  · have key : CD (upd (upd st E s1) (E + 1) s2) (vp_updL (vp_updL wt E v1) (E + 1) v2) (updI (updI h (E + 1) (h E)) (E + 2) (h E)) a (E + 2) (fun q => pend (n + 1) W lv jm fr pt q ∨ q = E) q := by
      by_cases e : q = E + 1
      · subst e
        refine CD_new h1 hP1 (by omega) (by omega) ?_ (fun hc => ?_)
        · rw [q1]; unfold CK; omega
        · unfold isj at hc; omega
      · refine CD_emit (pd := fun q => pend (n + 1) W lv jm fr pt q ∨ q = E) ?_ (by omega) id
        by_cases e2 : q = E
        · subst e2
          refine CD_new h1 h4 h5a (by omega) ?_ (fun _ => Or.inr rfl)
          unfold CK; omega
        · exact CD_emit (h7 q hq1 (by omega)) (by omega) Or.inl
    have hst : upd (upd st E s1) (E + 1) s2 E = s1 := by rw [upd_ne (by omega), upd_eq]
    refine CD_patch key (t := E + 2) (by rw [ht]; rfl) (by omega) (by omega) (fun _ => ?_) (by rw [hst]; omega) (PI_xa (PI_lo h1 h4 h5).1 (by omega)) id
    rw [hst, updI_ap, if_pos rfl, updI_ap, if_neg (by omega), updI_ap, if_neg (by omega)]
    unfold jh; rw [if_neg (by omega)]
  · show updI _ (E + 2) (h E) (E + 2) = und (B n) _ _ (bs n).toInt.toNat W + 1
    rw [updI_ap, if_pos rfl, h8]
/-- the first frame -/
theorem PI_left {b k z : Int32} (hb : b.toInt = 0) (hk : k.toInt = 0) (hz : z.toInt = 0) (hS : S ≤ 9000) : PI (fun _ => 0) (fun _ => 0) (fun _ => 0) 10000 S S 1 0 0 st wt lv op jm (upd bs 0 b) (upd sg 0 z) (upd fr 0 k) pt cn cc pl tg ts := by
  refine ⟨⟨by omega, by omega, by rw [upd_eq]; exact hb, fun f hf => ?_, fun f hf => ?_, by rw [upd_eq]; omega, fun f a1 a2 => by omega, fun f hf => ?_, fun _ => ?_⟩, ⟨fun w hw => by omega, fun f w a1 a2 a3 => ?_⟩, fun f a1 a2 => by omega, ⟨fun _ => ⟨Nat.le_refl _, rfl⟩, fun hc => ?_⟩, ⟨Nat.le_refl _, hS, rfl, fun q a1 a2 => by omega⟩, ?_⟩
  · obtain rfl : f = 0 := by omega
    rw [upd_eq, hb]; unfold lim; rw [if_neg (by omega)]; omega
  · obtain rfl : f = 0 := by omega
    rw [upd_eq, hb]; omega
  · obtain rfl : f = 0 := by omega
    rw [upd_eq]; exact ⟨Or.inl hz, fun hc => absurd hz hc⟩
  · unfold lim; rw [if_neg (by omega)]; rfl
  · unfold lim at a3; split at a3 <;> omega
  · rw [upd_eq] at hc; omega
  · show (0 : Int) = und 0 _ _ _ 0 + 0
    unfold und; rw [if_pos (by omega)]; rfl
/-- what stands on the left of = -/
def Plast (S E F : Nat) (o : Int) (st : Nat → Int32) (wt : Nat → Int64) (fr pl ai : Nat → Int32) : Prop := F = 1 → (fr 0).toInt = 0 → ¬ (pl 0).toInt = 0 → ¬ (ai 0).toInt = 0 → o = 1 → ∃ E' : Nat, E = E' + 1 ∧ S ≤ E' ∧ ((st E').toInt = 9 ∨ (st E').toInt = 11 ∨ (st E').toInt = 12) ∧ ∀ q, S ≤ q → q < E' → isj (st q).toInt → ∃ t : Nat, (wt q).toInt = t ∧ q < t ∧ t ≤ E'
theorem Pcode_noP {q : Nat} (h1 : Pshape 1 W bs sg fr pl) (hp : ¬ (pl 0).toInt = 0) (k : CD st wt h a E (pend 1 W lv jm fr pt) q) : W = 0 ∧ CD st wt h a E (fun _ => False) q := by
  have hW : W = 0 := by
    have := h1.2.2.2.2.2.2.2.2 hp
    unfold lim at this; rw [if_neg (by omega)] at this; omega
  subst hW
  obtain ⟨k1, k2, k3⟩ := k
  refine ⟨rfl, k1, fun hc => (k2 hc).imp id (fun hq => ?_), k3⟩
  rcases hq with ⟨w, w1, -⟩ | ⟨f, f1, f2, -⟩ <;> omega
theorem PI_assignV {b k z p1 tg' ts' : Int32} (hp : PI h g B a S (E + 1) 1 W 1 st wt lv op jm bs sg fr pt cn cc pl tg ts) (hl : ∀ q, S ≤ q → q < E → isj (st q).toInt → ∃ t : Nat, (wt q).toInt = t ∧ q < t ∧ t ≤ E) (hSE : S ≤ E) (hs : (st E).toInt = 9) (hfr : (fr 0).toInt = 0) (hpl : ¬ (pl 0).toInt = 0) (hk : k.toInt = 1) (hts : ts'.toInt = 38) (hb : b.toInt = W) (hz : z.toInt = 0) :
    PI h g B a S E 1 W 0 st wt lv op jm (upd bs 0 b) (upd sg 0 z) (upd fr 0 k) pt cn cc (upd pl 0 p1) tg' ts' := by
  obtain ⟨h1, h2, h3, h4, ⟨h5, h5a, h6, h7⟩, h8⟩ := hp
  have hW := (Pcode_noP h1 hpl (h7 E hSE (by omega))).1
  subst hW
  obtain ⟨ha, hB⟩ := h4.1 hfr
  have h8 : h (E + 1) = und (B 0) g lv (bs 0).toInt.toNat 0 + 1 := h8
  unfold und at h8
  rw [if_pos (by omega), hB] at h8
  have hE := (h7 E hSE (by omega)).1
  rw [hs] at hE
  have hE0 : h E = 0 := by unfold CK at hE; omega
  obtain ⟨j1, j2, j3, j4, j5, j6, j7, j8, j9⟩ := h1
  refine ⟨⟨by omega, by omega, by rw [upd_eq]; exact hb, fun f hf => ?_, fun f hf => ?_, by rw [upd_eq]; omega, fun f a1 a2 => by omega, fun f hf => ?_, fun _ => ?_⟩, ⟨fun w hw => by omega, fun f w a1 a2 a3 => ?_⟩, fun f a1 a2 => by omega, ⟨fun hc => ?_, fun hc => Or.inl ⟨hts, hB, ha⟩⟩, ⟨hSE, by omega, h6, fun q a1 a2 => ?_⟩, ?_⟩
  · obtain rfl : f = 0 := by omega
    rw [upd_eq, hb]; unfold lim; rw [if_neg (by omega)]; omega
  · obtain rfl : f = 0 := by omega
    rw [upd_eq, hb]; omega
  · obtain rfl : f = 0 := by omega
    rw [upd_eq]; exact ⟨Or.inl hz, fun hc => absurd hz hc⟩
  · unfold lim; rw [if_neg (by omega)]; rfl
  · unfold lim at a3; split at a3 <;> omega
  · rw [upd_eq] at hc; omega
  · obtain ⟨k1, k2, k3⟩ := h7 q a1 (by omega)
    refine ⟨k1, fun hc => Or.inl ?_, k3⟩
    obtain ⟨t, t1, t2, t3⟩ := hl q a1 a2 hc
    rcases k2 hc with ⟨t', u1, u2, u3, u4⟩ | hq
    · obtain rfl : t' = t := by omega
      exact ⟨t', u1, u2, t3, u4.1, fun _ => by omega⟩
    · rcases hq with ⟨w, w1, -⟩ | ⟨f, f1, f2, -⟩ <;> omega
  · show h E = und (B 0) g lv _ 0 + 0
    unfold und; rw [if_pos (by omega), hE0, hB]; rfl
theorem PI_assignP {b k z p1 tg' ts' s : Int32} {v : Int64} (hp : PI h g B a S (E + 1) 1 W 1 st wt lv op jm bs sg fr pt cn cc pl tg ts) (hl : ∀ q, S ≤ q → q < E → isj (st q).toInt → ∃ t : Nat, (wt q).toInt = t ∧ q < t ∧ t ≤ E) (hSE : S ≤ E) (hE : E < 8000) (hs : (st E).toInt = 11 ∨ (st E).toInt = 12) (hs' : s.toInt = 39) (hv : v.toInt = tg'.toInt) (hfr : (fr 0).toInt = 0) (hpl : ¬ (pl 0).toInt = 0) (hk : k.toInt = 1) (hts : ts'.toInt = 40) (hb : b.toInt = W) (hz : z.toInt = 0) :
    PI h g (updI B 0 1) E S (E + 1) 1 W 0 (upd st E s) (vp_updL wt E v) lv op jm (upd bs 0 b) (upd sg 0 z) (upd fr 0 k) pt cn cc (upd pl 0 p1) tg' ts' := by
  obtain ⟨h1, h2, h3, h4, ⟨h5, h5a, h6, h7⟩, h8⟩ := hp
  have hW := (Pcode_noP h1 hpl (h7 E hSE (by omega))).1
  subst hW
  obtain ⟨ha, hB⟩ := h4.1 hfr
  have h8 : h (E + 1) = und (B 0) g lv (bs 0).toInt.toNat 0 + 1 := h8
  unfold und at h8
  rw [if_pos (by omega), hB] at h8
  have hE1 := (h7 E hSE (by omega)).1
  have hE0 : h E = 1 := by unfold CK at hE1; omega
  have hB1 : updI B 0 1 0 = 1 := by rw [updI_ap, if_pos rfl]
  obtain ⟨j1, j2, j3, j4, j5, j6, j7, j8, j9⟩ := h1
  refine ⟨⟨by omega, by omega, by rw [upd_eq]; exact hb, fun f hf => ?_, fun f hf => ?_, by rw [upd_eq]; omega, fun f a1 a2 => by omega, fun f hf => ?_, fun _ => ?_⟩, ⟨fun w hw => by omega, fun f w a1 a2 a3 => ?_⟩, fun f a1 a2 => by omega, ⟨fun hc => ?_, fun hc => Or.inr ⟨hts, hB1, hSE, by omega, hE0, by rw [updL_eq]; exact hv⟩⟩, ⟨by omega, by omega, h6, fun q a1 a2 => ?_⟩, ?_⟩
  · obtain rfl : f = 0 := by omega
    rw [upd_eq, hb]; unfold lim; rw [if_neg (by omega)]; omega
  · obtain rfl : f = 0 := by omega
    rw [upd_eq, hb]; omega
  · obtain rfl : f = 0 := by omega
    rw [upd_eq]; exact ⟨Or.inl hz, fun hc => absurd hz hc⟩
  · unfold lim; rw [if_neg (by omega)]; rfl
  · unfold lim at a3; split at a3 <;> omega
  · rw [upd_eq] at hc; omega
  · obtain ⟨k1, k2, k3⟩ := h7 q a1 (by omega)
    by_cases e : q = E
    · subst e
      unfold CD
      rw [upd_eq, updL_eq]
      refine ⟨?_, fun hc => ?_, fun _ => rfl, fun _ => hs'⟩
      · unfold CK fl; rw [if_neg (by omega)]; omega
      · unfold isj at hc; omega
    · unfold CD
      rw [upd_ne e, updL_ne e]
      have e1 : fl a q = fl E q := by unfold fl; rw [if_neg (by omega), if_neg (by omega)]
      refine ⟨by rw [← e1]; exact k1, fun hc => Or.inl ?_, fun hc => ?_, fun hc => absurd hc e⟩
      · obtain ⟨t, t1, t2, t3⟩ := hl q a1 (by omega) hc
        rcases k2 hc with ⟨t', u1, u2, u3, u4⟩ | hq
        · obtain rfl : t' = t := by omega
          exact ⟨t', u1, u2, by omega, u4.1, fun _ => t3⟩
        · rcases hq with ⟨w, w1, -⟩ | ⟨f, f1, f2, -⟩ <;> omega
      · have := k3.1 hc; omega
  · show h (E + 1) = und (updI B 0 1 0) g lv _ 0 + 0
    unfold und; rw [if_pos (by omega), h8, hB1]; rfl
theorem hb_same {h : Nat → Int} {S E : Nat} {n n' : Int} (hh : ∀ q, S ≤ q → q ≤ E → h q ≤ n) (hn : n ≤ n') : ∀ q, S ≤ q → q ≤ E → h q ≤ n' := fun q a1 a2 => Int.le_trans (hh q a1 a2) hn
theorem hb_ext {h : Nat → Int} {S E : Nat} {n n' y : Int} (hh : ∀ q, S ≤ q → q ≤ E → h q ≤ n) (hy : y ≤ n') (hn : n ≤ n') : ∀ q, S ≤ q → q ≤ E + 1 → updI h (E + 1) y q ≤ n' := fun q a1 a2 => by
  rw [updI_ap]; split
  · exact hy
  · exact Int.le_trans (hh q a1 (by omega)) hn
/-- a program's code, as the runner asks it -/
def Prog (st : Nat → Int32) (wt : Nat → Int64) (S E : Nat) : Prop := S ≤ E ∧ E ≤ S + 90 ∧ ∃ (h : Nat → Int) (a : Nat), h S = 0 ∧ h E = 1 ∧ (∀ q, S ≤ q → q ≤ E → h q ≤ 45) ∧ (∀ q, S ≤ q → q < E → ((CK (st q).toInt (wt q).toInt (h q) (h (q + 1)) (fl a q) ∧ ((st q).toInt = 39 ↔ q = a)) ∨ ((st q).toInt = 38 ∧ h (q + 1) = h q ∧ q + 1 = E ∧ 1 + fl a q ≤ h q) ∨ ((st q).toInt = 40 ∧ h q = 2 ∧ h (q + 1) = 1 ∧ q + 1 = E ∧ S ≤ a ∧ a < q ∧ h a = 1 ∧ (wt a).toInt32 = (wt q).toInt32)) ∧ (isj (st q).toInt → ∃ t : Nat, (wt q).toInt = t ∧ q < t ∧ t ≤ E ∧ h t = jh (st q).toInt (h q) ∧ (q < a → t ≤ a)))
theorem Prog_left (hh : ∀ q, S ≤ q → q ≤ E → h q ≤ 45) (hp : PI h g B a S E 1 0 1 st wt lv op jm bs sg fr pt cn cc pl tg ts) (hfr : (fr 0).toInt = 0) (hE : E ≤ S + 90) : Prog st wt S E := by
  obtain ⟨h1, h2, h3, h4, ⟨h5, h5a, h6, h7⟩, h8⟩ := hp
  have h8 : h E = und (B 0) g lv (bs 0).toInt.toNat 0 + 1 := h8
  unfold und at h8
  rw [if_pos (by omega), (h4.1 hfr).2] at h8
  refine ⟨h5, hE, h, a, h6, by omega, hh, fun q a1 a2 => ?_⟩
  obtain ⟨k1, k2, k3⟩ := h7 q a1 a2
  refine ⟨Or.inl ⟨k1, k3⟩, fun hc => ?_⟩
  rcases k2 hc with k | hq
  · exact k
  · rcases hq with ⟨w, w1, -⟩ | ⟨f, f1, f2, -⟩ <;> omega
theorem Prog_right {v : Int64} (hh : ∀ q, S ≤ q → q ≤ E → h q ≤ 45) (hp : PI h g B a S E 1 0 1 st wt lv op jm bs sg fr pt cn cc pl tg ts) (hfr : (fr 0).toInt = 1) (hE : E < S + 90) (hv : v.toInt = tg.toInt) : Prog (upd st E ts) (vp_updL wt E v) S (E + 1) := by
  obtain ⟨h1, h2, h3, h4, ⟨h5, h5a, h6, h7⟩, h8⟩ := hp
  have h8 : h E = und (B 0) g lv (bs 0).toInt.toNat 0 + 1 := h8
  unfold und at h8
  rw [if_pos (by omega)] at h8
  refine ⟨by omega, by omega, updI h (E + 1) 1, a, by rw [updI_ap, if_neg (by omega)]; exact h6, by rw [updI_ap, if_pos rfl], hb_ext hh (by omega) (Int.le_refl _), fun q a1 a2 => ?_⟩
  by_cases e : q = E
  · subst e
    rw [upd_eq, updL_eq, updI_ap, if_neg (by omega), updI_ap, if_pos rfl]
    refine ⟨Or.inr ?_, fun hc => ?_⟩
    · rcases h4.2 hfr with ⟨m1, m2, m3⟩ | ⟨m1, m2, m3, m4, m5, m6⟩
      · refine Or.inl ⟨m1, by omega, rfl, ?_⟩
        unfold fl; rw [if_neg (by omega)]; omega
      · refine Or.inr ⟨m1, by omega, rfl, rfl, m3, m4, by rw [updI_ap, if_neg (by omega)]; exact m5, ?_⟩
        rw [updL_ne (by omega)]
        rw [Int64.toInt_inj.mp (m6.trans hv.symm)]
    · unfold isj at hc
      rcases h4.2 hfr with ⟨m1, m2, m3⟩ | ⟨m1, m2, m3, m4, m5, m6⟩ <;> omega
  · obtain ⟨k1, k2, k3⟩ := h7 q a1 (by omega)
    rw [upd_ne e, updL_ne e, updI_ap, updI_ap, if_neg (by omega), if_neg (by omega)]
    refine ⟨Or.inl ⟨k1, k3⟩, fun hc => ?_⟩
    rcases k2 hc with ⟨t, t1, t2, t3, t4, t5⟩ | hq
    · exact ⟨t, t1, t2, by omega, by rw [updI_ap, if_neg (by omega)]; exact t4, t5⟩
    · rcases hq with ⟨w, w1, -⟩ | ⟨f, f1, f2, -⟩ <;> omega
end PI1
