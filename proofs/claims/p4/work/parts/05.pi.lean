/-! ===== the reference's parser: what holds between its methods ===== -/
def dlt (x : Int32) : Int := if x.toInt ≤ 2 then 0 else 1
def und (B : Int) (g : Nat → Int) (lv : Nat → Int32) (b w : Nat) : Int := if w ≤ b then B else g (w - 1) + dlt (lv (w - 1))
def jh (s h : Int) : Int := if s = 35 then h - 1 else h
def isj (s : Int) : Prop := s = 14 ∨ s = 32 ∨ s = 33 ∨ s = 35 ∨ s = 36 ∨ s = 37
def CK (s w h h' fl : Int) : Prop :=
  (1 ≤ s ∧ s ≤ 10 ∧ h' = h + 1 ∧ fl ≤ h) ∨ ((s = 11 ∨ s = 12 ∨ s = 13 ∨ s = 14 ∨ s = 30 ∨ s = 31 ∨ s = 34 ∨ s = 39) ∧ h' = h ∧ fl + 1 ≤ h) ∨ (s = 15 ∧ 0 ≤ w ∧ w % 4 ≤ 2 ∧ h' = h - w % 4 ∧ fl + 1 + w % 4 ≤ h) ∨ (16 ≤ s ∧ s ≤ 26 ∧ h' = h - 1 ∧ fl + 2 ≤ h) ∨ ((s = 32 ∨ s = 33 ∨ s = 35 ∨ s = 36 ∨ s = 37) ∧ h' = h - 1 ∧ fl + 1 ≤ h)
def fl (a q : Nat) : Int := if a < q then 1 else 0
def lim (F W : Nat) (bs : Nat → Int32) (f : Nat) : Int := if f + 1 < F then (bs (f + 1)).toInt else W
def pot (sg : Nat → Int32) : Nat → Int | 0 => 0 | n + 1 => pot sg n + (if (sg n).toInt = 0 then 0 else 1)
def pend (F W : Nat) (lv jm fr pt : Nat → Int32) (q : Nat) : Prop := (∃ w, w < W ∧ (lv w).toInt ≤ 2 ∧ (jm w).toInt = q) ∨ (∃ f, 1 ≤ f ∧ f < F ∧ 3 ≤ (fr f).toInt ∧ (pt f).toInt = q)
/-- a code place is typed: falling through, and jumping -/
def CD (st : Nat → Int32) (wt : Nat → Int64) (h : Nat → Int) (a E : Nat) (pd : Nat → Prop) (q : Nat) : Prop :=
  CK (st q).toInt (wt q).toInt (h q) (h (q + 1)) (fl a q) ∧ (isj (st q).toInt → (∃ t : Nat, (wt q).toInt = t ∧ q < t ∧ t ≤ E ∧ h t = jh (st q).toInt (h q)) ∨ pd q) ∧ ((st q).toInt = 39 ↔ q = a)
def Pshape (F W : Nat) (bs sg fr pl : Nat → Int32) : Prop := 1 ≤ F ∧ F ≤ 5 ∧ (bs 0).toInt = 0 ∧ (∀ f, f < F → 0 ≤ (bs f).toInt ∧ (bs f).toInt ≤ lim F W bs f) ∧ (∀ f, f < F → (bs f).toInt ≤ W) ∧ ((fr 0).toInt = 0 ∨ (fr 0).toInt = 1) ∧ (∀ f, 1 ≤ f → f < F → 2 ≤ (fr f).toInt ∧ (fr f).toInt ≤ 5) ∧ (∀ f, f < F → ((sg f).toInt = 0 ∨ (sg f).toInt = 30 ∨ (sg f).toInt = 31) ∧ (¬ (sg f).toInt = 0 → (pl f).toInt = 0)) ∧ (¬ (pl 0).toInt = 0 → lim F W bs 0 = 0)
def Pops (h g B : Nat → Int) (S E F W : Nat) (st lv op jm bs : Nat → Int32) : Prop :=
  (∀ w, w < W → 1 ≤ (lv w).toInt ∧ (lv w).toInt ≤ 5 ∧ B 0 ≤ g w ∧ (2 < (lv w).toInt → 16 ≤ (op w).toInt ∧ (op w).toInt ≤ 26) ∧ ((lv w).toInt ≤ 2 → ∃ q : Nat, (jm w).toInt = q ∧ S ≤ q ∧ q < E ∧ ((st q).toInt = 32 ∨ (st q).toInt = 33) ∧ h q = g w + 1)) ∧
  (∀ f w : Nat, f < F → (bs f).toInt ≤ w → (w : Int) < lim F W bs f → g w = und (B f) g lv (bs f).toInt.toNat w)
def Pfrs (h g B : Nat → Int) (S E F : Nat) (st lv bs fr pt cn cc : Nat → Int32) : Prop :=
  ∀ f, 1 ≤ f → f < F → B 0 ≤ B f ∧ ∃ T : Int, T = und (B (f - 1)) g lv (bs (f - 1)).toInt.toNat (bs f).toInt.toNat ∧ ((fr f).toInt = 2 → B f = T) ∧ ((fr f).toInt = 3 → 1 ≤ (cc f).toInt ∧ (cc f).toInt ≤ 2 ∧ B f = T + (cc f).toInt ∧ 0 ≤ (cn f).toInt ∧ (cn f).toInt ≤ 14348906) ∧ (4 ≤ (fr f).toInt → B f = T) ∧ (3 ≤ (fr f).toInt → ∃ q : Nat, (pt f).toInt = q ∧ S ≤ q ∧ q < E ∧ h q = T + 1 ∧ ((fr f).toInt = 3 → (st q).toInt = 13 ∨ (st q).toInt = 14) ∧ ((fr f).toInt = 4 → (st q).toInt = 35) ∧ ((fr f).toInt = 5 → (st q).toInt = 36 ∨ (st q).toInt = 37))
def Paim (h B : Nat → Int) (a S E : Nat) (st : Nat → Int32) (wt : Nat → Int64) (fr : Nat → Int32) (tg ts : Int32) : Prop :=
  ((fr 0).toInt = 0 → 10000 ≤ a ∧ B 0 = 0) ∧ ((fr 0).toInt = 1 → (ts.toInt = 38 ∧ B 0 = 0 ∧ 10000 ≤ a) ∨ (ts.toInt = 40 ∧ B 0 = 1 ∧ S ≤ a ∧ a < E ∧ h a = 1 ∧ (wt a).toInt = tg.toInt))
/-- the parser's state; o: 1 where a value has just been left on the stack -/
def PI (h g B : Nat → Int) (a S E F W : Nat) (o : Int) (st : Nat → Int32) (wt : Nat → Int64) (lv op jm bs sg fr pt cn cc pl : Nat → Int32) (tg ts : Int32) : Prop :=
  Pshape F W bs sg fr pl ∧ Pops h g B S E F W st lv op jm bs ∧ Pfrs h g B S E F st lv bs fr pt cn cc ∧ Paim h B a S E st wt fr tg ts ∧ (S ≤ E ∧ E ≤ 9000 ∧ h S = 0 ∧ ∀ q, S ≤ q → q < E → CD st wt h a E (pend F W lv jm fr pt) q) ∧ h E = und (B (F - 1)) g lv (bs (F - 1)).toInt.toNat W + o
theorem upd_ap {f : Nat → Int32} {k : Nat} {v : Int32} {j : Nat} : upd f k v j = if j = k then v else f j := rfl
theorem updL_ap {f : Nat → Int64} {k : Nat} {v : Int64} {j : Nat} : vp_updL f k v j = if j = k then v else f j := rfl
def updI (f : Nat → Int) (k : Nat) (v : Int) : Nat → Int := fun j => if j = k then v else f j
theorem updI_ap {f : Nat → Int} {k : Nat} {v : Int} {j : Nat} : updI f k v j = if j = k then v else f j := rfl
section PI1
variable {h g B : Nat → Int} {a S E F W n : Nat} {o : Int} {st : Nat → Int32} {wt : Nat → Int64} {lv op jm bs sg fr pt cn cc pl : Nat → Int32} {tg ts : Int32}
theorem PI_fl (h1 : Pshape F W bs sg fr pl) (h4 : Paim h B a S E st wt fr tg ts) (h5a : E ≤ 9000) : fl a E = B 0 := by
  unfold Paim Pshape at *
  unfold fl
  grind
theorem PI_und (h1 : Pshape (n + 1) W bs sg fr pl) (h2 : Pops h g B S E (n + 1) W st lv op jm bs) (h3 : Pfrs h g B S E (n + 1) st lv bs fr pt cn cc) : B 0 ≤ und (B n) g lv (bs n).toInt.toNat W := by
  have hB : B 0 ≤ B n := by
    by_cases e : n = 0
    · subst e; exact Int.le_refl _
    · exact (h3 n (by omega) (by omega)).1
  unfold und dlt
  split
  · exact hB
  · have := (h2.1 (W - 1) (by omega)).2.2.1
    split <;> omega
/-- the jumps of ops and frames stand ahead of what is laid behind -/
theorem Pops_emit {s : Int32} {y : Int} (h2 : Pops h g B S E F W st lv op jm bs) : Pops (updI h (E + 1) y) g B S (E + 1) F W (upd st E s) lv op jm bs := by
  refine ⟨fun w hw => ?_, h2.2⟩
  obtain ⟨k1, k2, k3, k4, k5⟩ := h2.1 w hw
  refine ⟨k1, k2, k3, k4, fun hc => ?_⟩
  obtain ⟨q, q1, q2, q3, q4, q5⟩ := k5 hc
  refine ⟨q, q1, q2, by omega, ?_, ?_⟩
  · rw [upd_ne (by omega)]; exact q4
  · rw [updI_ap, if_neg (by omega)]; exact q5
theorem Pfrs_emit {s : Int32} {y : Int} (h3 : Pfrs h g B S E F st lv bs fr pt cn cc) : Pfrs (updI h (E + 1) y) g B S (E + 1) F (upd st E s) lv bs fr pt cn cc := by
  intro f hf1 hf2
  obtain ⟨k1, T, k2, k3, k4, k5, k6⟩ := h3 f hf1 hf2
  refine ⟨k1, T, k2, k3, k4, k5, fun hc => ?_⟩
  obtain ⟨q, q1, q2, q3, q4, q5, q6, q7⟩ := k6 hc
  refine ⟨q, q1, q2, by omega, ?_, ?_, ?_, ?_⟩
  · rw [updI_ap, if_neg (by omega)]; exact q4
  · rw [upd_ne (by omega)]; exact q5
  · rw [upd_ne (by omega)]; exact q6
  · rw [upd_ne (by omega)]; exact q7
theorem Paim_emit {s : Int32} {v : Int64} {y : Int} (h1 : Pshape F W bs sg fr pl) (h4 : Paim h B a S E st wt fr tg ts) : Paim (updI h (E + 1) y) B a S (E + 1) (upd st E s) (vp_updL wt E v) fr tg ts := by
  refine ⟨h4.1, fun hc => ?_⟩
  rcases h4.2 hc with k | ⟨k1, k2, k3, k4, k5, k6⟩
  · exact Or.inl k
  · refine Or.inr ⟨k1, k2, k3, by omega, ?_, ?_⟩
    · rw [updI_ap, if_neg (by omega)]; exact k5
    · rw [updL_ne (by omega)]; exact k6
/-- old places keep their type when one is laid behind, their pends being pends still or mended -/
theorem CD_emit {s : Int32} {v : Int64} {y : Int} {pd pd' : Nat → Prop} {q : Nat} (k : CD st wt h a E pd q) (hq : q < E) (hpd : pd q → pd' q) : CD (upd st E s) (vp_updL wt E v) (updI h (E + 1) y) a (E + 1) pd' q := by
  obtain ⟨k1, k2, k3⟩ := k
  unfold CD
  rw [upd_ne (by omega), updL_ne (by omega), updI_ap, updI_ap, if_neg (by omega), if_neg (by omega)]
  refine ⟨k1, fun hc => ?_, k3⟩
  rcases k2 hc with ⟨t, t1, t2, t3, t4⟩ | k
  · refine Or.inl ⟨t, t1, t2, by omega, ?_⟩
    rw [updI_ap, if_neg (by omega)]; exact t4
  · exact Or.inr (hpd k)
theorem CD_new {s : Int32} {v : Int64} {y : Int} {pd' : Nat → Prop} (h1 : Pshape F W bs sg fr pl) (h4 : Paim h B a S E st wt fr tg ts) (hE : E ≤ 9000) (h39 : ¬ s.toInt = 39) (hk : CK s.toInt v.toInt (h E) y (B 0)) (hj : isj s.toInt → pd' E) : CD (upd st E s) (vp_updL wt E v) (updI h (E + 1) y) a (E + 1) pd' E := by
  have hfl := PI_fl h1 h4 hE
  unfold CD
  rw [upd_eq, updL_eq, hfl, updI_ap, updI_ap, if_neg (by omega), if_pos rfl]
  refine ⟨hk, fun hc => Or.inr (hj hc), fun hc => absurd hc h39, fun hc => ?_⟩
  subst hc
  unfold Paim Pshape at *
  grind
/-- a patched place -/
theorem CD_patch {x : Nat} {v : Int64} {t : Nat} {pd pd' : Nat → Prop} {q : Nat} (k : CD st wt h a E pd q) (hv : v.toInt = t) (hx : x < t) (ht : t ≤ E) (h13 : isj (st x).toInt → h t = jh (st x).toInt (h x)) (h15 : ¬ (st x).toInt = 15) (hpd : pd q → pd' q ∨ q = x) : CD st (vp_updL wt x v) h a E pd' q := by
  obtain ⟨k1, k2, k3⟩ := k
  unfold CD
  by_cases e : q = x
  · subst e
    rw [updL_eq]
    refine ⟨?_, fun hc => Or.inl ⟨t, hv, hx, ht, h13 hc⟩, k3⟩
    unfold CK at *
    grind
  · rw [updL_ne e]
    refine ⟨k1, fun hc => ?_, k3⟩
    rcases k2 hc with k | k
    · exact Or.inl k
    · rcases hpd k with k | k
      · exact Or.inr k
      · exact absurd k e
theorem PI_emit {s : Int32} {v : Int64} {o' : Int} (hp : PI h g B a S E F W o st wt lv op jm bs sg fr pt cn cc pl tg ts) (hE : E < 8000) (hj : ¬ isj s.toInt) (h39 : ¬ s.toInt = 39) (hk : CK s.toInt v.toInt (h E) (h E - o + o') (B 0)) :
    PI (updI h (E + 1) (h E - o + o')) g B a S (E + 1) F W o' (upd st E s) (vp_updL wt E v) lv op jm bs sg fr pt cn cc pl tg ts := by
  obtain ⟨h1, h2, h3, h4, ⟨h5, h5a, h6, h7⟩, h8⟩ := hp
  refine ⟨h1, Pops_emit h2, Pfrs_emit h3, Paim_emit h1 h4, ⟨by omega, by omega, ?_, fun q hq1 hq2 => ?_⟩, ?_⟩
  · rw [updI_ap, if_neg (by omega)]; exact h6
  · by_cases e : q = E
    · subst e; exact CD_new h1 h4 h5a h39 hk (fun hc => absurd hc hj)
    · exact CD_emit (h7 q hq1 (by omega)) (by omega) id
  · rw [updI_ap, if_pos rfl, h8]; omega
theorem und_new {b w : Nat} {x : Int32} {y : Int} (hb : b ≤ w) : und (B n) (updI g w y) (upd lv w x) b (w + 1) = y + dlt x := by
  unfold und
  rw [if_neg (by omega), show w + 1 - 1 = w from rfl, updI_ap, if_pos rfl, upd_eq]
theorem und_old {b w w' : Nat} {x : Int32} {y : Int} {Bn : Int} (hw : w' ≤ w) : und Bn (updI g w y) (upd lv w x) b w' = und Bn g lv b w' := by
  unfold und
  split
  · rfl
  · rw [updI_ap, if_neg (by omega), upd_ne (by omega)]
/-- shape: one more op in the topmost frame, its plain struck -/
theorem Pshape_push (h1 : Pshape (n + 1) W bs sg fr pl) : Pshape (n + 1) (W + 1) bs sg fr (upd pl n 0) := by
  obtain ⟨k1, k2, k3, k4, k5, k6, k7, k8, k9⟩ := h1
  have q0 : (0 : Int32).toInt = 0 := by decide +kernel
  refine ⟨k1, k2, k3, fun f hf => ?_, fun f hf => ?_, k6, k7, fun f hf => ?_, fun hc => ?_⟩
  · have := k4 f hf
    unfold lim at *
    grind
  · have := k5 f hf; omega
  · refine ⟨(k8 f hf).1, fun hc => ?_⟩
    by_cases e : f = n
    · subst e; rw [upd_eq]; exact q0
    · rw [upd_ne e]; exact (k8 f hf).2 hc
  · by_cases e : n = 0
    · subst e; rw [upd_eq] at hc; exact absurd q0 hc
    · rw [upd_ne (by omega)] at hc
      have := k9 hc
      unfold lim at *
      grind
theorem Pops_push {l x y : Int32} (h1 : Pshape (n + 1) W bs sg fr pl) (h2 : Pops h g B S E (n + 1) W st lv op jm bs) (hub : B 0 ≤ und (B n) g lv (bs n).toInt.toNat W) (hl : 1 ≤ l.toInt ∧ l.toInt ≤ 5) (hx : 2 < l.toInt → 16 ≤ x.toInt ∧ x.toInt ≤ 26)
    (hy : l.toInt ≤ 2 → ∃ q : Nat, y.toInt = q ∧ S ≤ q ∧ q < E ∧ ((st q).toInt = 32 ∨ (st q).toInt = 33) ∧ h q = und (B n) g lv (bs n).toInt.toNat W + 1) :
    Pops h (updI g W (und (B n) g lv (bs n).toInt.toNat W)) B S E (n + 1) (W + 1) st (upd lv W l) (upd op W x) (upd jm W y) bs := by
  refine ⟨fun w hw => ?_, fun f w hf hw1 hw2 => ?_⟩
  · by_cases e : w = W
    · subst e
      rw [upd_eq, upd_eq, upd_eq, updI_ap, if_pos rfl]
      exact ⟨hl.1, hl.2, hub, hx, hy⟩
    · rw [upd_ne e, upd_ne e, upd_ne e, updI_ap, if_neg e]
      exact h2.1 w (by omega)
  · by_cases e : w = W
    · subst e
      have hfn : f = n := by
        obtain ⟨k1, k2, k3, k4, k5, k6, k7, k8, k9⟩ := h1
        unfold lim at hw2
        by_cases e2 : f + 1 < n + 1
        · rw [if_pos e2] at hw2
          have := k5 (f + 1) (by omega)
          omega
        · omega
      subst hfn
      rw [updI_ap, if_pos rfl, und_old (Nat.le_refl _)]
    · have hwW : w < W := by
        unfold lim at hw2
        obtain ⟨k1, k2, k3, k4, k5, k6, k7, k8, k9⟩ := h1
        by_cases e2 : f + 1 < n + 1
        · rw [if_pos e2] at hw2
          have := k5 (f + 1) (by omega)
          omega
        · rw [if_neg e2] at hw2; omega
      rw [updI_ap, if_neg e, und_old (by omega)]
      refine h2.2 f w hf hw1 ?_
      unfold lim at *
      split <;> rename_i e2
      · rw [if_pos e2] at hw2; exact hw2
      · omega
theorem Pfrs_push {l : Int32} {y : Int} (h1 : Pshape (n + 1) W bs sg fr pl) (h3 : Pfrs h g B S E (n + 1) st lv bs fr pt cn cc) : Pfrs h (updI g W y) B S E (n + 1) st (upd lv W l) bs fr pt cn cc := by
  intro f hf1 hf2
  obtain ⟨k1, T, k2, k3⟩ := h3 f hf1 hf2
  refine ⟨k1, T, ?_, k3⟩
  have := h1.2.2.2.2.1 f hf2
  have := h1.2.2.2.1 f hf2
  rw [und_old (by omega)]; exact k2
theorem pend_push {l y : Int32} {q : Nat} (hq : pend F W lv jm fr pt q) : pend F (W + 1) (upd lv W l) (upd jm W y) fr pt q := by
  rcases hq with ⟨w, w1, w2, w3⟩ | hq
  · exact Or.inl ⟨w, by omega, by rw [upd_ne (by omega)]; exact w2, by rw [upd_ne (by omega)]; exact w3⟩
  · exact Or.inr hq
/-- an arithmetic sign waits -/
theorem PI_push {l x y : Int32} (hp : PI h g B a S E (n + 1) W 1 st wt lv op jm bs sg fr pt cn cc pl tg ts) (hl : 2 < l.toInt ∧ l.toInt ≤ 5) (hx : 16 ≤ x.toInt ∧ x.toInt ≤ 26) :
    PI h (updI g W (und (B n) g lv (bs n).toInt.toNat W)) B a S E (n + 1) (W + 1) 0 st wt (upd lv W l) (upd op W x) (upd jm W y) bs sg fr pt cn cc (upd pl n 0) tg ts := by
  obtain ⟨h1, h2, h3, h4, ⟨h5, h5a, h6, h7⟩, h8⟩ := hp
  have h8 : h E = und (B n) g lv (bs n).toInt.toNat W + 1 := h8
  have hub : B 0 ≤ und (B n) g lv (bs n).toInt.toNat W := PI_und h1 h2 h3
  have hbw := h1.2.2.2.2.1 n (by omega)
  refine ⟨Pshape_push h1, Pops_push h1 h2 hub (by omega) (fun _ => hx) (fun hc => by omega), Pfrs_push h1 h3, h4, ⟨h5, h5a, h6, fun q hq1 hq2 => ?_⟩, ?_⟩
  · obtain ⟨k1, k2, k3⟩ := h7 q hq1 hq2
    exact ⟨k1, fun hc => (k2 hc).imp id pend_push, k3⟩
  · show h E = und (B n) _ _ (bs n).toInt.toNat (W + 1) + 0
    rw [und_new (by omega), h8]
    unfold dlt
    rw [if_neg (by omega)]; omega
/-- && or || waits, its jump laid -/
theorem PI_pushJ {l x y s : Int32} (hp : PI h g B a S E (n + 1) W 1 st wt lv op jm bs sg fr pt cn cc pl tg ts) (hE : E < 8000) (hl : 1 ≤ l.toInt ∧ l.toInt ≤ 2) (hs : s.toInt = 32 ∨ s.toInt = 33) (hy : y.toInt = E) {v : Int64} :
    PI (updI h (E + 1) (h E - 1)) (updI g W (und (B n) g lv (bs n).toInt.toNat W)) B a S (E + 1) (n + 1) (W + 1) 0 (upd st E s) (vp_updL wt E v) (upd lv W l) (upd op W x) (upd jm W y) bs sg fr pt cn cc (upd pl n 0) tg ts := by
  obtain ⟨h1, h2, h3, h4, ⟨h5, h5a, h6, h7⟩, h8⟩ := hp
  have h8 : h E = und (B n) g lv (bs n).toInt.toNat W + 1 := h8
  have hub : B 0 ≤ und (B n) g lv (bs n).toInt.toNat W := PI_und h1 h2 h3
  have hbw := h1.2.2.2.2.1 n (by omega)
  have h2' := Pops_emit (s := s) (y := h E - 1) h2
  refine ⟨Pshape_push h1, Pops_push h1 h2' hub (by omega) (fun hc => by omega) (fun _ => ⟨E, hy, h5, by omega, by rw [upd_eq]; exact hs, by rw [updI_ap, if_neg (by omega)]; exact h8⟩), Pfrs_push h1 (Pfrs_emit h3), Paim_emit h1 h4, ⟨by omega, by omega, ?_, fun q hq1 hq2 => ?_⟩, ?_⟩
  · rw [updI_ap, if_neg (by omega)]; exact h6
  · by_cases e : q = E
    · subst e
      refine CD_new h1 h4 h5a (by omega) ?_ (fun _ => Or.inl ⟨W, by omega, by rw [upd_eq]; omega, by rw [upd_eq]; exact hy⟩)
      unfold CK
      omega
    · exact CD_emit (h7 q hq1 (by omega)) (by omega) pend_push
  · show updI h (E + 1) _ (E + 1) = und (B n) _ _ (bs n).toInt.toNat (W + 1) + 0
    rw [und_new (by omega), updI_ap, if_pos rfl, h8]
    unfold dlt
    rw [if_pos (by omega)]; omega
theorem Pshape_mono (h1 : Pshape F W bs sg fr pl) : ∀ k f : Nat, f + k < F → (bs f).toInt ≤ (bs (f + k)).toInt := by
  intro k
  induction k with
  | zero => intro f _; exact Int.le_refl _
  | succ k ih =>
    intro f hf
    have a1 := ih f (by omega)
    have a2 := (h1.2.2.2.1 (f + k) (by omega)).2
    unfold lim at a2
    rw [if_pos (by omega)] at a2
    exact Int.le_trans a1 a2
theorem Pshape_pop (h1 : Pshape (n + 1) (W + 1) bs sg fr pl) (hw : (bs n).toInt ≤ W) : Pshape (n + 1) W bs sg fr pl := by
  have hm := Pshape_mono h1
  obtain ⟨k1, k2, k3, k4, k5, k6, k7, k8, k9⟩ := h1
  refine ⟨k1, k2, k3, fun f hf => ⟨(k4 f hf).1, ?_⟩, fun f hf => ?_, k6, k7, k8, fun hc => ?_⟩
  · have := (k4 f hf).2
    unfold lim at *
    by_cases e : f + 1 < n + 1
    · rw [if_pos e] at *; exact this
    · rw [if_neg e]; rw [show f = n by omega]; exact hw
  · have := hm (n - f) f (by omega)
    rw [show f + (n - f) = n by omega] at this
    omega
  · have := k9 hc
    unfold lim at *
    by_cases e : 0 + 1 < n + 1
    · rw [if_pos e] at *; exact this
    · rw [if_neg e] at *; omega
theorem Pops_pop (h2 : Pops h g B S E (n + 1) (W + 1) st lv op jm bs) (h1 : Pshape (n + 1) (W + 1) bs sg fr pl) : Pops h g B S E (n + 1) W st lv op jm bs := by
  refine ⟨fun w hw => h2.1 w (by omega), fun f w hf hw1 hw2 => h2.2 f w hf hw1 ?_⟩
  unfold lim at *
  split <;> rename_i e
  · rw [if_pos e] at hw2; exact hw2
  · rw [if_neg e] at hw2; omega
theorem pend_pop {q : Nat} (hq : pend F (W + 1) lv jm fr pt q) : pend F W lv jm fr pt q ∨ ((lv W).toInt ≤ 2 ∧ (jm W).toInt = q) := by
  rcases hq with ⟨w, w1, w2, w3⟩ | hq
  · by_cases e : w = W
    · subst e; exact Or.inr ⟨w2, w3⟩
    · exact Or.inl (Or.inl ⟨w, by omega, w2, w3⟩)
  · exact Or.inl (Or.inr hq)
theorem und_pop (h2 : Pops h g B S E (n + 1) (W + 1) st lv op jm bs) (hw0 : 0 ≤ (bs n).toInt) (hw : (bs n).toInt ≤ W) : und (B n) g lv (bs n).toInt.toNat (W + 1) = und (B n) g lv (bs n).toInt.toNat W + dlt (lv W) ∧ g W = und (B n) g lv (bs n).toInt.toNat W := by
  have := h2.2 n W (by omega) hw (by unfold lim; rw [if_neg (by omega)]; omega)
  refine ⟨?_, this⟩
  rw [← this]
  unfold und
  rw [if_neg (by omega)]; rfl
theorem PI_pop {v : Int64} (hp : PI h g B a S E (n + 1) (W + 1) 1 st wt lv op jm bs sg fr pt cn cc pl tg ts) (hE : E < 8000) (hw : (bs n).toInt ≤ W) (hl : 2 < (lv W).toInt) :
    PI (updI h (E + 1) (h E - 1)) g B a S (E + 1) (n + 1) W 1 (upd st E (op W)) (vp_updL wt E v) lv op jm bs sg fr pt cn cc pl tg ts := by
  obtain ⟨h1, h2, h3, h4, ⟨h5, h5a, h6, h7⟩, h8⟩ := hp
  have h8 : h E = und (B n) g lv (bs n).toInt.toNat (W + 1) + 1 := h8
  have h1' := Pshape_pop h1 hw
  have h2' := Pops_pop h2 h1
  have hub : B 0 ≤ und (B n) g lv (bs n).toInt.toNat W := PI_und h1' h2' h3
  obtain ⟨u1, u2⟩ := und_pop h2 (h1.2.2.2.1 n (by omega)).1 hw
  have hop := (h2.1 W (by omega)).2.2.2.1 hl
  have hd : dlt (lv W) = 1 := by unfold dlt; rw [if_neg (by omega)]
  refine ⟨h1', Pops_emit h2', Pfrs_emit h3, Paim_emit h1 h4, ⟨by omega, by omega, ?_, fun q hq1 hq2 => ?_⟩, ?_⟩
  · rw [updI_ap, if_neg (by omega)]; exact h6
  · by_cases e : q = E
    · subst e
      refine CD_new h1 h4 h5a (by omega) ?_ (fun hc => ?_)
      · unfold CK; omega
      · unfold isj at hc; omega
    · refine CD_emit (h7 q hq1 (by omega)) (by omega) (fun hq => ?_)
      rcases pend_pop hq with k | k
      · exact k
      · omega
  · show updI h (E + 1) _ (E + 1) = und (B n) _ _ (bs n).toInt.toNat W + 1
    rw [updI_ap, if_pos rfl, h8]; omega
theorem PI_popJ {v t : Int64} {x : Nat} {s : Int32} (hp : PI h g B a S E (n + 1) (W + 1) 1 st wt lv op jm bs sg fr pt cn cc pl tg ts) (hE : E < 8000) (hw : (bs n).toInt ≤ W) (hl : (lv W).toInt ≤ 2) (hs : s.toInt = 34) (hx : (jm W).toInt = x) (ht : t.toInt = E + 1) :
    PI (updI h (E + 1) (h E)) g B a S (E + 1) (n + 1) W 1 (upd st E s) (vp_updL (vp_updL wt E v) x t) lv op jm bs sg fr pt cn cc pl tg ts := by
  obtain ⟨h1, h2, h3, h4, ⟨h5, h5a, h6, h7⟩, h8⟩ := hp
  have h8 : h E = und (B n) g lv (bs n).toInt.toNat (W + 1) + 1 := h8
  have h1' := Pshape_pop h1 hw
  have h2' := Pops_pop h2 h1
  have hub : B 0 ≤ und (B n) g lv (bs n).toInt.toNat W := PI_und h1' h2' h3
  obtain ⟨u1, u2⟩ := und_pop h2 (h1.2.2.2.1 n (by omega)).1 hw
  obtain ⟨x', x1, x2, x3, x4, x5⟩ := (h2.1 W (by omega)).2.2.2.2 hl
  obtain rfl : x' = x := by omega
  have hd : dlt (lv W) = 0 := by unfold dlt; rw [if_pos (by omega)]
  have hst : upd st E s x' = st x' := upd_ne (by omega)
  have hhx : updI h (E + 1) (h E) x' = h x' := by rw [updI_ap, if_neg (by omega)]
  have hhE : updI h (E + 1) (h E) (E + 1) = h E := by rw [updI_ap, if_pos rfl]
  have hPaim := Paim_emit (s := s) (v := v) (y := h E) h1 h4
  refine ⟨h1', Pops_emit h2', Pfrs_emit h3, ?_, ⟨by omega, by omega, ?_, fun q hq1 hq2 => ?_⟩, ?_⟩
  · refine ⟨hPaim.1, fun hc => (hPaim.2 hc).imp id (fun ⟨k1, k2, k3, k4, k5, k6⟩ => ⟨k1, k2, k3, k4, k5, ?_⟩)⟩
    have hax : ¬ a = x' := by
      intro e; subst e
      have := (h7 a (by omega) (by omega)).2.2.2 rfl
      omega
    rw [updL_ne hax]; exact k6
  · rw [updI_ap, if_neg (by omega)]; exact h6
  · have key : CD (upd st E s) (vp_updL wt E v) (updI h (E + 1) (h E)) a (E + 1) (pend (n + 1) (W + 1) lv jm fr pt) q := by
      by_cases e : q = E
      · subst e
        refine CD_new h1 h4 h5a (by omega) ?_ (fun hc => ?_)
        · unfold CK; omega
        · unfold isj at hc; omega
      · exact CD_emit (h7 q hq1 (by omega)) (by omega) id
    refine CD_patch key (t := E + 1) (by rw [ht]; rfl) (by omega) (by omega) (fun _ => ?_) (by rw [hst]; omega) (fun hq => ?_)
    · rw [hst, hhx, hhE, x5, h8]
      unfold jh
      rw [if_neg (by omega)]; omega
    · rcases pend_pop hq with k | k
      · exact Or.inl k
      · exact Or.inr (by omega)
  · show updI h (E + 1) _ (E + 1) = und (B n) _ _ (bs n).toInt.toNat W + 1
    rw [hhE, h8]; omega
/-- striking a frame's plain, setting a sign -/
theorem PI_strike {z : Int32} {i : Nat} (hp : PI h g B a S E F W o st wt lv op jm bs sg fr pt cn cc pl tg ts) (hz : z.toInt = 0) : PI h g B a S E F W o st wt lv op jm bs sg fr pt cn cc (upd pl i z) tg ts := by
  obtain ⟨⟨k1, k2, k3, k4, k5, k6, k7, k8, k9⟩, hr⟩ := hp
  refine ⟨⟨k1, k2, k3, k4, k5, k6, k7, fun f hf => ⟨(k8 f hf).1, fun hc => ?_⟩, fun hc => ?_⟩, hr⟩
  · rw [upd_ap]; split
    · exact hz
    · exact (k8 f hf).2 hc
  · rw [upd_ap] at hc; split at hc
    · exact absurd hz hc
    · exact k9 hc
theorem PI_sign {x : Int32} {i : Nat} (hp : PI h g B a S E F W o st wt lv op jm bs sg fr pt cn cc pl tg ts) (hx : x.toInt = 0 ∨ ((x.toInt = 30 ∨ x.toInt = 31) ∧ (pl i).toInt = 0)) : PI h g B a S E F W o st wt lv op jm bs (upd sg i x) fr pt cn cc pl tg ts := by
  obtain ⟨⟨k1, k2, k3, k4, k5, k6, k7, k8, k9⟩, hr⟩ := hp
  refine ⟨⟨k1, k2, k3, k4, k5, k6, k7, fun f hf => ?_, k9⟩, hr⟩
  have := k8 f hf
  rw [upd_ap]; split
  · rename_i e; subst e; omega
  · exact this
end PI1
