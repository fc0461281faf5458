/-! ===== what the class's reader answers ===== -/
/-- the piece may be set -/
def CBS (P : PL) (b : Nat) : Bool := decide (((oI P 2 b).toInt = 3 ∨ (oI P 2 b).toInt = 4) ∧ (oI P 5 b).toInt = 0)
/-- a reading's outcome, as the grammar says it -/
abbrev RSG (P : PL) (r : Option Nat) (a e p : Int) (G : GR → Prop) : Prop := match r with
  | none => G (.inr (e, p))
  | some b => ∃ K, G (.inl (a, CBS P b, K))
/-- the same, where what is set and its code don't matter yet -/
def LG (T N Pl : Int → Int) (nt : Nat) (l : Int) (m : Bool) (d a0 : Int) (P : PL) (r : Option Nat) (a e p : Int) : Prop := ∀ Lt : Int → Int × Int, RSG P r a e p (Gr T N Pl Lt nt l m [] d a0)
/-- a level's loop -/
def LVI (T N Pl : Int → Int) (l d a0 : Int) (P : PL) (r : Option Nat) (a e p : Int) : Prop := ∀ Lt : Int → Int × Int, match r with
  | none => Gr T N Pl Lt 2 l false [] d a0 (.inr (e, p))
  | some b => ∃ K, ∀ R, Gr T N Pl Lt 3 l (CBS P b) K d a R → Gr T N Pl Lt 2 l false [] d a0 R
/-- a chain's loop -/
def CHI (T N Pl : Int → Int) (d a0 : Int) (P : PL) (r : Option Nat) (a e p : Int) : Prop := ∀ Lt : Int → Int × Int, match r with
  | none => Gr T N Pl Lt 5 0 false [] d a0 (.inr (e, p))
  | some b => ∃ K, ∀ R, Gr T N Pl Lt 6 0 (CBS P b) K d a R → Gr T N Pl Lt 5 0 false [] d a0 R
/-- a phrase -/
def PHR (T N Pl : Int → Int) (r : Option Nat) (e p : Int) : Prop := ∀ Lt : Int → Int × Int, match r with
  | none => GrP T N Pl Lt (.inl (e, p))
  | some _ => ∃ K, GrP T N Pl Lt (.inr K)
/-- the whole reading -/
def RDC (t : Int → Int) (n : Int) (r : Option Nat) (e p : Int) : Prop := ∀ Lt : Int → Int × Int, ∃ R, READ t n Lt R ∧ (match r with
  | none => R = .inl (e, p)
  | some _ => ∃ K, R = .inr K)
/-- a reading goes on -/
def POSG (nt : Nat) (a : Int) (r : GR) : Prop := match r with
  | .inl x => a ≤ x.1 ∧ (¬ nt = 3 → ¬ nt = 6 → a < x.1)
  | .inr _ => True
theorem POSG_e {nt : Nat} {a : Int} {x : Int × Int} : POSG nt a (.inr x) := trivial
theorem POSG_i {nt : Nat} {a : Int} {x : Int × Bool × IS} (h : a ≤ x.1 ∧ (¬ nt = 3 → ¬ nt = 6 → a < x.1)) : POSG nt a (.inl x) := h
theorem POSG_m {nt nt2 : Nat} {a a2 : Int} {r : GR} (h : POSG nt a r) (h2 : a2 ≤ a) (h3 : (nt = 3 ∨ nt = 6) → (nt2 = 3 ∨ nt2 = 6) ∨ a2 < a) : POSG nt2 a2 r := by
  cases r with
  | inr x => trivial
  | inl x =>
    have h : a ≤ x.1 ∧ (¬ nt = 3 → ¬ nt = 6 → a < x.1) := h
    show a2 ≤ x.1 ∧ (¬ nt2 = 3 → ¬ nt2 = 6 → a2 < x.1)
    omega
theorem POSG_x {nt : Nat} {a a1 : Int} {m : Bool} {k : IS} (h : POSG nt a (.inl (a1, m, k))) : a ≤ a1 ∧ (¬ nt = 3 → ¬ nt = 6 → a < a1) := h
theorem gl_pos {T N Pl : Int → Int} {Lt : Int → Int × Int} {nt : Nat} {l d a : Int} {m : Bool} {k : IS} {r : GR} (h : Gr T N Pl Lt nt l m k d a r) : POSG nt a r := by
  refine h (fun nt _ _ _ _ a r => POSG nt a r) ?_
  unfold GrR
  refine ⟨?_, ?_, ?_, ?_, ?_, ?_, ?_, ?_, ?_, ?_, ?_, ?_, ?_, ?_, ?_, ?_, ?_, ?_, ?_, ?_, ?_, ?_, ?_, ?_, ?_, ?_, ?_, ?_, ?_, ?_, ?_, ?_, ?_, ?_, ?_, ?_, ?_, ?_, ?_, ?_, ?_, ?_, ?_, ?_, ?_, ?_, ?_⟩
  all_goals
    intros
    first
    | exact POSG_e
    | exact POSG_i ⟨Int.le_refl _, fun h => absurd rfl h⟩
    | exact POSG_i ⟨Int.le_refl _, fun _ h => absurd rfl h⟩
    | (refine POSG_m (by assumption) ?_ ?_ <;> first | omega | (simp only [POSG] at *; omega))
    | (simp only [POSG] at *; omega)
section GX
variable {T N Pl t : Int → Int} {P P1 P2 P3 P4 : PL} {b b1 b2 b3 : Nat} {r : Option Nat} {x : Int32} {l l0 l1 d d0 d1 d2 a a0 a1 a2 a3 a4 a5 a6 e e1 e2 e3 p p1 p2 p3 n : Int} {m s : Bool} {nt : Nat}
theorem RSG_f {G : GR → Prop} {f : Bool} {K : IS} (hc : CBS P b = f) (g : G (.inl (a, f, K))) : RSG P (some b) a e p G := ⟨K, by rw [hc]; exact g⟩
theorem CBS_op (h : oI P 2 b = x) (h3 : ¬ x.toInt = 3) (h4 : ¬ x.toInt = 4) : CBS P b = false := decide_eq_false (by rw [h]; rintro ⟨e | e, _⟩ <;> contradiction)
theorem CBS_st (h : oI P 2 b = x) (h5 : oI P 5 b = 0) (h3 : x.toInt = 3 ∨ x.toInt = 4) : CBS P b = true := decide_eq_true (by rw [h, h5]; exact ⟨h3, by decide +kernel⟩)
theorem CBS_br : CBS (sI P 5 b 1) b = false := decide_eq_false (by rw [sI_eq]; rintro ⟨_, e⟩; exact absurd e (by decide +kernel))
theorem CBS_le : CBS (sI P 4 b1 x) b = CBS P b := by unfold CBS; rw [sI_nk (by decide), sI_nk (by decide)]
theorem gl_lt (h : LG T N Pl nt l m d a0 P (some b) a e p) (h3 : ¬ nt = 3) (h6 : ¬ nt = 6) : a0 < a := by
  obtain ⟨K, g⟩ := h (fun _ => (0, 0))
  exact (gl_pos g).2 h3 h6
-- choice
theorem gl_deep (h : 4 < d) (he : e = 3) (hp : p = Pl a0) : LG T N Pl 0 0 false d a0 P none a e p := fun Lt => by subst he; exact Gr.choice_deep h hp
theorem gl_cerr (h : d ≤ 4) (hl : l0 = 0) (g : LG T N Pl 2 l0 false d a0 P none a e p) : LG T N Pl 0 0 false d a0 P1 none a1 e p := fun Lt => by subst hl; exact Gr.choice_err h (g Lt)
theorem gl_ore (h : d ≤ 4) (hl : l0 = 0) (g : LG T N Pl 2 l0 false d a0 P (some b) a1 e1 p1) (h2 : T a1 = 16186) (h3 : a2 = a1 + 1) (h4 : d1 = d + 1) (g2 : LG T N Pl 0 0 false d1 a2 P1 none a3 e p) : LG T N Pl 0 0 false d a0 P2 none a4 e p := fun Lt => by
  subst hl; obtain ⟨K, g⟩ := g Lt; exact Gr.choice_ore h g h2 h3 h4 (g2 Lt)
theorem gl_or (h : d ≤ 4) (hl : l0 = 0) (g : LG T N Pl 2 l0 false d a0 P (some b) a1 e1 p1) (h2 : T a1 = 16186) (h3 : a2 = a1 + 1) (h4 : d1 = d + 1) (g2 : LG T N Pl 0 0 false d1 a2 P1 (some b1) a3 e2 p2) (hc : CBS P2 b2 = false) : LG T N Pl 0 0 false d a0 P2 (some b2) a3 e p := fun Lt => by
  subst hl; obtain ⟨K, g⟩ := g Lt; obtain ⟨K2, g2⟩ := g2 Lt
  exact RSG_f hc <| Gr.choice_or h g h2 h3 h4 g2
theorem gl_q (h : d ≤ 4) (hl : l0 = 0) (g : LG T N Pl 2 l0 false d a0 P (some b) a1 e1 p1) (h2 : T a1 = 63) (h3 : a2 = a1 + 1) (g2 : LG T N Pl 1 0 false d a2 P1 r a3 e p) (hc : ∀ b : Nat, r = some b → CBS P1 b = false) : LG T N Pl 0 0 false d a0 P1 r a3 e p := fun Lt => by
  subst hl; obtain ⟨K, g⟩ := g Lt
  cases r with
  | none => exact Gr.choice_qe h g h2 h3 (g2 Lt)
  | some b9 =>
    obtain ⟨K2, g2⟩ := g2 Lt
    exact RSG_f (hc b9 rfl) <| Gr.choice_q h g h2 h3 g2
theorem gl_cok (h : d ≤ 4) (hl : l0 = 0) (g : LG T N Pl 2 l0 false d a0 P (some b) a e1 p1) (h2 : ¬ T a = 16186) (h3 : ¬ T a = 63) : LG T N Pl 0 0 false d a0 P (some b) a e p := fun Lt => by
  subst hl; obtain ⟨K, g⟩ := g Lt; exact ⟨K, Gr.choice_ok h g h2 h3⟩
-- chosen
theorem gl_h1 (h : d1 = d + 1) (g : LG T N Pl 0 0 false d1 a0 P none a e p) : LG T N Pl 1 0 false d a0 P1 none a1 e p := fun Lt => Gr.chosen_1 h (g Lt)
theorem gl_h2 (h : d1 = d + 1) (g : LG T N Pl 0 0 false d1 a0 P (some b) a1 e1 p1) (h2 : ¬ T a1 = 58) (he : e = 2) (hp : p = Pl a1) : LG T N Pl 1 0 false d a0 P1 none a e p := fun Lt => by
  subst he; obtain ⟨K, g⟩ := g Lt; exact Gr.chosen_2 h g h2 hp
theorem gl_h3 (h : d1 = d + 1) (h9 : d2 = d + 1) (g : LG T N Pl 0 0 false d1 a0 P (some b) a1 e1 p1) (h2 : T a1 = 58) (h3 : a2 = a1 + 1) (g2 : LG T N Pl 0 0 false d2 a2 P1 none a3 e p) : LG T N Pl 1 0 false d a0 P2 none a e p := fun Lt => by
  subst h h9; obtain ⟨K, g⟩ := g Lt; exact Gr.chosen_3 rfl g h2 h3 (g2 Lt)
theorem gl_h4 (h : d1 = d + 1) (h9 : d2 = d + 1) (g : LG T N Pl 0 0 false d1 a0 P (some b) a1 e1 p1) (h2 : T a1 = 58) (h3 : a2 = a1 + 1) (g2 : LG T N Pl 0 0 false d2 a2 P1 (some b1) a3 e2 p2) (hc : CBS P2 b2 = false) : LG T N Pl 1 0 false d a0 P2 (some b2) a3 e p := fun Lt => by
  subst h h9; obtain ⟨K, g⟩ := g Lt; obtain ⟨K2, g2⟩ := g2 Lt
  exact RSG_f hc <| Gr.chosen_4 rfl g h2 h3 g2
-- level
theorem gl_s (h : 4 < l) (g : LG T N Pl 4 0 false d a0 P r a e p) : LG T N Pl 2 l false d a0 P r a e p := fun Lt => by
  cases r with
  | none => exact Gr.level_s h (g Lt)
  | some b => obtain ⟨K, g⟩ := g Lt; exact ⟨K, Gr.level_s h g⟩
theorem LVI_0 (h : 0 ≤ l) (h2 : l ≤ 4) (h3 : l1 = l + 1) (g : LG T N Pl 2 l1 false d a0 P r a e p) : LVI T N Pl l d a0 P r a e p := fun Lt => by
  cases r with
  | none => exact Gr.level_e h h2 h3 (g Lt)
  | some b => obtain ⟨K, g⟩ := g Lt; exact ⟨K, fun R g2 => Gr.level_l h h2 h3 g g2⟩
theorem LVI_n (g : LVI T N Pl l d a0 P none a e p) : LG T N Pl 2 l false d a0 P1 none a1 e p := fun Lt => g Lt
theorem LVI_x (g : LVI T N Pl l d a0 P (some b) a e1 p1) (h : ¬ LVO (T a) = l) : LG T N Pl 2 l false d a0 P (some b) a e p := fun Lt => by
  obtain ⟨K, g⟩ := g Lt; exact ⟨K, g _ (Gr.lvl_0 h)⟩
theorem LVI_e (g : LVI T N Pl l d a0 P (some b) a e1 p1) (h : 0 ≤ l) (h2 : l ≤ 4) (h3 : LVO (T a) = l) (h4 : l1 = l + 1) (h5 : a1 = a + 1) (g2 : LG T N Pl 2 l1 false d a1 P1 none a2 e p) : LVI T N Pl l d a0 P2 none a3 e p := fun Lt => by
  obtain ⟨K, g⟩ := g Lt; exact g _ (Gr.lvl_e h h2 h3 h4 h5 (g2 Lt))
theorem LVI_t (g : LVI T N Pl l d a0 P (some b) a e1 p1) (h : l = 2) (h3 : LVO (T a) = l) (h4 : l1 = l + 1) (h5 : a1 = a + 1) (g2 : LG T N Pl 2 l1 false d a1 P1 (some b1) a2 e2 p2) (hc : CBS P2 b2 = false) : LG T N Pl 2 l false d a0 P2 (some b2) a2 e p := fun Lt => by
  obtain ⟨K, g⟩ := g Lt; obtain ⟨K2, g2⟩ := g2 Lt
  exact RSG_f hc <| g _ (Gr.lvl_t h h3 h4 h5 g2)
theorem LVI_s (g : LVI T N Pl l d a0 P (some b) a e1 p1) (h : 0 ≤ l) (h2 : l ≤ 4) (h9 : ¬ l = 2) (h3 : LVO (T a) = l) (h4 : l1 = l + 1) (h5 : a1 = a + 1) (g2 : LG T N Pl 2 l1 false d a1 P1 (some b1) a2 e2 p2) (hc : CBS P2 b2 = false) : LVI T N Pl l d a0 P2 (some b2) a2 e p := fun Lt => by
  obtain ⟨K, g⟩ := g Lt; obtain ⟨K2, g2⟩ := g2 Lt
  refine ⟨cmb l (T a) K K2, fun R => ?_⟩; rw [hc]; exact fun g3 => g _ (Gr.lvl_m h h2 h9 h3 h4 h5 g2 g3)
-- sign
theorem gl_se (h : T a0 = 45 ∨ T a0 = 33) (h2 : a1 = a0 + 1) (g : LG T N Pl 5 0 false d a1 P none a e p) : LG T N Pl 4 0 false d a0 P1 none a2 e p := fun Lt => Gr.sign_e h h2 (g Lt)
theorem gl_so (h : T a0 = 45 ∨ T a0 = 33) (h2 : a1 = a0 + 1) (g : LG T N Pl 5 0 false d a1 P (some b) a e1 p1) (hc : CBS P1 b1 = false) : LG T N Pl 4 0 false d a0 P1 (some b1) a e p := fun Lt => by
  obtain ⟨K, g⟩ := g Lt
  exact RSG_f hc <| Gr.sign_o h h2 g
theorem gl_sn (h : ¬ T a0 = 45) (h2 : ¬ T a0 = 33) (g : LG T N Pl 5 0 false d a0 P r a e p) : LG T N Pl 4 0 false d a0 P r a e p := fun Lt => by
  cases r with
  | none => exact Gr.sign_n h h2 (g Lt)
  | some b => obtain ⟨K, g⟩ := g Lt; exact ⟨K, Gr.sign_n h h2 g⟩
-- chain
theorem CHI_0 (g : LG T N Pl 7 0 false d a0 P r a e p) : CHI T N Pl d a0 P r a e p := fun Lt => by
  cases r with
  | none => exact Gr.chain_e (g Lt)
  | some b => obtain ⟨K, g⟩ := g Lt; exact ⟨K, fun R g2 => Gr.chain_l g g2⟩
theorem CHI_n (g : CHI T N Pl d a0 P none a e p) : LG T N Pl 5 0 false d a0 P1 none a1 e p := fun Lt => g Lt
theorem CHI_x (g : CHI T N Pl d a0 P (some b) a e1 p1) (h : ¬ T a = 16174) (h2 : ¬ T a = 46) : LG T N Pl 5 0 false d a0 P (some b) a e p := fun Lt => by
  obtain ⟨K, g⟩ := g Lt; exact ⟨K, g _ (Gr.chl_0 h h2)⟩
theorem CHI_r (g : CHI T N Pl d a0 P (some b) a e1 p1) (h : T a = 16174 ∨ T a = 46) (h1 : a1 = a + 1) (h2 : ¬ T a1 = 2) (he : e = 2) (hp : p = Pl a1) : CHI T N Pl d a0 P1 none a2 e p := fun Lt => by
  subst he; obtain ⟨K, g⟩ := g Lt; exact g _ (Gr.chl_x h h1 h2 hp)
theorem CHI_e (g : CHI T N Pl d a0 P (some b) a e1 p1) (h : T a = 16174 ∨ T a = 46) (h1 : a1 = a + 1) (h2 : T a1 = 2) (g2 : ∀ s9 : Bool, LG T N Pl 10 0 s9 d a1 P1 none a2 e p) : CHI T N Pl d a0 P2 none a3 e p := fun Lt => by
  obtain ⟨K, g⟩ := g Lt
  rcases h with h | h
  · exact g _ (Gr.chl_e (Or.inl ⟨h, rfl⟩) h1 h2 (g2 true Lt))
  · exact g _ (Gr.chl_e (Or.inr ⟨h, rfl⟩) h1 h2 (g2 false Lt))
theorem CHI_m (g : CHI T N Pl d a0 P (some b) a e1 p1) (h : T a = 16174 ∨ T a = 46) (h1 : a1 = a + 1) (h2 : T a1 = 2) (g2 : ∀ s9 : Bool, LG T N Pl 10 0 s9 d a1 P1 (some b1) a2 e2 p2) (hc : CBS P2 b1 = CBS P1 b1) : CHI T N Pl d a0 P2 (some b1) a2 e p := fun Lt => by
  obtain ⟨K, g⟩ := g Lt
  rcases h with h | h
  · obtain ⟨K2, g2⟩ := g2 true Lt
    refine ⟨K ++ K2, fun R => ?_⟩; rw [hc]; exact fun g3 => g _ (Gr.chl_m (Or.inl ⟨h, rfl⟩) h1 h2 g2 g3)
  · obtain ⟨K2, g2⟩ := g2 false Lt
    refine ⟨K ++ K2, fun R => ?_⟩; rw [hc]; exact fun g3 => g _ (Gr.chl_m (Or.inr ⟨h, rfl⟩) h1 h2 g2 g3)
-- first
theorem gl_fl (h : T a0 = 1) (h1 : a = a0 + 1) (hc : CBS P b = false) : LG T N Pl 7 0 false d a0 P (some b) a e p := fun Lt => by
  exact RSG_f hc <| Gr.first_l h h1
theorem gl_fv (h : T a0 = 35) (h1 : a1 = a0 + 1) (h2 : T a1 = 2) (h3 : a = a1 + 1) (hc : CBS P b = true) : LG T N Pl 7 0 false d a0 P (some b) a e p := fun Lt => by
  exact RSG_f hc <| Gr.first_v h h1 h2 h3
theorem gl_fvx (h : T a0 = 35) (h1 : a1 = a0 + 1) (h2 : ¬ T a1 = 2) (he : e = 2) (hp : p = Pl a1) : LG T N Pl 7 0 false d a0 P none a e p := fun Lt => by
  subst he; exact Gr.first_vx h h1 h2 hp
theorem gl_fb (h : T a0 = 40) (h1 : a1 = a0 + 1) (g : LG T N Pl 8 0 false d a1 P r a e p) : LG T N Pl 7 0 false d a0 P r a e p := fun Lt => by
  cases r with
  | none => exact Gr.first_b h h1 (g Lt)
  | some b => obtain ⟨K, g⟩ := g Lt; exact ⟨K, Gr.first_b h h1 g⟩
theorem gl_fn (h : T a0 = 2) (g : LG T N Pl 9 0 false d a0 P r a e p) : LG T N Pl 7 0 false d a0 P r a e p := fun Lt => by
  cases r with
  | none => exact Gr.first_n h (g Lt)
  | some b => obtain ⟨K, g⟩ := g Lt; exact ⟨K, Gr.first_n h g⟩
theorem gl_fx (h : ¬ T a0 = 1) (h1 : ¬ T a0 = 35) (h2 : ¬ T a0 = 40) (h3 : ¬ T a0 = 2) (he : e = 2) (hp : p = Pl a0) : LG T N Pl 7 0 false d a0 P none a e p := fun Lt => by
  subst he; exact Gr.first_x h h1 h2 h3 hp
-- bracketed
theorem gl_be (h : d1 = d + 1) (g : LG T N Pl 0 0 false d1 a0 P none a e p) : LG T N Pl 8 0 false d a0 P1 none a1 e p := fun Lt => Gr.bracketed_e h (g Lt)
theorem gl_bx (h : d1 = d + 1) (g : LG T N Pl 0 0 false d1 a0 P (some b) a1 e1 p1) (h2 : ¬ T a1 = 41) (he : e = 2) (hp : p = Pl a1) : LG T N Pl 8 0 false d a0 P1 none a e p := fun Lt => by
  subst he; obtain ⟨K, g⟩ := g Lt; exact Gr.bracketed_x h g h2 hp
theorem gl_bo (h : d1 = d + 1) (g : LG T N Pl 0 0 false d1 a0 P (some b) a1 e1 p1) (h2 : T a1 = 41) (h3 : a = a1 + 1) (hc : CBS P1 b = false) : LG T N Pl 8 0 false d a0 P1 (some b) a e p := fun Lt => by
  obtain ⟨K, g⟩ := g Lt
  exact RSG_f hc <| Gr.bracketed_o h g h2 h3
-- named
theorem gl_nk (h : KW (N a0)) (h1 : a = a0 + 1) (hc : CBS P b = false) : LG T N Pl 9 0 false d a0 P (some b) a e p := fun Lt => by
  exact RSG_f hc <| Gr.named_k h h1
theorem gl_nm (h : ¬ KW (N a0)) (g : ∀ s9 : Bool, LG T N Pl 10 0 s9 d a0 P r a e p) : LG T N Pl 9 0 false d a0 P r a e p := fun Lt => by
  cases r with
  | none => exact Gr.named_e h (g false Lt)
  | some b => obtain ⟨K, g⟩ := g false Lt; exact ⟨_, Gr.named_m h g⟩
-- member
theorem gl_mp (h : a = a0 + 1) (h1 : ¬ T a = 40) (hc : CBS P b = true) : LG T N Pl 10 0 s d a0 P (some b) a e p := fun Lt => by
  exact RSG_f hc <| Gr.member_p h h1
theorem gl_m0 (h : a1 = a0 + 1) (h1 : T a1 = 40) (h2 : a2 = a1 + 1) (h3 : T a2 = 41) (h4 : a = a2 + 1) (hc : CBS P b = false) : LG T N Pl 10 0 s d a0 P (some b) a e p := fun Lt => by
  exact RSG_f hc <| Gr.member_0 h h1 h2 h3 h4
theorem gl_m1e (h : a1 = a0 + 1) (h1 : T a1 = 40) (h2 : a2 = a1 + 1) (h3 : ¬ T a2 = 41) (h4 : d1 = d + 1) (g : LG T N Pl 0 0 false d1 a2 P none a e p) : LG T N Pl 10 0 s d a0 P1 none a3 e p := fun Lt => Gr.member_1e h h1 h2 h3 h4 (g Lt)
theorem gl_m1 (h : a1 = a0 + 1) (h1 : T a1 = 40) (h2 : a2 = a1 + 1) (h3 : ¬ T a2 = 41) (h4 : d1 = d + 1) (g : LG T N Pl 0 0 false d1 a2 P (some b) a3 e1 p1) (h5 : T a3 = 41) (h6 : a = a3 + 1) (hc : CBS P1 b1 = false) : LG T N Pl 10 0 s d a0 P1 (some b1) a e p := fun Lt => by
  obtain ⟨K, g⟩ := g Lt
  exact RSG_f hc <| Gr.member_1 h h1 h2 h3 h4 g h5 h6
theorem gl_m1x (h : a1 = a0 + 1) (h1 : T a1 = 40) (h2 : a2 = a1 + 1) (h3 : ¬ T a2 = 41) (h4 : d1 = d + 1) (g : LG T N Pl 0 0 false d1 a2 P (some b) a3 e1 p1) (h5 : ¬ T a3 = 44) (h6 : ¬ T a3 = 41) (he : e = 2) (hp : p = Pl a3) : LG T N Pl 10 0 s d a0 P1 none a e p := fun Lt => by
  subst he; obtain ⟨K, g⟩ := g Lt; exact Gr.member_1x h h1 h2 h3 h4 g h5 h6 hp
theorem gl_m2e (h : a1 = a0 + 1) (h1 : T a1 = 40) (h2 : a2 = a1 + 1) (h3 : ¬ T a2 = 41) (h4 : d1 = d + 1) (h9 : d2 = d + 1) (g : LG T N Pl 0 0 false d1 a2 P (some b) a3 e1 p1) (h5 : T a3 = 44) (h6 : a4 = a3 + 1) (g2 : LG T N Pl 0 0 false d2 a4 P1 none a5 e p) : LG T N Pl 10 0 s d a0 P2 none a e p := fun Lt => by
  subst h4 h9; obtain ⟨K, g⟩ := g Lt; exact Gr.member_2e h h1 h2 h3 rfl g h5 h6 (g2 Lt)
theorem gl_m2 (h : a1 = a0 + 1) (h1 : T a1 = 40) (h2 : a2 = a1 + 1) (h3 : ¬ T a2 = 41) (h4 : d1 = d + 1) (h9 : d2 = d + 1) (g : LG T N Pl 0 0 false d1 a2 P (some b) a3 e1 p1) (h5 : T a3 = 44) (h6 : a4 = a3 + 1) (g2 : LG T N Pl 0 0 false d2 a4 P1 (some b1) a5 e2 p2) (h7 : T a5 = 41) (h8 : a = a5 + 1) (hc : CBS P2 b2 = false) : LG T N Pl 10 0 s d a0 P2 (some b2) a e p := fun Lt => by
  subst h4 h9; obtain ⟨K, g⟩ := g Lt; obtain ⟨K2, g2⟩ := g2 Lt
  exact RSG_f hc <| Gr.member_2 h h1 h2 h3 rfl g h5 h6 g2 h7 h8
theorem gl_m2x (h : a1 = a0 + 1) (h1 : T a1 = 40) (h2 : a2 = a1 + 1) (h3 : ¬ T a2 = 41) (h4 : d1 = d + 1) (h9 : d2 = d + 1) (g : LG T N Pl 0 0 false d1 a2 P (some b) a3 e1 p1) (h5 : T a3 = 44) (h6 : a4 = a3 + 1) (g2 : LG T N Pl 0 0 false d2 a4 P1 (some b1) a5 e2 p2) (h7 : ¬ T a5 = 41) (he : e = 2) (hp : p = Pl a5) : LG T N Pl 10 0 s d a0 P2 none a e p := fun Lt => by
  subst he h4 h9; obtain ⟨K, g⟩ := g Lt; obtain ⟨K2, g2⟩ := g2 Lt; exact Gr.member_2x h h1 h2 h3 rfl g h5 h6 g2 h7 hp
-- phrase
theorem gl_p1 (hd : d = 0) (ha : a0 = 0) (g : LG T N Pl 0 0 false d a0 P none a e p) : PHR T N Pl none e p := fun Lt => by
  subst hd ha; exact Or.inl ⟨e, p, g Lt, rfl⟩
theorem gl_p2 (hd : d = 0) (ha : a0 = 0) (g : LG T N Pl 0 0 false d a0 P (some b) a e1 p1) (h : ¬ (T a = 61 ∧ CBS P b = true)) (h0 : T a = 0) : PHR T N Pl (some b1) e p := fun Lt => by
  subst hd ha; obtain ⟨K, g⟩ := g Lt; exact ⟨K, Or.inr (Or.inl ⟨_, _, _, g, h, h0, rfl⟩)⟩
theorem gl_p3 (hd : d = 0) (ha : a0 = 0) (g : LG T N Pl 0 0 false d a0 P (some b) a e1 p1) (h : ¬ (T a = 61 ∧ CBS P b = true)) (h0 : ¬ T a = 0) (he : e = 2) (hp : p = Pl a) : PHR T N Pl none e p := fun Lt => by
  subst hd ha he hp; obtain ⟨K, g⟩ := g Lt; exact Or.inr (Or.inr (Or.inl ⟨_, _, _, g, h, h0, rfl⟩))
theorem gl_p4 (hd : d = 0) (hd2 : d1 = 0) (ha : a0 = 0) (g : LG T N Pl 0 0 false d a0 P (some b) a e1 p1) (h : T a = 61) (hc : CBS P b = true) (h1 : a1 = a + 1) (g2 : LG T N Pl 0 0 false d1 a1 P1 none a2 e p) : PHR T N Pl none e p := fun Lt => by
  subst hd hd2 ha h1; obtain ⟨K, g⟩ := g Lt; rw [hc] at g; exact Or.inr (Or.inr (Or.inr (Or.inl ⟨_, _, _, _, g, h, g2 Lt, rfl⟩)))
theorem gl_p5 (hd : d = 0) (hd2 : d1 = 0) (ha : a0 = 0) (g : LG T N Pl 0 0 false d a0 P (some b) a e1 p1) (h : T a = 61) (hc : CBS P b = true) (h1 : a1 = a + 1) (g2 : LG T N Pl 0 0 false d1 a1 P1 (some b1) a2 e2 p2) (h0 : T a2 = 0) : PHR T N Pl (some b2) e p := fun Lt => by
  subst hd hd2 ha h1; obtain ⟨K, g⟩ := g Lt; obtain ⟨K2, g2⟩ := g2 Lt; rw [hc] at g; exact ⟨_, Or.inr (Or.inr (Or.inr (Or.inr (Or.inl ⟨_, _, _, _, _, g, h, g2, h0, rfl⟩))))⟩
theorem gl_p6 (hd : d = 0) (hd2 : d1 = 0) (ha : a0 = 0) (g : LG T N Pl 0 0 false d a0 P (some b) a e1 p1) (h : T a = 61) (hc : CBS P b = true) (h1 : a1 = a + 1) (g2 : LG T N Pl 0 0 false d1 a1 P1 (some b1) a2 e2 p2) (h0 : ¬ T a2 = 0) (he : e = 2) (hp : p = Pl a2) : PHR T N Pl none e p := fun Lt => by
  subst hd hd2 ha h1 he hp; obtain ⟨K, g⟩ := g Lt; obtain ⟨K2, g2⟩ := g2 Lt; rw [hc] at g; exact Or.inr (Or.inr (Or.inr (Or.inr (Or.inr ⟨_, _, _, _, _, g, h, g2, h0, rfl⟩))))
-- read
theorem RDC_e (h : LexErr t n p) (he : e = 1) : RDC t n none e p := fun Lt => ⟨_, Or.inl ⟨p, h, rfl⟩, by subst he; rfl⟩
theorem RDC_p {F F1 F2 : Nat → Int32} {c : Int32} {k : Nat} (h : LexOK t n (cT F c) (cT F1 c) (cT F2 c) k) (hk : k = (c.toInt - 1).toNat) (g : PHR (cT F c) (cT F1 c) (cT F2 c) r e p) : RDC t n r e p := fun Lt => by
  have hz : ∀ i : Int, (k : Int) < i → cT F c i = 0 := fun i hi => if_neg (by omega)
  cases r with
  | none => exact ⟨_, Or.inr ⟨_, _, _, k, h, hz, g Lt⟩, rfl⟩
  | some b => obtain ⟨K, g⟩ := g Lt; exact ⟨_, Or.inr ⟨_, _, _, k, h, hz, g⟩, K, rfl⟩
end GX
