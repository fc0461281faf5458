/-! ===== all rules together, and a whole text ===== -/
theorem sim_all {tk tv ta sc : Nat → Int} {S n : Nat} {T N Pl : Int → Int} {Lt : Int → Int × Int} (hT : TOK tk tv ta sc n T N Pl Lt) {nt : Nat} {l : Int} {m : Bool} {k : IS} {d a : Int} {r : GR} (h : Gr T N Pl Lt nt l m k d a r) : MOT tk tv ta sc S n T N Pl nt l m k d a r :=
  h _ ⟨fun _ _ _ h0 h1 => S_choice_deep h0 h1,
    fun _ _ _ _ h0 h1 => S_choice_err h0 h1,
    fun _ _ _ _ _ _ _ _ _ h0 h1 h2 h3 h4 h5 => S_choice_ore hT h0 h1 h2 h3 h4 h5,
    fun _ _ _ _ _ _ _ _ _ _ h0 h1 h2 h3 h4 h5 => S_choice_or hT h0 h1 h2 h3 h4 h5,
    fun _ _ _ _ _ _ _ _ h0 h1 h2 h3 h4 => S_choice_qe hT h0 h1 h2 h3 h4,
    fun _ _ _ _ _ _ _ _ _ h0 h1 h2 h3 h4 => S_choice_q hT h0 h1 h2 h3 h4,
    fun _ _ _ _ _ h0 h1 h2 h3 => S_choice_ok hT h0 h1 h2 h3,
    fun _ _ _ _ _ h0 h1 => S_chosen_1 hT h0 h1,
    fun _ _ _ _ _ _ _ h0 h1 h2 h3 => S_chosen_2 hT h0 h1 h2 h3,
    fun _ _ _ _ _ _ _ _ _ h0 h1 h2 h3 h4 => S_chosen_3 hT h0 h1 h2 h3 h4,
    fun _ _ _ _ _ _ _ _ _ _ h0 h1 h2 h3 h4 => S_chosen_4 hT h0 h1 h2 h3 h4,
    fun _ _ _ _ h0 h1 => S_level_s h0 h1,
    fun _ _ _ _ _ _ h0 h1 h2 h3 => S_level_e h0 h1 h2 h3,
    fun _ _ _ _ _ _ _ _ h0 h1 h2 h3 h4 => S_level_l h0 h1 h2 h3 h4,
    fun _ _ _ _ _ h0 => S_lvl_0 h0,
    fun _ _ _ _ _ _ _ _ _ h0 h1 h2 h3 h4 h5 => S_lvl_e hT h0 h1 h2 h3 h4 h5,
    fun _ _ _ _ _ _ _ _ _ _ h0 h1 h2 h3 h4 => S_lvl_t hT h0 h1 h2 h3 h4,
    fun _ _ _ _ _ _ _ _ _ _ _ h0 h1 h2 h3 h4 h5 h6 h7 => S_lvl_m hT h0 h1 h2 h3 h4 h5 h6 h7,
    fun _ _ _ _ _ h0 h1 h2 => S_sign_e hT h0 h1 h2,
    fun _ _ _ _ _ _ h0 h1 h2 => S_sign_o hT h0 h1 h2,
    fun _ _ _ h0 h1 h2 => S_sign_n hT h0 h1 h2,
    fun _ _ _ _ h0 => S_chain_e h0,
    fun _ _ _ _ _ _ h0 h1 => S_chain_l h0 h1,
    fun _ _ _ _ h0 h1 => S_chl_0 h0 h1,
    fun _ _ _ _ _ _ h0 h1 h2 h3 => S_chl_x hT h0 h1 h2 h3,
    fun _ _ _ _ _ _ _ _ h0 h1 h2 h3 => S_chl_e hT h0 h1 h2 h3,
    fun _ _ _ _ _ _ _ _ _ _ h0 h1 h2 h3 h4 => S_chl_m hT h0 h1 h2 h3 h4,
    fun _ _ _ h0 h1 => S_first_l hT h0 h1,
    fun _ _ _ _ h0 h1 h2 h3 => S_first_v hT h0 h1 h2 h3,
    fun _ _ _ _ h0 h1 h2 h3 => S_first_vx hT h0 h1 h2 h3,
    fun _ _ _ _ h0 h1 h2 => S_first_b hT h0 h1 h2,
    fun _ _ _ h0 h1 => S_first_n hT h0 h1,
    fun _ _ _ h0 h1 h2 h3 h4 => S_first_x hT h0 h1 h2 h3 h4,
    fun _ _ _ _ _ h0 h1 => S_bracketed_e hT h0 h1,
    fun _ _ _ _ _ _ _ h0 h1 h2 h3 => S_bracketed_x hT h0 h1 h2 h3,
    fun _ _ _ _ _ _ _ h0 h1 h2 h3 => S_bracketed_o hT h0 h1 h2 h3,
    fun _ _ _ h0 h1 => S_named_k hT h0 h1,
    fun _ _ _ _ h0 h1 => S_named_e hT h0 h1,
    fun _ _ _ _ _ h0 h1 => S_named_m hT h0 h1,
    fun _ _ _ _ h0 h1 => S_member_p hT h0 h1,
    fun _ _ _ _ _ _ h0 h1 h2 h3 h4 => S_member_0 hT h0 h1 h2 h3 h4,
    fun _ _ _ _ _ _ _ _ h0 h1 h2 h3 h4 h5 => S_member_1e hT h0 h1 h2 h3 h4 h5,
    fun _ _ _ _ _ _ _ _ _ _ h0 h1 h2 h3 h4 h5 h6 h7 => S_member_1 hT h0 h1 h2 h3 h4 h5 h6 h7,
    fun _ _ _ _ _ _ _ _ _ _ h0 h1 h2 h3 h4 h5 h6 h7 h8 => S_member_1x hT h0 h1 h2 h3 h4 h5 h6 h7 h8,
    fun _ _ _ _ _ _ _ _ _ _ _ _ h0 h1 h2 h3 h4 h5 h6 h7 h8 => S_member_2e hT h0 h1 h2 h3 h4 h5 h6 h7 h8,
    fun _ _ _ _ _ _ _ _ _ _ _ _ _ _ h0 h1 h2 h3 h4 h5 h6 h7 h8 h9 h10 => S_member_2 hT h0 h1 h2 h3 h4 h5 h6 h7 h8 h9 h10,
    fun _ _ _ _ _ _ _ _ _ _ _ _ _ _ h0 h1 h2 h3 h4 h5 h6 h7 h8 h9 h10 => S_member_2x hT h0 h1 h2 h3 h4 h5 h6 h7 h8 h9 h10⟩
theorem Gr_e23 {T N Pl : Int → Int} {Lt : Int → Int × Int} {nt : Nat} {l : Int} {m : Bool} {k : IS} {d a : Int} {r : GR} (h : Gr T N Pl Lt nt l m k d a r) : ∀ e p, r = .inr (e, p) → e = 2 ∨ e = 3 :=
  h (fun _ _ _ _ _ _ r => ∀ e p, r = .inr (e, p) → e = 2 ∨ e = 3) ⟨fun _ _ _ h0 h1 => fun e9 p9 h9 => (by cases h9; decide),
    fun _ _ _ _ h0 h1 => fun e9 p9 h9 => (by cases h9; exact h1 _ _ rfl),
    fun _ _ _ _ _ _ _ _ _ h0 h1 h2 h3 h4 h5 => fun e9 p9 h9 => (by cases h9; exact h5 _ _ rfl),
    fun _ _ _ _ _ _ _ _ _ _ h0 h1 h2 h3 h4 h5 => fun e9 p9 h9 => (by cases h9),
    fun _ _ _ _ _ _ _ _ h0 h1 h2 h3 h4 => fun e9 p9 h9 => (by cases h9; exact h4 _ _ rfl),
    fun _ _ _ _ _ _ _ _ _ h0 h1 h2 h3 h4 => fun e9 p9 h9 => (by cases h9),
    fun _ _ _ _ _ h0 h1 h2 h3 => fun e9 p9 h9 => (by cases h9),
    fun _ _ _ _ _ h0 h1 => fun e9 p9 h9 => (by cases h9; exact h1 _ _ rfl),
    fun _ _ _ _ _ _ _ h0 h1 h2 h3 => fun e9 p9 h9 => (by cases h9; decide),
    fun _ _ _ _ _ _ _ _ _ h0 h1 h2 h3 h4 => fun e9 p9 h9 => (by cases h9; exact h4 _ _ rfl),
    fun _ _ _ _ _ _ _ _ _ _ h0 h1 h2 h3 h4 => fun e9 p9 h9 => (by cases h9),
    fun _ _ _ _ h0 h1 => fun e9 p9 h9 => h1 e9 p9 h9,
    fun _ _ _ _ _ _ h0 h1 h2 h3 => fun e9 p9 h9 => (by cases h9; exact h3 _ _ rfl),
    fun _ _ _ _ _ _ _ _ h0 h1 h2 h3 h4 => fun e9 p9 h9 => h4 e9 p9 h9,
    fun _ _ _ _ _ h0 => fun e9 p9 h9 => (by cases h9),
    fun _ _ _ _ _ _ _ _ _ h0 h1 h2 h3 h4 h5 => fun e9 p9 h9 => (by cases h9; exact h5 _ _ rfl),
    fun _ _ _ _ _ _ _ _ _ _ h0 h1 h2 h3 h4 => fun e9 p9 h9 => (by cases h9),
    fun _ _ _ _ _ _ _ _ _ _ _ h0 h1 h2 h3 h4 h5 h6 h7 => fun e9 p9 h9 => h7 e9 p9 h9,
    fun _ _ _ _ _ h0 h1 h2 => fun e9 p9 h9 => (by cases h9; exact h2 _ _ rfl),
    fun _ _ _ _ _ _ h0 h1 h2 => fun e9 p9 h9 => (by cases h9),
    fun _ _ _ h0 h1 h2 => fun e9 p9 h9 => h2 e9 p9 h9,
    fun _ _ _ _ h0 => fun e9 p9 h9 => (by cases h9; exact h0 _ _ rfl),
    fun _ _ _ _ _ _ h0 h1 => fun e9 p9 h9 => h1 e9 p9 h9,
    fun _ _ _ _ h0 h1 => fun e9 p9 h9 => (by cases h9),
    fun _ _ _ _ _ _ h0 h1 h2 h3 => fun e9 p9 h9 => (by cases h9; decide),
    fun _ _ _ _ _ _ _ _ h0 h1 h2 h3 => fun e9 p9 h9 => (by cases h9; exact h3 _ _ rfl),
    fun _ _ _ _ _ _ _ _ _ _ h0 h1 h2 h3 h4 => fun e9 p9 h9 => h4 e9 p9 h9,
    fun _ _ _ h0 h1 => fun e9 p9 h9 => (by cases h9),
    fun _ _ _ _ h0 h1 h2 h3 => fun e9 p9 h9 => (by cases h9),
    fun _ _ _ _ h0 h1 h2 h3 => fun e9 p9 h9 => (by cases h9; decide),
    fun _ _ _ _ h0 h1 h2 => fun e9 p9 h9 => h2 e9 p9 h9,
    fun _ _ _ h0 h1 => fun e9 p9 h9 => h1 e9 p9 h9,
    fun _ _ _ h0 h1 h2 h3 h4 => fun e9 p9 h9 => (by cases h9; decide),
    fun _ _ _ _ _ h0 h1 => fun e9 p9 h9 => (by cases h9; exact h1 _ _ rfl),
    fun _ _ _ _ _ _ _ h0 h1 h2 h3 => fun e9 p9 h9 => (by cases h9; decide),
    fun _ _ _ _ _ _ _ h0 h1 h2 h3 => fun e9 p9 h9 => (by cases h9),
    fun _ _ _ h0 h1 => fun e9 p9 h9 => (by cases h9),
    fun _ _ _ _ h0 h1 => fun e9 p9 h9 => (by cases h9; exact h1 _ _ rfl),
    fun _ _ _ _ _ h0 h1 => fun e9 p9 h9 => (by cases h9),
    fun _ _ _ _ h0 h1 => fun e9 p9 h9 => (by cases h9),
    fun _ _ _ _ _ _ h0 h1 h2 h3 h4 => fun e9 p9 h9 => (by cases h9),
    fun _ _ _ _ _ _ _ _ h0 h1 h2 h3 h4 h5 => fun e9 p9 h9 => (by cases h9; exact h5 _ _ rfl),
    fun _ _ _ _ _ _ _ _ _ _ h0 h1 h2 h3 h4 h5 h6 h7 => fun e9 p9 h9 => (by cases h9),
    fun _ _ _ _ _ _ _ _ _ _ h0 h1 h2 h3 h4 h5 h6 h7 h8 => fun e9 p9 h9 => (by cases h9; decide),
    fun _ _ _ _ _ _ _ _ _ _ _ _ h0 h1 h2 h3 h4 h5 h6 h7 h8 => fun e9 p9 h9 => (by cases h9; exact h8 _ _ rfl),
    fun _ _ _ _ _ _ _ _ _ _ _ _ _ _ h0 h1 h2 h3 h4 h5 h6 h7 h8 h9 h10 => fun e9 p9 h9 => (by cases h9),
    fun _ _ _ _ _ _ _ _ _ _ _ _ _ _ h0 h1 h2 h3 h4 h5 h6 h7 h8 h9 h10 => fun e9 p9 h9 => (by cases h9; decide)⟩
/-- the end of a whole reading -/
def FinQ (R : (Int × Int) ⊕ IS) (c : PSt) : Prop := match R with
  | .inl (e, p) => xer c = e ∧ (e = 2 ∨ e = 3) ∧ xwh c = p
  | .inr _ => xer c = 0 ∧ ¬ xdn c = 0
section SIM5
variable {tk tv ta sc : Nat → Int} {S n : Nat} {T N Pl : Int → Int} {Lt : Int → Int × Int} {Q : PSt → Prop} {c c0 c1 c2 c3 : PSt} {a a1 b : Int} {m : Bool} {k : IS} {R : (Int × Int) ⊕ IS}
theorem fi2_0 (hf : xfr c1 = 1) (hm : xfm c1 0 = 0 ∨ xfm c1 0 = 1) : fi2C tk tv ta S c1 = if ¬ tk (xnx c1) = 0 then asgC tk tv ta S c1 else if xfm c1 0 = 1 then emitC S (mkC (xfr c1) (xwa c1) (xnx c1) (xop c1) (xer c1) (xwh c1) 1 (xwr c1) (xtg c1) (xts c1) (xfm c1) (xbs c1) (xsg c1) (xpa c1) (xcn c1) (xck c1) (xcl c1) (xpl c1) (xam c1) (xoo c1) (xlv c1) (xjm c1) (xst c1) (xwi c1)) (xts c1) (xtg c1) else mkC (xfr c1) (xwa c1) (xnx c1) (xop c1) (xer c1) (xwh c1) 1 (xwr c1) (xtg c1) (xts c1) (xfm c1) (xbs c1) (xsg c1) (xpa c1) (xcn c1) (xck c1) (xcl c1) (xpl c1) (xam c1) (xoo c1) (xlv c1) (xjm c1) (xst c1) (xwi c1) := by
  unfold fi2C
  rw [show xfr c1 - 1 = 0 by omega, if_neg (by omega), if_neg (by omega), if_neg (by omega), if_neg (by omega)]
  rfl
/-- where the text ends -/
theorem end_ok (hT : TOK tk tv ta sc n T N Pl Lt) (hf : xfr c1 = 1) (hm : xfm c1 0 = 0 ∨ xfm c1 0 = 1) (h1 : xer c1 = 0) (hn : xnx c1 < n) (ha : (xnx c1 : Int) = a) (h0 : T a = 0) : EE tk tv ta sc S (FinQ (.inr k)) (fi2C tk tv ta S c1) := by
  subst ha
  rw [fi2_0 hf hm, if_neg (fun h => h ((hT.en hn).mp h0))]
  split
  · exact EE_d (by show ¬ (1 : Int) = 0; decide) ⟨h1, by show ¬ (1 : Int) = 0; decide⟩
  · exact EE_d (by show ¬ (1 : Int) = 0; decide) ⟨h1, by show ¬ (1 : Int) = 0; decide⟩
theorem end_bad (hT : TOK tk tv ta sc n T N Pl Lt) (hf : xfr c1 = 1) (hm : xfm c1 0 = 0 ∨ xfm c1 0 = 1) (h1 : xer c1 = 0) (hn : xnx c1 < n) (ha : (xnx c1 : Int) = a) (h0 : ¬ T a = 0) (hno : ¬ (xfm c1 0 = 0 ∧ T a = 61 ∧ ¬ xpl c1 0 = 0 ∧ ¬ xam c1 0 = 0)) : EE tk tv ta sc S (FinQ (.inl (2, Pl a))) (fi2C tk tv ta S c1) := by
  subst ha
  rw [fi2_0 hf hm, if_pos (fun h => h0 ((hT.en hn).mpr h))]
  unfold asgC
  rw [if_neg (fun h => hno ⟨h.1, (hT.sg hn (by decide)).mpr h.2.1, h.2.2⟩)]
  exact mis_go hT h1 hn rfl (fun c1 k1 k2 => ⟨k1, Or.inl rfl, k2⟩)
theorem asg_in (hT : TOK tk tv ta sc n T N Pl Lt) (hf : xfr c1 = 1) (hm : xfm c1 0 = 0) (h1 : xer c1 = 0) (h2 : xdn c1 = 0) (hn : xnx c1 < n) (ha : (xnx c1 : Int) = a) (h0 : T a = 61) (hp : ¬ xpl c1 0 = 0) (hq : ¬ xam c1 0 = 0) (hb : b = a + 1) :
    ∃ C2, fi2C tk tv ta S c1 = C2 ∧ PreC n 0 C2 b ∧ ¬ xop C2 = 0 ∧ xsg C2 0 = 0 ∧ xbs C2 0 = (xwa C2 : Int) ∧ xfm C2 0 = 1 := by
  subst ha
  have n1 := hT.nx hn (by omega)
  have z := (hT.sg hn (ch := 61) (by decide)).mp h0
  refine ⟨_, rfl, ?_⟩
  rw [fi2_0 hf (Or.inl hm), if_pos (by omega)]
  unfold asgC
  rw [if_pos ⟨hm, z, hp, hq⟩]
  have e : xfr c1 - 1 = 0 := by omega
  split
  · refine ⟨⟨h1, h2, hf, by decide, by show ((xnx c1 + 1 : Nat) : Int) = b; omega, n1, ?_⟩, by show ¬ (1 : Int) = 0; decide, ?_, ?_, show uz (xfm c1) 0 1 0 = 1 from uz_eq⟩
    · show uz (xcl c1) (xfr c1 - 1) 0 0 = 0
      rw [e, uz_eq]
    · show uz (xsg c1) (xfr c1 - 1) 0 0 = 0
      rw [e, uz_eq]
    · show uz (xbs c1) (xfr c1 - 1) _ 0 = _
      rw [e, uz_eq]; rfl
  · refine ⟨⟨h1, h2, hf, by decide, by show ((xnx c1 + 1 : Nat) : Int) = b; omega, n1, ?_⟩, by show ¬ (1 : Int) = 0; decide, ?_, ?_, show uz (xfm c1) 0 1 0 = 1 from uz_eq⟩
    · show uz (xcl c1) (xfr c1 - 1) 0 0 = 0
      rw [e, uz_eq]
    · show uz (xsg c1) (xfr c1 - 1) 0 0 = 0
      rw [e, uz_eq]
    · show uz (xbs c1) (xfr c1 - 1) _ 0 = _
      rw [e, uz_eq]; rfl
/-- the reader does with a whole text what the grammar says -/
theorem sim_prog (hT : TOK tk tv ta sc n T N Pl Lt) (h1 : xer c = 0) (h2 : xdn c = 0) (h3 : xfr c = 0) (h5 : xnx c = 0) (hg : GrP T N Pl Lt R) : EE tk tv ta sc S (FinQ R) c := by
  refine EE_s h1 h2 ?_
  unfold stpC
  rw [if_pos h3, opn_is (by omega)]
  generalize hG : freC _ = G
  have hn := hT.1
  have g : PreC n 0 G 0 ∧ ¬ xop G = 0 ∧ xsg G 0 = 0 ∧ xbs G 0 = (xwa G : Int) ∧ xpl G 0 = 1 ∧ xfm G 0 = 0 := by
    subst hG
    have e : xfr c + 1 - 1 = 0 := by omega
    refine ⟨⟨h1, h2, by show xfr c + 1 = 0 + 1; omega, by decide, by show (xnx c : Int) = 0; omega, by show xnx c < n; omega, ?_⟩, by show ¬ (1 : Int) = 0; decide, ?_, ?_, ?_, ?_⟩
    · show uz (xcl c) (xfr c + 1 - 1) 0 0 = 0
      rw [e, uz_eq]
    · show uz (xsg c) (xfr c + 1 - 1) 0 0 = 0
      rw [e, uz_eq]
    · show uz (xbs c) (xfr c + 1 - 1) _ 0 = _
      rw [e, uz_eq]; rfl
    · show uz (xpl c) (xfr c + 1 - 1) 1 0 = 1
      rw [e, uz_eq]
    · show uz (xfm c) (xfr c) 0 0 = 0
      rw [h3, uz_eq]
  obtain ⟨g1, g2, g3, g4, g5, g6⟩ := g
  have sim : ∀ {a : Int} {r : GR}, Gr T N Pl Lt 0 0 false [] 0 a r → Q0 tk tv ta sc S n Pl 0 a r := fun h => sim_all hT h
  rcases hg with ⟨x, p, k1, rfl⟩ | ⟨a, m, k, k1, k2, k3, rfl⟩ | ⟨a, m, k, k1, k2, k3, rfl⟩ | ⟨a, x, p, k, k1, k2, k3, rfl⟩ | ⟨a, a1, m, k, kk, k1, k2, k3, k4, rfl⟩ | ⟨a, a1, m, k, kk, k1, k2, k3, k4, rfl⟩
  · exact (sim k1).2 _ G 0 rfl g1 g2 g3 g4 (fun c1 e1 e2 => ⟨e1, Gr_e23 k1 _ _ rfl, e2⟩)
  · refine (sim k1).2 _ G 0 rfl g1 g2 g3 g4 (fun c1 hc => ?_)
    obtain ⟨j1, j2, j3, j4, j5, j6, j7, j8, j9, j10⟩ := hc
    exact end_ok hT (j6.1.trans g1.2.2.1) (Or.inl (j6.2.2.1.trans g6)) j1 j5 j4 k3
  · refine (sim k1).2 _ G 0 rfl g1 g2 g3 g4 (fun c1 hc => ?_)
    obtain ⟨j1, j2, j3, j4, j5, j6, j7, j8, j9, j10⟩ := hc
    refine end_bad hT (j6.1.trans g1.2.2.1) (Or.inl (j6.2.2.1.trans g6)) j1 j5 j4 k3 (fun z => k2 ⟨z.2.1, ?_⟩)
    exact (j10.2 (by rw [g5]; decide)).mpr z.2.2
  · refine (sim k1).2 _ G 0 rfl g1 g2 g3 g4 (fun c1 hc => ?_)
    obtain ⟨j1, j2, j3, j4, j5, j6, j7, j8, j9, j10⟩ := hc
    have z := (j10.2 (by rw [g5]; decide)).mp rfl
    obtain ⟨C2, y1, y2, y3, y4, y5, y6⟩ := asg_in (S := S) hT (j6.1.trans g1.2.2.1) (j6.2.2.1.trans g6) j1 j2 j5 j4 k2 z.1 z.2 rfl
    rw [y1]
    exact (sim k3).2 _ C2 0 rfl y2 y3 y4 y5 (fun c1 e1 e2 => ⟨e1, Gr_e23 k3 _ _ rfl, e2⟩)
  · refine (sim k1).2 _ G 0 rfl g1 g2 g3 g4 (fun c1 hc => ?_)
    obtain ⟨j1, j2, j3, j4, j5, j6, j7, j8, j9, j10⟩ := hc
    have z := (j10.2 (by rw [g5]; decide)).mp rfl
    obtain ⟨C2, y1, y2, y3, y4, y5, y6⟩ := asg_in (S := S) hT (j6.1.trans g1.2.2.1) (j6.2.2.1.trans g6) j1 j2 j5 j4 k2 z.1 z.2 rfl
    rw [y1]
    refine (sim k3).2 _ C2 0 rfl y2 y3 y4 y5 (fun c3 hc => ?_)
    obtain ⟨l1, l2, l3, l4, l5, l6, l7, l8, l9, l10⟩ := hc
    exact end_ok hT (l6.1.trans y2.2.2.1) (Or.inr (l6.2.2.1.trans y6)) l1 l5 l4 k4
  · refine (sim k1).2 _ G 0 rfl g1 g2 g3 g4 (fun c1 hc => ?_)
    obtain ⟨j1, j2, j3, j4, j5, j6, j7, j8, j9, j10⟩ := hc
    have z := (j10.2 (by rw [g5]; decide)).mp rfl
    obtain ⟨C2, y1, y2, y3, y4, y5, y6⟩ := asg_in (S := S) hT (j6.1.trans g1.2.2.1) (j6.2.2.1.trans g6) j1 j2 j5 j4 k2 z.1 z.2 rfl
    rw [y1]
    refine (sim k3).2 _ C2 0 rfl y2 y3 y4 y5 (fun c3 hc => ?_)
    obtain ⟨l1, l2, l3, l4, l5, l6, l7, l8, l9, l10⟩ := hc
    have h9 : xfm c3 0 = 1 := l6.2.2.1.trans y6
    exact end_bad hT (l6.1.trans y2.2.2.1) (Or.inr h9) l1 l5 l4 k4 (fun z => by omega)
end SIM5
