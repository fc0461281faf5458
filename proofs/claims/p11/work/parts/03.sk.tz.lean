/-! ===== the reader's state as the functions see it ===== -/
def tz (F : Nat → Int32) (i : Nat) : Int := (F i).toInt
def tzl (F : Nat → Int64) (i : Nat) : Int := (F i).toInt
section TZ
variable {F : Nat → Int32} {G : Nat → Int64} {f : Nat → Int} {j j2 : Nat} {v : Int32} {w : Int64} {v2 : Int}
theorem tz_uc (hF : tz F = f) (hj : j = j2) (hv : v.toInt = v2) : tz (upd F j v) = uz f j2 v2 := by
  subst hF hj hv
  funext i
  unfold tz uz upd
  split <;> rfl
theorem tzl_uc (hF : tzl G = f) (hj : j = j2) (hv : w.toInt = v2) : tzl (vp_updL G j w) = uz f j2 v2 := by
  subst hF hj hv
  funext i
  unfold tzl uz vp_updL
  split <;> rfl
end TZ
section CNG
variable {tk tv ta : Nat → Int} {S : Nat} {c c2 : PSt} {a a2 b b2 : Int}
theorem namC_c (h : c = c2) (ha : a = a2) (hb : b = b2) : namC tk tv ta S c a b = namC tk tv ta S c2 a2 b2 := by subst h ha hb; rfl
theorem calC_c (h : c = c2) (ha : a = a2) (hb : b = b2) : calC tk tv ta S c a b = calC tk tv ta S c2 a2 b2 := by subst h ha hb; rfl
theorem opnC_c (h : c = c2) (ha : a = a2) : opnC ta c a = opnC ta c2 a2 := by subst h ha; rfl
theorem redC_c (h : c = c2) (ha : a = a2) : redC S a c = redC S a2 c2 := by subst h ha; rfl
theorem binC_c (h : c = c2) (ha : a = a2) : binC tv S c a = binC tv S c2 a2 := by subst h ha; rfl
theorem worC_c (h : c = c2) : worC tk tv ta S c = worC tk tv ta S c2 := by subst h; rfl
theorem misC_c (h : c = c2) : misC ta c = misC ta c2 := by subst h; rfl
theorem finC_c (h : c = c2) : finC tk tv ta S c = finC tk tv ta S c2 := by subst h; rfl
theorem argC_c (h : c = c2) : argC tk tv ta S c = argC tk tv ta S c2 := by subst h; rfl
theorem asgC_c (h : c = c2) : asgC tk tv ta S c = asgC tk tv ta S c2 := by subst h; rfl
theorem sufC_c (h : c = c2) : sufC tk tv ta S c = sufC tk tv ta S c2 := by subst h; rfl
end CNG
theorem cst_l2i {x : Int32} {v : Int64} (h : x = Int64.toInt32 v) : x.toInt = cst v.toInt := by
  subst h
  exact Int64.toInt_toInt32 v
