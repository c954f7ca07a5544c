/-! PART 03.d: more words for contracts -/
abbrev okY (a : Int32) : Prop := 1500 ≤ a ∧ a ≤ 1900
abbrev okYY (a b : Int32) : Prop := okY a ∧ okY b ∧ a ≤ b
abbrev okLeaf (a b c d : Int32) : Prop := rng12 a ∧ rng12 b ∧ a &&& b = 0 ∧ (0 ≤ c ∧ c ≤ 1000) ∧ 0 ≤ d ∧ d ≤ 2
theorem w_lt3 {d : Int32} (h : d < 3) : d ≤ 2 := by
  rw [Int32.lt_iff_toInt_lt] at h
  rw [Int32.le_iff_toInt_le]
  have e1 : (3 : Int32).toInt = 3 := rfl
  have e2 : (2 : Int32).toInt = 2 := rfl
  omega
theorem w_le2 {d : Int32} (h : d ≤ 2) : d < 3 := by
  rw [Int32.le_iff_toInt_le] at h
  rw [Int32.lt_iff_toInt_lt]
  have e1 : (3 : Int32).toInt = 3 := rfl
  have e2 : (2 : Int32).toInt = 2 := rfl
  omega
theorem w_out {u k : Int32} (h : u.toInt < 0 ∨ k.toInt < u.toInt) (h0 : 0 ≤ u) (h1 : u ≤ k) : False := by
  rw [Int32.le_iff_toInt_le] at h0 h1
  have e : (0 : Int32).toInt = 0 := rfl
  omega
/-- the greatest that a charge may be -/
def mostC (a : Int32) : Int32 := if a = 0 then 9 else if a = 1 then 9 else if a = 2 then 50 else if a = 3 then 9 else if a = 4 then 20 else -1
theorem mostC_out {a : Int32} (h : a < 0 ∨ 4 < a) : mostC a = -1 := by
  have h0 : ¬ a = 0 := fun e => by subst e; exact absurd h (by decide)
  have h1 : ¬ a = 1 := fun e => by subst e; exact absurd h (by decide)
  have h2 : ¬ a = 2 := fun e => by subst e; exact absurd h (by decide)
  have h3 : ¬ a = 3 := fun e => by subst e; exact absurd h (by decide)
  have h4 : ¬ a = 4 := fun e => by subst e; exact absurd h (by decide)
  simp [mostC, h0, h1, h2, h3, h4]
theorem mostC_out2 {a : Int32} (h : a.toInt < 0 ∨ 4 < a.toInt) : mostC a = -1 := mostC_out (by rw [Int32.lt_iff_toInt_lt, Int32.lt_iff_toInt_lt]; exact h)
theorem mostC_in {a b : Int32} (h : 0 ≤ b) (h2 : b ≤ mostC a) : 0 ≤ a ∧ a ≤ 4 := by
  refine Classical.byContradiction fun q => ?_
  have h3 : a < 0 ∨ 4 < a := by
    rcases Classical.em (a < 0) with z | z
    · exact Or.inl z
    · exact Or.inr (Int32.not_le.mp fun z2 => q ⟨Int32.not_lt.mp z, z2⟩)
  rw [mostC_out h3] at h2
  exact absurd (Int32.le_trans h h2) (by decide)
theorem wUpL_ov {s : wSt} {j : Nat} {a b : Int64} : wUpL (wUpL s j a) j b = wUpL s j b := by
  refine Prod.ext rfl ?_
  funext k
  simp only [wUpL]
  split <;> rfl
