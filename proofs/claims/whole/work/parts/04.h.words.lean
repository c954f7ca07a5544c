/-! PART 04.h: a year that is right -/
theorem yr_iff {c y p im : Int32} {fr to mf mt : Nat → Int32} {n : Nat} : ((anyU c fr to y n = true ∧ (p = -9 ∨ (mf p.toNatClampNeg ≤ y ∧ y ≤ mt p.toNatClampNeg))) ∧ (im = -9 ∨ im ≤ y)) ↔ yrB c fr to n p mf mt im y = true := by
  unfold yrB
  rw [Bool.and_eq_true, Bool.and_eq_true, decide_eq_true_eq, decide_eq_true_eq]
  exact ⟨fun q => ⟨q.1.1, q.1.2, q.2⟩, fun q => ⟨⟨q.1, q.2.1⟩, q.2.2⟩⟩
