/-! PART 04.n: orders: lines of none -/
theorem lines_0 {f : Nat → Int32} : ∀ n : Nat, n ≤ 6 → linesU f 0 n = 0
  | 0, _ => rfl
  | k + 1, hk => by
    have h := has_t (u := 0) (s := k) (by decide) (by omega)
    rw [linesU_f (f := f) (a := 0) k rfl (fun z => by have := h.mp z; simp [okU] at this)]
    exact lines_0 k (by omega)
