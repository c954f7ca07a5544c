/-! PART 04.p: orders: the model's side -/
/-- what the model's orders stand on -/
def envM (σ : wSt) (n : Nat) (w : Nat → Nat → Nat → Nat) : Prop := σ.1 20 0 2 = nI n ∧ n ≤ 6 ∧ (∀ k : Nat, k < n → rng12 (σ.1 21 0 k)) ∧ ∀ u a b : Nat, u < 2 ^ n → a < n → b < n → stepF (σ.1 24 0 0) (σ.1 24 0 1) (σ.1 24 0 2) (linesU (σ.1 21 0) (nI u) n) (σ.1 21 0 a) (σ.1 21 0 b) = nI (w u a b) ∧ w u a b ≤ 1000
theorem envM.to {σ τ : wSt} {n : Nat} {w : Nat → Nat → Nat → Nat} (h : envM σ n w) (h1 : τ.1 20 = σ.1 20) (h2 : τ.1 21 = σ.1 21) (h4 : τ.1 24 = σ.1 24) : envM τ n w := by
  unfold envM at h ⊢
  rw [h1, h2, h4]
  exact h
theorem cost_le {w : Nat → Nat → Nat → Nat} {n : Nat} (h6 : n < 7) (hw : ∀ u a b : Nat, u < 2 ^ n → a < n → b < n → w u a b ≤ 1000) : ∀ (r u : Nat) (l : Option Nat) (m : Nat), u < 2 ^ n → (∀ a, l = some a → a < n) → validN n r u m = true → costN w r u l m ≤ 1000 * r
  | 0, _, _, _, _, _, _ => Nat.le_refl _
  | r + 1, u, l, m, hu, hl, hv => by
    unfold validN at hv
    rw [Bool.and_eq_true, Bool.and_eq_true, decide_eq_true_eq] at hv
    obtain ⟨v1, v2, v3⟩ := hv
    have hm := (mk_fin n h6 u hu _ v1).2.1
    have ih := cost_le h6 hw r (mkU u (m / 6 ^ r)) (some (m / 6 ^ r)) (m % 6 ^ r) hm (fun a ha => by cases ha; exact v1) v3
    have h1 : wO w u l (m / 6 ^ r) ≤ 1000 := by
      cases l with
      | none => exact Nat.zero_le _
      | some a => exact hw u a _ hu (hl a rfl) v1
    show wO w u l (m / 6 ^ r) + costN w r (mkU u (m / 6 ^ r)) (some (m / 6 ^ r)) (m % 6 ^ r) ≤ 1000 * (r + 1)
    omega
theorem ordB_iff {n m : Nat} : ordB n m = true ↔ ordOk n m := by
  unfold ordB ordOk
  rw [Bool.and_eq_true, Bool.and_eq_true, decide_eq_true_eq, decide_eq_true_eq]
theorem cost_ok {w : Nat → Nat → Nat → Nat} {n m : Nat} (h6 : n < 7) (hw : ∀ u a b : Nat, u < 2 ^ n → a < n → b < n → w u a b ≤ 1000) (h : ordOk n m) : costN w n 0 none m ≤ 6000 := by
  have := cost_le h6 hw n 0 none m (Nat.pow_pos (by decide)) (fun a ha => by cases ha) h.2.2
  have : 1000 * n ≤ 1000 * 6 := Nat.mul_le_mul_left _ (by omega)
  omega
/-- the best of all is an order, and the first of the least -/
theorem bst_ok {w : Nat → Nat → Nat → Nat} {n : Nat} (h0 : 0 < n) (h6 : n ≤ 6) : ordOk n (gr w n n 0 none) := ⟨h0, gr_lt h6 n 0 none, (opt (w := w) h6 n 0 none (Nat.pow_pos (by decide)) (cnt_0 n (by omega)).1).1⟩
theorem bst_fb {w : Nat → Nat → Nat → Nat} {n : Nat} (h0 : 0 < n) (h6 : n ≤ 6) : fbU (ordB n) (costN w n 0 none) (6 ^ n) = some (gr w n n 0 none) := by
  have ho := opt (w := w) h6 n 0 none (Nat.pow_pos (by decide)) (cnt_0 n (by omega)).1
  refine fb_is (gr_lt h6 n 0 none) (ordB_iff.mpr (bst_ok h0 h6)) (fun s _ hs => ?_)
  have := ho.2.2 s (ordB_iff.mp hs).2.2
  rw [ho.2.1]
  exact this
theorem se_lt {n m t : Nat} (h6 : n < 7) : seU m t < 64 := (rd_cnt (m := m) h6 t).2.2
