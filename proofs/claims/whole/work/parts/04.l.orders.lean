/-! PART 04.l: frames of one group, tables, digits -/
def frG (g0 : Nat) (σ τ : wSt) : Prop := (∀ g : Nat, g ≠ g0 → τ.1 g = σ.1 g) ∧ τ.2 = σ.2
theorem frG.rf {g0 : Nat} {σ : wSt} : frG g0 σ σ := ⟨fun _ _ => rfl, rfl⟩
theorem frG.up {g0 : Nat} {σ τ : wSt} (h : frG g0 σ τ) {i k : Nat} {v : Int32} : frG g0 σ (wUp τ g0 i k v) := ⟨fun g hg => (wUp_ngf hg).trans (h.1 g hg), h.2⟩
theorem mk_gt : ∀ u : Nat, u < 64 → ∀ b : Nat, b < 6 → okU u b = true → u < mkU u b := by decide +kernel
theorem tab_up {τ : wSt} {n u k : Nat} {w9 : Nat → Nat → Nat → Nat} {r : Int32} (hu : u < 2 ^ 31) (hk : k < 2 ^ 31) (h : ∀ v a : Nat, (u < v ∨ (v = u ∧ a < k)) → v < 2 ^ n → a < n → τ.1 10 v a = nI (Vt w9 n v a)) (hr : r = nI (Vt w9 n u k)) : ∀ v a : Nat, (u < v ∨ (v = u ∧ a < k + 1)) → v < 2 ^ n → a < n → (wUp τ 10 (nI u).toNatClampNeg (nI k).toNatClampNeg r).1 10 v a = nI (Vt w9 n v a) := by
  intro v a hc hv ha
  rw [nI_clamp hu, nI_clamp hk]
  by_cases e : v = u ∧ a = k
  · obtain ⟨rfl, rfl⟩ := e
    rw [wUp_eq, hr]
  · rw [wUp_ne (fun q => e ⟨q.2.1, q.2.2⟩)]
    exact h v a (by omega) hv ha
theorem cnt_le {u : Nat} : ∀ n : Nat, cntF u n ≤ n
  | 0 => Nat.le_refl 0
  | k + 1 => by
    have := cnt_le (u := u) k
    unfold cntF
    split <;> omega
theorem V_bd {w : Nat → Nat → Nat → Nat} {n u s : Nat} {l : Option Nat} (h6 : n < 7) (hw : ∀ u a b : Nat, u < 2 ^ n → a < n → b < n → w u a b ≤ 1000) (hu : u < 2 ^ n) (hl : ∀ x, l = some x → x < n) (hs : s < n) : wO w u l s + Vt w n (mkU u s) s < 1000000 := by
  have h1 : wO w u l s ≤ 1000 := by
    cases l with
    | none => exact Nat.zero_le _
    | some a => exact hw u a s hu (hl a rfl) hs
  have hm := (mk_fin n h6 u hu s hs).2.1
  have h2 := V_le h6 hw (cntF (mkU u s) n) (mkU u s) (some s) hm (fun a ha => by cases ha; exact hs)
  have h3 : cntF (mkU u s) n ≤ n := cnt_le n
  unfold Vt
  have : 1000 * cntF (mkU u s) n ≤ 1000 * n := Nat.mul_le_mul_left _ h3
  omega
def ordOk (n m : Nat) : Prop := 0 < n ∧ m < 6 ^ n ∧ validN n n 0 m = true
theorem ord_dg {n m : Nat} (h6 : n ≤ 6) (h : ordOk n m) {i : Nat} (hi : i < n) : dg n m i < n := by
  have := ((valid_dst h6 n 0 m (by decide) h.2.1).mp h.2.2).1 (n - 1 - i) (by omega)
  exact this.1
theorem cost_first {w : Nat → Nat → Nat → Nat} {n m : Nat} (h0 : 0 < n) (hm : m < 6 ^ n) : costN w (n - 1) (mkU 0 (dg n m 0)) (some (dg n m 0)) (m % 6 ^ (n - 1)) = costN w n 0 none m := by
  obtain ⟨r, rfl⟩ : ∃ r, n = r + 1 := ⟨n - 1, by omega⟩
  have hd : dg (r + 1) m 0 = m / 6 ^ r := by
    show m / 6 ^ r % 6 = m / 6 ^ r
    refine Nat.mod_eq_of_lt (Nat.div_lt_of_lt_mul ?_)
    rw [Nat.pow_succ] at hm
    exact hm
  rw [hd]
  show costN w r _ _ _ = 0 + costN w r _ _ _
  rw [Nat.zero_add]
  rfl
theorem cost_step {w : Nat → Nat → Nat → Nat} {n m i U a : Nat} (hi : i + 1 < n) : costN w (n - 1 - i) U (some a) (m % 6 ^ (n - 1 - i)) = w U a (dg n m (i + 1)) + costN w (n - 1 - (i + 1)) (mkU U (dg n m (i + 1))) (some (dg n m (i + 1))) (m % 6 ^ (n - 1 - (i + 1))) := by
  obtain ⟨r, hr⟩ : ∃ r, n - 1 - i = r + 1 := ⟨n - 2 - i, by omega⟩
  have hr2 : n - 1 - (i + 1) = r := by omega
  have hd : m % 6 ^ (r + 1) / 6 ^ r = dg n m (i + 1) := by
    unfold dg
    rw [hr2, Nat.pow_succ, Nat.mod_mul_right_div_self]
  rw [hr, hr2]
  show w U a (m % 6 ^ (r + 1) / 6 ^ r) + costN w r _ _ _ = _
  rw [hd]
  have : m % 6 ^ (r + 1) % 6 ^ r = m % 6 ^ r := by
    rw [Nat.pow_succ]
    exact Nat.mod_mul_right_mod _ _ _
  rw [this]
theorem nI_sub1 {k : Nat} (h : 0 < k) : nI k - 1 = nI (k - 1) := by
  obtain ⟨j, rfl⟩ : ∃ j, k = j + 1 := ⟨k - 1, by omega⟩
  exact nI_pred j
theorem nI_lt0 {k : Nat} (h : k ≤ 1000) : nI k - 1 < 0 ↔ k = 0 := by
  rw [Int32.lt_iff_toInt_lt, nI_predI h]
  have e : (0 : Int32).toInt = 0 := rfl
  omega
theorem ord_big {n m : Nat} (h : ordOk n m) : m / 6 ^ n = 0 := Nat.div_eq_of_lt h.2.1
theorem ord_rd {n m u : Nat} (h0 : 0 < n) (h6 : n ≤ 6) (h : rdU n m n = some u) (h2 : m / 6 ^ n = 0) : ordOk n m := by
  have hm : m < 6 ^ n := by
    rcases Nat.lt_or_ge m (6 ^ n) with z | z
    · exact z
    · have := Nat.div_pos z (Nat.pow_pos (n := n) (show 0 < 6 by decide))
      omega
  exact ⟨h0, hm, (rd_valid h6 hm).mp (by rw [h]; rfl)⟩
theorem rd_pre {n m : Nat} : ∀ t k : Nat, t ≤ k → rdU n m t = none → rdU n m k = none
  | t, 0, h, e => by rw [Nat.le_zero.mp h] at e; exact e
  | t, k + 1, h, e => by
    rcases Nat.lt_or_ge t (k + 1) with z | z
    · have := rd_pre t k (by omega) e
      conv => lhs; unfold rdU
      rw [this]
    · rw [show t = k + 1 by omega] at e
      exact e
theorem ord_no {n m t : Nat} (h6 : n ≤ 6) (ht : t ≤ n) (h : rdU n m t = none) : ¬ ordOk n m := fun q => by
  have := (rd_valid h6 q.2.1).mpr q.2.2
  rw [rd_pre t n ht h] at this
  cases this
theorem rd_none {n m t u : Nat} (e : rdU n m t = some u) (q : ¬ (m / 6 ^ t % 6 < n ∧ okU u (m / 6 ^ t % 6) = true)) : rdU n m (t + 1) = none := by
  conv => lhs; unfold rdU
  rw [e]
  exact if_neg q
theorem rd_some {n m t u : Nat} (e : rdU n m t = some u) (q : m / 6 ^ t % 6 < n ∧ okU u (m / 6 ^ t % 6) = true) : rdU n m (t + 1) = some (mkU u (m / 6 ^ t % 6)) := by
  conv => lhs; unfold rdU
  rw [e]
  exact if_pos q
theorem nI_inj31 {a b : Nat} (ha : a < 2 ^ 31) (hb : b < 2 ^ 31) (h : nI a = nI b) : a = b := (nI_eq ha hb).mp h
theorem pow_31 : ∀ n : Nat, n ≤ 6 → 6 ^ n ≤ 46656 := by decide
