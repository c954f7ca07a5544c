/-! PART 04.s: orders: the step's cost is a small number -/
theorem bit_01 (y : Int32) : ∃ b : Nat, b ≤ 1 ∧ y &&& 1 = nI b := by
  have e : (y &&& 1).toBitVec.toNat = y.toBitVec.toNat &&& 1 := rfl
  have h : (y &&& 1).toBitVec.toNat ≤ 1 := by rw [e]; exact Nat.and_le_right
  refine ⟨(y &&& 1).toBitVec.toNat, h, ?_⟩
  generalize (y &&& 1) = z at h ⊢
  apply Int32.toBitVec_inj.mp
  apply BitVec.eq_of_toNat_eq
  rcases Nat.le_one_iff_eq_zero_or_eq_one.mp h with q | q <;> rw [q] <;> rfl
theorem popU_le (x : Int32) : ∀ k : Nat, ∃ p : Nat, p ≤ k ∧ popU x k = nI p
  | 0 => ⟨0, Nat.le_refl 0, rfl⟩
  | k + 1 => by
    obtain ⟨p, h1, h2⟩ := popU_le x k
    obtain ⟨b, h3, h4⟩ := bit_01 (x >>> (nI k &&& 31))
    refine ⟨p + b, by omega, ?_⟩
    show popU x k + ((x >>> (nI k &&& 31)) &&& 1) = _
    rw [h2, h4, nI_add]
theorem step_le {c r g : Nat} (hc : c ≤ 9) (hr : r ≤ 9) (hg : g ≤ 50) (a b d : Int32) : ∃ v : Nat, v ≤ 1000 ∧ stepF (nI c) (nI r) (nI g) a b d = nI v := by
  unfold stepF pop
  obtain ⟨p, p1, p2⟩ := popU_le ((d &&& (b ^^^ -1)) &&& (a ^^^ -1)) 12
  obtain ⟨q, q1, q2⟩ := popU_le ((d &&& (b ^^^ -1)) &&& a) 12
  obtain ⟨s, s1, s2⟩ := popU_le (b &&& (d ^^^ -1)) 12
  refine ⟨p * c + q * g + s * r, ?_, ?_⟩
  · have a1 := Nat.mul_le_mul p1 hc
    have a2 := Nat.mul_le_mul q1 hg
    have a3 := Nat.mul_le_mul s1 hr
    omega
  · rw [p2, q2, s2, pk_mul, pk_mul, pk_mul, nI_add, nI_add]
/-- a step's cost, as both sides have it -/
def costW (c r g : Nat) (f : Nat → Int32) (n u a b : Nat) : Nat := (stepF (nI c) (nI r) (nI g) (linesU f (nI u) n) (f a) (f b)).toNatClampNeg
theorem costW_is {c r g : Nat} (hc : c ≤ 9) (hr : r ≤ 9) (hg : g ≤ 50) (f : Nat → Int32) (n u a b : Nat) : stepF (nI c) (nI r) (nI g) (linesU f (nI u) n) (f a) (f b) = nI (costW c r g f n u a b) ∧ costW c r g f n u a b ≤ 1000 := by
  obtain ⟨v, h1, h2⟩ := step_le hc hr hg (linesU f (nI u) n) (f a) (f b)
  unfold costW
  rw [h2, nI_clamp (show v < 2 ^ 31 by omega)]
  exact ⟨rfl, h1⟩
theorem envC_mk {σ : wSt} {n c r g : Nat} (hn : σ.1 1 0 5 = nI n) (h6 : n ≤ 6) (hl : ∀ k : Nat, k < n → rng12 (σ.1 6 0 k)) (e0 : σ.1 1 0 0 = nI c) (e1 : σ.1 1 0 1 = nI r) (e2 : σ.1 1 0 2 = nI g) (hc : c ≤ 9) (hr : r ≤ 9) (hg : g ≤ 50) : envC σ n (costW c r g (σ.1 6 0) n) := by
  refine ⟨hn, h6, hl, fun u a b _ _ _ => ?_⟩
  rw [e0, e1, e2]
  exact costW_is hc hr hg _ n u a b
theorem envM_mk {σ : wSt} {n c r g : Nat} (hn : σ.1 20 0 2 = nI n) (h6 : n ≤ 6) (hl : ∀ k : Nat, k < n → rng12 (σ.1 21 0 k)) (e0 : σ.1 24 0 0 = nI c) (e1 : σ.1 24 0 1 = nI r) (e2 : σ.1 24 0 2 = nI g) (hc : c ≤ 9) (hr : r ≤ 9) (hg : g ≤ 50) : envM σ n (costW c r g (σ.1 21 0) n) := by
  refine ⟨hn, h6, hl, fun u a b _ _ _ => ?_⟩
  rw [e0, e1, e2]
  exact costW_is hc hr hg _ n u a b
