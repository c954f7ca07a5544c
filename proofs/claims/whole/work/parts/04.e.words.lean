/-! PART 04.e: holes in the model -/
theorem idx6 (i j : Nat) : (6 : Int32) * nI i + nI j = nI (6 * i + j) := by
  rw [show (6 : Int32) = nI 6 from rfl, pk_mul, nI_add]
theorem idx120 (i j : Nat) : (120 : Int32) + 6 * nI i + nI j = nI (120 + 6 * i + j) := by
  rw [show (6 : Int32) = nI 6 from rfl, show (120 : Int32) = nI 120 from rfl, pk_mul, nI_add, nI_add]
theorem idx20 (i : Nat) : (20 : Int32) + nI i = nI (20 + i) := by
  rw [show (20 : Int32) = nI 20 from rfl, nI_add]
theorem w_nat {b : Int32} {l : Nat} (h : 0 ≤ b ∧ b < nI l) (hl : l < 2 ^ 31) : b = nI b.toNatClampNeg := by
  obtain ⟨j, hj, e⟩ := vp_ofI h hl
  rw [e, nI_clamp (by omega)]
theorem near_f0 {p : Nat → Int32} {v : Int32} {j : Nat} (hf : nearB p v 0 j = false) (hp : rng99 (p j)) (hv : rng99 v) (h : ¬ p j = v) : nearB p v 0 (j + 1) = false := by
  simp only [nearB, hf, Bool.false_or, decide_eq_false_iff_not]
  exact fun q => h ((near_0 hp hv).mpr q)
theorem near_t0 {p : Nat → Int32} {v : Int32} {j n : Nat} (hj : j < n) (hp : rng99 (p j)) (hv : rng99 v) (h : p j = v) : nearB p v 0 n = true := by
  refine near_mono (a := j + 1) (by omega) ?_
  simp only [nearB, Bool.or_eq_true, decide_eq_true_eq]
  exact Or.inr ((near_0 hp hv).mp h)
theorem near_s1 {q : Nat → Int32} {p s : Int32} {k : Nat} (hp : rng99 p) (hq : rng99 (q k)) (hs : -20 ≤ s ∧ s ≤ 20) {r : Int32} (e : r = wb (-1 ≤ p + s - q k ∧ p + s - q k ≤ 1)) : wb (nearB q (p + s) 1 k = true) ||| r = wb (nearB q (p + s) 1 (k + 1) = true) := by
  rw [e, wb_orw]
  refine wb_iff ?_
  simp only [nearB, Bool.or_eq_true, decide_eq_true_eq]
  rw [near_1 hp hq hs]
theorem homeU_src {M : Nat → Int32} : ∀ k : Nat, ((homeU M k).1 = -9 ∧ (homeU M k).2 = 1) ∨ ∃ j : Nat, j < k ∧ (homeU M k).1 = nI j ∧ (homeU M k).2 = M j
  | 0 => Or.inl ⟨rfl, rfl⟩
  | k + 1 => by
    by_cases h : (homeU M k).2 < M k
    · rw [homeU_t h]
      exact Or.inr ⟨k, by omega, rfl, rfl⟩
    · rw [homeU_f h]
      rcases homeU_src (M := M) k with q | ⟨j, h1, h2⟩
      · exact Or.inl q
      · exact Or.inr ⟨j, by omega, h2⟩
/-- the years of a leaf, one by one: the first and the last that are right -/
def yrU (P : Int32 → Bool) : Nat → Int32 × Int32
  | 0 => (-9, -9)
  | k + 1 => if P (nI (1500 + k)) = true then (if (yrU P k).1 = -9 then nI (1500 + k) else (yrU P k).1, nI (1500 + k)) else yrU P k
theorem yrU_t {P : Int32 → Bool} {k : Nat} (h : P (nI (1500 + k)) = true) : yrU P (k + 1) = (if (yrU P k).1 = -9 then nI (1500 + k) else (yrU P k).1, nI (1500 + k)) := if_pos h
theorem yrU_f {P : Int32 → Bool} {k : Nat} (h : ¬ P (nI (1500 + k)) = true) : yrU P (k + 1) = yrU P k := if_neg h
/-- a year is right for one of the first k states -/
def anyU (c : Int32) (fr to : Nat → Int32) (y : Int32) : Nat → Bool
  | 0 => false
  | k + 1 => anyU c fr to y k || decide ((c >>> (nI k &&& 31)) &&& 1 = 1 ∧ fr k ≤ y ∧ y ≤ to k)
def yrB (c : Int32) (fr to : Nat → Int32) (n : Nat) (p : Int32) (mf mt : Nat → Int32) (im y : Int32) : Bool := anyU c fr to y n && (decide (p = -9 ∨ (mf p.toNatClampNeg ≤ y ∧ y ≤ mt p.toNatClampNeg)) && decide (im = -9 ∨ im ≤ y))
theorem any_f {c y : Int32} {fr to : Nat → Int32} {k : Nat} (h : ¬ ((c >>> (nI k &&& 31)) &&& 1 = 1 ∧ fr k ≤ y ∧ y ≤ to k)) : wb (anyU c fr to y k = true) ||| 0 = wb (anyU c fr to y (k + 1) = true) := by
  rw [i_or0]
  refine wb_iff ?_
  simp only [anyU, decide_eq_false h, Bool.or_false]
theorem any_t {c y : Int32} {fr to : Nat → Int32} {k : Nat} (h : (c >>> (nI k &&& 31)) &&& 1 = 1 ∧ fr k ≤ y ∧ y ≤ to k) : wb (anyU c fr to y k = true) ||| 1 = wb (anyU c fr to y (k + 1) = true) := by
  rw [wb_or1]
  refine (wb_t ?_).symm
  simp only [anyU, decide_eq_true h, Bool.or_true]
theorem wb_eq0 {P : Prop} [Decidable P] (h : wb P = 0) : ¬ P := fun q => by rw [wb_t q] at h; exact absurd h (by decide)
theorem wb_ne0 {P : Prop} [Decidable P] (h : ¬ wb P = 0) : P := Classical.byContradiction fun q => h (wb_f q)
theorem wb_andt {P R : Prop} [Decidable P] [Decidable R] (h : R) : wb P &&& 1 = wb (P ∧ R) := by
  rw [wb_and1]
  exact wb_iff ⟨fun q => ⟨q, h⟩, fun q => q.1⟩
theorem wb_andf {P R : Prop} [Decidable P] [Decidable R] (h : ¬ R) : wb P &&& 0 = wb (P ∧ R) := by
  rw [wb_and0]
  exact (wb_f (fun q => h q.2)).symm
