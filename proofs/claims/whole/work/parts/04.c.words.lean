/-! PART 04.c: the model's words, on -/
theorem fromU_rng {y : Nat → Int32} {f : Int32 → Int32} {m n : Nat} (hn : n < 2 ^ 31) : ∀ k : Nat, k ≤ n → fromU y f m k = -9 ∨ inN (nI n) (fromU y f m k)
  | 0, _ => Or.inl rfl
  | k + 1, h => by
    by_cases q : y k < y m ∧ f (nI k) < f (fromU y f m k)
    · rw [fromU_t q]
      exact Or.inr (inN_nI (by omega) hn)
    · rw [fromU_f q]
      exact fromU_rng hn k (by omega)
/-- the model's rivals: the one of no source, too -/
def rivM (y : Nat → Int32) (f : Int32 → Int32) (m : Nat) (least : Int32) : Nat → Int32
  | 0 => if f (-9) = least then 1 else 0
  | k + 1 => if y k < y m ∧ f (nI k) = least then rivM y f m least k + 1 else rivM y f m least k
theorem rivM_t {y : Nat → Int32} {f : Int32 → Int32} {m k : Nat} {least : Int32} (h : y k < y m ∧ f (nI k) = least) : rivM y f m least (k + 1) = rivM y f m least k + 1 := if_pos h
theorem rivM_f {y : Nat → Int32} {f : Int32 → Int32} {m k : Nat} {least : Int32} (h : ¬ (y k < y m ∧ f (nI k) = least)) : rivM y f m least (k + 1) = rivM y f m least k := if_neg h
theorem i_add0 (x : Int32) : x + 0 = x := Int32.add_zero x
/-- how many of the first k have a lesser year than v -/
def rankU (y : Nat → Int32) (v : Int32) : Nat → Nat
  | 0 => 0
  | k + 1 => if y k < v then rankU y v k + 1 else rankU y v k
theorem rank_le {y : Nat → Int32} {v : Int32} : ∀ k : Nat, rankU y v k ≤ k
  | 0 => Nat.le_refl 0
  | k + 1 => by
    have := rank_le (y := y) (v := v) k
    unfold rankU
    split <;> omega
theorem rank_lt {y : Nat → Int32} {a : Nat} : ∀ k : Nat, a < k → rankU y (y a) k < k
  | 0, h => absurd h (Nat.not_lt_zero a)
  | k + 1, h => by
    unfold rankU
    split
    · rename_i q
      have : a < k := by
        rcases Nat.lt_or_ge a k with z | z
        · exact z
        · exfalso
          rw [show a = k by omega] at q
          exact Int32.lt_irrefl q
      have := rank_lt (y := y) k this
      omega
    · have := rank_le (y := y) (v := y a) k
      omega
theorem rank_mono {y : Nat → Int32} {u v : Int32} (h : u ≤ v) : ∀ k : Nat, rankU y u k ≤ rankU y v k
  | 0 => Nat.le_refl 0
  | k + 1 => by
    have ih := rank_mono (y := y) h k
    unfold rankU
    by_cases q : y k < u
    · rw [if_pos q, if_pos (Int32.lt_of_lt_of_le q h)]
      omega
    · rw [if_neg q]
      split <;> omega
theorem rank_step {y : Nat → Int32} {b : Nat} {v : Int32} (h : y b < v) : ∀ k : Nat, b < k → rankU y (y b) k < rankU y v k
  | 0, h2 => absurd h2 (Nat.not_lt_zero b)
  | k + 1, h2 => by
    have hm := rank_mono (y := y) (Int32.le_of_lt h) k
    unfold rankU
    rcases Nat.lt_or_ge b k with z | z
    · have ih := rank_step h k z
      by_cases q : y k < y b
      · rw [if_pos q, if_pos (Int32.lt_trans q h)]
        omega
      · rw [if_neg q]
        split <;> omega
    · have hb : b = k := by omega
      subst hb
      rw [if_neg Int32.lt_irrefl, if_pos h]
      omega
theorem fromU_yr {y : Nat → Int32} {f : Int32 → Int32} {m : Nat} : ∀ k : Nat, k < 2 ^ 31 → ¬ fromU y f m k = -9 → y (fromU y f m k).toNatClampNeg < y m
  | 0, _, h => absurd rfl h
  | k + 1, hk, h => by
    by_cases q : y k < y m ∧ f (nI k) < f (fromU y f m k)
    · rw [fromU_t q, nI_clamp (by omega)]
      exact q.1
    · rw [fromU_f q] at h ⊢
      exact fromU_yr k (by omega) h
theorem i_zo : ∀ x : Nat, x < 2 → ∀ y : Nat, y < 2 → (nI x ||| nI y = if x = 1 ∨ y = 1 then 1 else 0) ∧ (nI x &&& nI y = if x = 1 ∧ y = 1 then 1 else 0) := by decide +kernel
theorem wb_or1 {P : Prop} [Decidable P] : wb P ||| 1 = 1 := by
  by_cases q : P
  · rw [wb_t q]; decide
  · rw [wb_f q]; decide
theorem wb_and1 {P : Prop} [Decidable P] : wb P &&& 1 = wb P := by
  by_cases q : P
  · rw [wb_t q]; decide
  · rw [wb_f q]; decide
theorem wb_and0 {P : Prop} [Decidable P] : wb P &&& 0 = 0 := by
  by_cases q : P
  · rw [wb_t q]; decide
  · rw [wb_f q]; decide
theorem wb_orw {P R : Prop} [Decidable P] [Decidable R] : wb P ||| wb R = wb (P ∨ R) := by
  by_cases q : P
  · by_cases z : R
    · rw [wb_t q, wb_t z, wb_t (Or.inl q)]; decide
    · rw [wb_t q, wb_f z, wb_t (Or.inl q)]; decide
  · by_cases z : R
    · rw [wb_f q, wb_t z, wb_t (Or.inr z)]; decide
    · rw [wb_f q, wb_f z, wb_f (fun h => h.elim q z)]; decide
/-- places with their distance as the model asks for it -/
abbrev rng99 (a : Int32) : Prop := 0 ≤ a ∧ a ≤ 99
theorem i_small {a b : Int32} (h : -1000 ≤ a.toInt ∧ a.toInt ≤ 1000) (h2 : -1000 ≤ b.toInt ∧ b.toInt ≤ 1000) : (a + b).toInt = a.toInt + b.toInt ∧ (a - b).toInt = a.toInt - b.toInt := by
  constructor
  · rw [Int32.toInt_add]
    exact Int.bmod_eq_of_le (by omega) (by omega)
  · rw [Int32.toInt_sub]
    exact Int.bmod_eq_of_le (by omega) (by omega)
theorem r99 {a : Int32} (h : rng99 a) : 0 ≤ a.toInt ∧ a.toInt ≤ 99 := ⟨Int32.le_iff_toInt_le.mp h.1, Int32.le_iff_toInt_le.mp h.2⟩
theorem r20 {s : Int32} (h : -20 ≤ s ∧ s ≤ 20) : -20 ≤ s.toInt ∧ s.toInt ≤ 20 := by
  rw [Int32.le_iff_toInt_le, Int32.le_iff_toInt_le] at h
  exact h
theorem abs_int {u : Int32} (h : -1000 ≤ u.toInt ∧ u.toInt ≤ 1000) (f : Int32) : absI u ≤ f ↔ ((0 ≤ u.toInt → u.toInt ≤ f.toInt) ∧ (u.toInt < 0 → - u.toInt ≤ f.toInt)) := by
  unfold absI
  have e0 : (0 : Int32).toInt = 0 := rfl
  split
  · rename_i q
    rw [Int32.le_iff_toInt_le, e0] at q
    rw [Int32.le_iff_toInt_le]
    omega
  · rename_i q
    rw [Int32.le_iff_toInt_le, e0] at q
    rw [Int32.le_iff_toInt_le, (i_small (a := 0) (b := u) (by rw [e0]; omega) h).2, e0]
    omega
theorem near_1 {p q s : Int32} (hp : rng99 p) (hq : rng99 q) (hs : -20 ≤ s ∧ s ≤ 20) : (-1 ≤ p + s - q ∧ p + s - q ≤ 1) ↔ absI (q - (p + s)) ≤ 1 := by
  have h1 := r99 hp
  have h2 := r99 hq
  have h3 := r20 hs
  have e1 := (i_small (a := p) (b := s) (by omega) (by omega)).1
  have e2 := (i_small (a := p + s) (b := q) (by omega) (by omega)).2
  have e3 := (i_small (a := q) (b := p + s) (by omega) (by omega)).2
  rw [abs_int (by omega), Int32.le_iff_toInt_le, Int32.le_iff_toInt_le, e2, e3, e1]
  have e4 : (-1 : Int32).toInt = -1 := rfl
  have e5 : (1 : Int32).toInt = 1 := rfl
  omega
theorem near_0 {p v : Int32} (hp : rng99 p) (hv : rng99 v) : p = v ↔ absI (p - v) ≤ 0 := by
  have h1 := r99 hp
  have h2 := r99 hv
  have e2 := (i_small (a := p) (b := v) (by omega) (by omega)).2
  rw [abs_int (by omega), e2, ← Int32.toInt_inj]
  have e5 : (0 : Int32).toInt = 0 := rfl
  omega
theorem sh_rng : ∀ far : Nat, far ≤ 20 → (-20 ≤ nI far ∧ nI far ≤ 20) ∧ (-20 ≤ -nI far ∧ -nI far ≤ 20) := by decide +kernel
theorem shS_rng {F : Int32 → Int32} {k b : Int32} (hk : -20 ≤ k ∧ k ≤ 20) (hb : -20 ≤ b ∧ b ≤ 20) : -20 ≤ shS F k b ∧ shS F k b ≤ 20 := by
  unfold shS
  split
  · exact hk
  · exact hb
theorem shU_rng {F : Int32 → Int32} : ∀ far : Nat, far ≤ 20 → -20 ≤ shU F far ∧ shU F far ≤ 20
  | 0, _ => by show (-20 : Int32) ≤ 0 ∧ (0 : Int32) ≤ 20; decide
  | j + 1, h => shS_rng (sh_rng (j + 1) h).1 (shS_rng (sh_rng (j + 1) h).2 (shU_rng j (by omega)))
theorem nI_pred2 : ∀ far : Nat, far < 20 → ¬ (20 : Int32) < nI (far + 1) := by decide +kernel
theorem jmax0 {v : Int32} : jmax 0 v = if v < 0 then 0 else v := by
  unfold jmax
  by_cases h : v < 0
  · rw [if_pos h, if_neg (Int32.not_lt.mpr (Int32.le_of_lt h))]
  · rw [if_neg h]
    by_cases q : (0 : Int32) < v
    · rw [if_pos q]
    · rw [if_neg q]
      exact Int32.le_antisymm (Int32.not_lt.mp h) (Int32.not_lt.mp q)
theorem w_bit (x : Int32) : x &&& 1 = 0 ∨ x &&& 1 = 1 := by
  obtain ⟨j, hj, e⟩ := pk_andE x (m := 1) 1 rfl
  rcases (show j = 0 ∨ j = 1 by omega) with rfl | rfl
  · exact Or.inl e
  · exact Or.inr e
theorem w_bit1 {x : Int32} (h : ¬ x &&& 1 = 0) : x &&& 1 = 1 := (w_bit x).elim (fun q => absurd q h) id
