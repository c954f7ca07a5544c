/-! PART 02.h: the best shift looked at upwards is the one looked at outwards -/
def upS (F : Int32 → Int32) (k b : Int32) : Int32 := if F b < F k ∨ (F k = F b ∧ absI k < absI b) then k else b
def upU (F : Int32 → Int32) : Nat → Int32
  | 0 => -20
  | j + 1 => upS F (nI (j + 1) - 20) (upU F j)
theorem upU_t {F : Int32 → Int32} {j : Nat} (h : F (upU F j) < F (nI (j + 1) - 20) ∨ (F (nI (j + 1) - 20) = F (upU F j) ∧ absI (nI (j + 1) - 20) < absI (upU F j))) : upU F (j + 1) = nI (j + 1) - 20 := if_pos h
theorem upU_f {F : Int32 → Int32} {j : Nat} (h : ¬ (F (upU F j) < F (nI (j + 1) - 20) ∨ (F (nI (j + 1) - 20) = F (upU F j) ∧ absI (nI (j + 1) - 20) < absI (upU F j)))) : upU F (j + 1) = upU F j := if_neg h
theorem w_up0 : (-19 : Int32) = nI (0 + 1) - 20 := by decide +kernel
theorem w_up1 : ∀ far : Nat, far < 41 → nI (far + 1) - 20 + 1 = nI (far + 1 + 1) - 20 := by decide +kernel
theorem w_up2 : ∀ far : Nat, far < 41 → ((20 : Int32) < nI (far + 1) - 20 ↔ 40 ≤ far) := by decide +kernel
theorem w_up3 : ∀ m : Nat, m < 41 → nI m - 20 = Int32.ofInt ((m : Int) - 20) := by decide +kernel
theorem w_up4 : ∀ m : Nat, m < 41 → (absI (Int32.ofInt ((m : Int) - 20))).toInt = (((m : Int) - 20).natAbs : Int) := by decide +kernel
theorem w_up5 : ∀ m : Nat, m < 21 → nI m = Int32.ofInt (m : Int) ∧ -nI m = Int32.ofInt (-(m : Int)) := by decide +kernel
theorem w_up6 (z : Int) (h1 : -20 ≤ z) (h2 : z ≤ 20) : (absI (Int32.ofInt z)).toInt = (z.natAbs : Int) := by
  have h := w_up4 (z + 20).toNat (by omega)
  have e : (((z + 20).toNat : Nat) : Int) - 20 = z := by omega
  rw [e] at h
  exact h
/-- z is the best of lo .. hi: the most, then the nearest to 0, then the least -/
def bestZ (f : Int → Int) (lo hi z : Int) : Prop := lo ≤ z ∧ z ≤ hi ∧ ∀ k : Int, lo ≤ k → k ≤ hi → f k < f z ∨ (f k = f z ∧ (z.natAbs < k.natAbs ∨ (z.natAbs = k.natAbs ∧ z ≤ k)))
theorem bestZ_one {f : Int → Int} {lo hi y z : Int} (h1 : bestZ f lo hi y) (h2 : bestZ f lo hi z) : y = z := by
  have a := h1.2.2 z h2.1 h2.2.1
  have b := h2.2.2 y h1.1 h1.2.1
  omega
theorem sh_best (F : Int32 → Int32) : ∀ j : Nat, j ≤ 20 → ∃ z : Int, shU F j = Int32.ofInt z ∧ bestZ (fun k => (F (Int32.ofInt k)).toInt) (-(j : Int)) j z := by
  intro j
  induction j with
  | zero =>
    intro _
    refine ⟨0, rfl, by omega, by omega, fun k h1 h2 => ?_⟩
    have e : k = 0 := by omega
    subst e
    exact Or.inr ⟨rfl, Or.inr ⟨rfl, Int.le_refl _⟩⟩
  | succ j ih =>
    intro hj
    obtain ⟨z, hz, hz2⟩ := ih (by omega)
    obtain ⟨e1, e2⟩ := w_up5 (j + 1) (by omega)
    generalize hf : (fun k : Int => (F (Int32.ofInt k)).toInt) = f at hz2 ⊢
    obtain ⟨l1, l2, hb⟩ := hz2
    have hfk : ∀ k : Int, (F (Int32.ofInt k)).toInt = f k := fun k => by rw [← hf]
    have hlt : ∀ a b : Int, F (Int32.ofInt a) < F (Int32.ofInt b) ↔ f a < f b := fun a b => by rw [Int32.lt_iff_toInt_lt, hfk, hfk]
    have hst : ∀ a b : Int, shS F (Int32.ofInt b) (Int32.ofInt a) = Int32.ofInt (if f a < f b then b else a) := fun a b => by
      by_cases c : f a < f b
      · rw [if_pos c]; exact if_pos ((hlt a b).mpr c)
      · rw [if_neg c]; exact if_neg (fun q => c ((hlt a b).mp q))
    have hs : shU F (j + 1) = shS F (nI (j + 1)) (shS F (-nI (j + 1)) (shU F j)) := rfl
    rw [hs, hz, e2, e1, hst, hst]
    refine ⟨_, rfl, ?_⟩
    generalize hm : (((j + 1 : Nat) : Nat) : Int) = m
    have hjm : (j : Int) = m - 1 := by omega
    rw [hjm] at l1 l2 hb
    have hk9 : ∀ k : Int, -m ≤ k → k ≤ m → k = -m ∨ k = m ∨ (-(m - 1) ≤ k ∧ k ≤ m - 1) := fun k _ _ => by omega
    by_cases c1 : f z < f (-m)
    · rw [if_pos c1]
      by_cases c2 : f (-m) < f m
      · rw [if_pos c2]
        refine ⟨by omega, by omega, fun k h1 h2 => ?_⟩
        rcases hk9 k h1 h2 with rfl | rfl | ⟨h3, h4⟩
        · omega
        · omega
        · have := hb k h3 h4; omega
      · rw [if_neg c2]
        refine ⟨by omega, by omega, fun k h1 h2 => ?_⟩
        rcases hk9 k h1 h2 with rfl | rfl | ⟨h3, h4⟩
        · omega
        · omega
        · have := hb k h3 h4; omega
    · rw [if_neg c1]
      by_cases c2 : f z < f m
      · rw [if_pos c2]
        refine ⟨by omega, by omega, fun k h1 h2 => ?_⟩
        rcases hk9 k h1 h2 with rfl | rfl | ⟨h3, h4⟩
        · omega
        · omega
        · have := hb k h3 h4; omega
      · rw [if_neg c2]
        refine ⟨by omega, by omega, fun k h1 h2 => ?_⟩
        rcases hk9 k h1 h2 with rfl | rfl | ⟨h3, h4⟩
        · omega
        · omega
        · have := hb k h3 h4; omega
theorem up_best (F : Int32 → Int32) : ∀ j : Nat, j ≤ 40 → ∃ z : Int, upU F j = Int32.ofInt z ∧ bestZ (fun k => (F (Int32.ofInt k)).toInt) (-20) ((j : Int) - 20) z := by
  intro j
  induction j with
  | zero =>
    intro _
    refine ⟨-20, rfl, by omega, by omega, fun k h1 h2 => ?_⟩
    have e : k = -20 := by omega
    subst e
    exact Or.inr ⟨rfl, Or.inr ⟨rfl, Int.le_refl _⟩⟩
  | succ j ih =>
    intro hj
    obtain ⟨z, hz, hz2⟩ := ih (by omega)
    have e1 := w_up3 (j + 1) (by omega)
    generalize hf : (fun k : Int => (F (Int32.ofInt k)).toInt) = f at hz2 ⊢
    obtain ⟨l1, l2, hb⟩ := hz2
    have hfk : ∀ k : Int, (F (Int32.ofInt k)).toInt = f k := fun k => by rw [← hf]
    have hs : upU F (j + 1) = upS F (nI (j + 1) - 20) (upU F j) := rfl
    rw [hs, hz, e1]
    generalize hm : (((j + 1 : Nat) : Nat) : Int) - 20 = m
    have hjm : (j : Int) - 20 = m - 1 := by omega
    rw [hjm] at l2 hb
    have hc : (F (Int32.ofInt z) < F (Int32.ofInt m) ∨ (F (Int32.ofInt m) = F (Int32.ofInt z) ∧ absI (Int32.ofInt m) < absI (Int32.ofInt z))) ↔ (f z < f m ∨ (f m = f z ∧ m.natAbs < z.natAbs)) := by
      rw [Int32.lt_iff_toInt_lt, Int32.lt_iff_toInt_lt, ← Int32.toInt_inj, hfk, hfk, w_up6 m (by omega) (by omega), w_up6 z (by omega) (by omega)]
      omega
    by_cases c : f z < f m ∨ (f m = f z ∧ m.natAbs < z.natAbs)
    · refine ⟨m, if_pos (hc.mpr c), by omega, by omega, fun k h1 h2 => ?_⟩
      rcases (show k = m ∨ k ≤ m - 1 by omega) with rfl | h3
      · omega
      · have := hb k h1 h3; omega
    · refine ⟨z, if_neg (fun q => c (hc.mp q)), by omega, by omega, fun k h1 h2 => ?_⟩
      rcases (show k = m ∨ k ≤ m - 1 by omega) with rfl | h3
      · omega
      · have := hb k h1 h3; omega
theorem up_sh (F : Int32 → Int32) : upU F 40 = shU F 20 := by
  obtain ⟨y, e1, h1⟩ := up_best F 40 (by omega)
  obtain ⟨z, e2, h2⟩ := sh_best F 20 (by omega)
  rw [e1, e2, bestZ_one h1 h2]
