/-! PART 04.a: the model's words -/
theorem wb_iff {P Q : Prop} [Decidable P] [Decidable Q] (h : P ↔ Q) : wb P = wb Q := by
  by_cases q : P
  · rw [wb_t q, wb_t (h.mp q)]
  · rw [wb_f q, wb_f (fun z => q (h.mpr z))]
theorem nI_predI {l : Nat} (h : l ≤ 1000) : (nI l - 1).toInt = (l : Int) - 1 := by
  have := pk_sub_toInt (a := l) (b := 1) (by omega) (by omega)
  exact this
theorem in_pred {a : Int32} {l : Nat} (h : l ≤ 1000) : (0 ≤ a ∧ a ≤ nI l - 1) ↔ (0 ≤ a ∧ a < nI l) := by
  rw [Int32.le_iff_toInt_le, Int32.le_iff_toInt_le, Int32.lt_iff_toInt_lt, nI_predI h, nI_toInt (by omega)]
  omega
theorem yy_of {a b : Int32} (h : okY a) (h2 : a ≤ b ∧ b ≤ 1900) : okYY a b := ⟨h, ⟨Int32.le_trans h.1 h2.1, h2.2⟩, h2.1⟩
theorem w_le1 {b : Int32} : (0 ≤ b ∧ b ≤ 1) ↔ (b = 0 ∨ b = 1) := by
  rw [Int32.le_iff_toInt_le, Int32.le_iff_toInt_le, ← Int32.toInt_inj, ← Int32.toInt_inj]
  have e0 : (0 : Int32).toInt = 0 := rfl
  have e1 : (1 : Int32).toInt = 1 := rfl
  omega
theorem w_le11 {b : Int32} : (0 ≤ b ∧ b ≤ 11) ↔ (0 ≤ b ∧ b < 12) := by
  rw [Int32.le_iff_toInt_le, Int32.le_iff_toInt_le, Int32.lt_iff_toInt_lt]
  have e0 : (0 : Int32).toInt = 0 := rfl
  have e1 : (11 : Int32).toInt = 11 := rfl
  have e2 : (12 : Int32).toInt = 12 := rfl
  omega
theorem w_le3 {b : Int32} : (0 ≤ b ∧ b ≤ 3) ↔ (0 ≤ b ∧ b < 4) := by
  rw [Int32.le_iff_toInt_le, Int32.le_iff_toInt_le, Int32.lt_iff_toInt_lt]
  have e0 : (0 : Int32).toInt = 0 := rfl
  have e1 : (3 : Int32).toInt = 3 := rfl
  have e2 : (4 : Int32).toInt = 4 := rfl
  omega
theorem w_le99 {b : Int32} : (0 ≤ b ∧ b ≤ 99) ↔ (0 ≤ b ∧ b < 100) := by
  rw [Int32.le_iff_toInt_le, Int32.le_iff_toInt_le, Int32.lt_iff_toInt_lt]
  have e0 : (0 : Int32).toInt = 0 := rfl
  have e1 : (99 : Int32).toInt = 99 := rfl
  have e2 : (100 : Int32).toInt = 100 := rfl
  omega
theorem w_012 {b : Int32} (h : 0 ≤ b ∧ b ≤ 2) : b = 0 ∨ b = 1 ∨ b = 2 := by
  rw [Int32.le_iff_toInt_le, Int32.le_iff_toInt_le] at h
  rw [← Int32.toInt_inj, ← Int32.toInt_inj, ← Int32.toInt_inj]
  have e0 : (0 : Int32).toInt = 0 := rfl
  have e1 : (1 : Int32).toInt = 1 := rfl
  have e2 : (2 : Int32).toInt = 2 := rfl
  omega
theorem nI_ceq {a b : Nat} (ha : a ≤ 1000) (hb : b ≤ 1000) : ¬ nI a = nI b → ¬ a = b := fun h e => h (by rw [e])
theorem seven {n k : Nat} (h : n ≤ k) (q : ¬ n = k) : n < k := by omega
/-- the charge's bound, as the model asks for it -/
theorem mostM {a : Int32} (h : 0 ≤ a ∧ a ≤ 4) : mostC a = if a = 2 then 50 else if a = 4 then 20 else 9 := by
  have : a = 0 ∨ a = 1 ∨ a = 2 ∨ a = 3 ∨ a = 4 := by
    rw [Int32.le_iff_toInt_le, Int32.le_iff_toInt_le] at h
    rw [← Int32.toInt_inj, ← Int32.toInt_inj, ← Int32.toInt_inj, ← Int32.toInt_inj, ← Int32.toInt_inj]
    have e0 : (0 : Int32).toInt = 0 := rfl
    have e1 : (1 : Int32).toInt = 1 := rfl
    have e2 : (2 : Int32).toInt = 2 := rfl
    have e3 : (3 : Int32).toInt = 3 := rfl
    have e4 : (4 : Int32).toInt = 4 := rfl
    omega
  rcases this with rfl | rfl | rfl | rfl | rfl <;> decide
def seeF (t g b : Int32) : Int32 := ((t >>> (b &&& 31)) &&& 1) + 2 * ((g >>> (b &&& 31)) &&& 1)
def seeT (t b h k : Int32) : Int32 := (t &&& (((1 : Int32) <<< (b &&& 31)) ^^^ -1)) ||| (if h = k then (1 : Int32) <<< (b &&& 31) else 0)
theorem i_or0 (x : Int32) : x ||| 0 = x := by apply Int32.toBitVec_inj.mp; simp
theorem i_and_comm (x y : Int32) : x &&& y = y &&& x := by apply Int32.toBitVec_inj.mp; simp [BitVec.and_comm]
theorem i_andnot {t f : Int32} : (t &&& (f ^^^ -1) = 0) ↔ (f &&& t = t) := by
  rw [← Int32.toBitVec_inj, ← Int32.toBitVec_inj]
  simp only [Int32.toBitVec_and, Int32.toBitVec_xor]
  rw [show (-1 : Int32).toBitVec = BitVec.allOnes 32 from rfl, BitVec.xor_allOnes]
  constructor
  · intro h
    apply BitVec.eq_of_getLsbD_eq
    intro i hi
    have := congrArg (fun q : BitVec 32 => q.getLsbD i) h
    simp at this
    simp
    revert this
    cases t.toBitVec.getLsbD i <;> cases f.toBitVec.getLsbD i <;> simp [hi]
  · intro h
    apply BitVec.eq_of_getLsbD_eq
    intro i hi
    have := congrArg (fun q : BitVec 32 => q.getLsbD i) h
    simp at this
    simp
    revert this
    cases t.toBitVec.getLsbD i <;> cases f.toBitVec.getLsbD i <;> simp [hi]
theorem candM {f t g : Int32} : (t &&& (f ^^^ -1) = 0 ∧ g &&& f = 0) ↔ (f &&& t = t ∧ f &&& g = 0) := by
  rw [i_andnot, i_and_comm g f]
theorem vp_04 {a : Int32} (h : 0 ≤ a ∧ a ≤ 4) : vp_in a 5 := by
  rw [vp_in_iff]
  rw [Int32.le_iff_toInt_le, Int32.le_iff_toInt_le] at h
  have e0 : (0 : Int32).toInt = 0 := rfl
  have e4 : (4 : Int32).toInt = 4 := rfl
  omega
