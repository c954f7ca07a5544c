/-! PART 02.f: numbers -/
/-- a truth as Java tells it -/
def wb (P : Prop) [Decidable P] : Int32 := if P then 1 else 0
theorem wb_t {P : Prop} [Decidable P] (h : P) : wb P = 1 := if_pos h
theorem wb_f {P : Prop} [Decidable P] (h : ¬ P) : wb P = 0 := if_neg h
theorem wb_0 {P : Prop} [Decidable P] {r : Int32} (h : r = wb P) (c : r = 0) : ¬ P := fun q => by rw [h, wb_t q] at c; exact absurd c (by decide)
theorem wb_1 {P : Prop} [Decidable P] {r : Int32} (h : r = wb P) (c : ¬ r = 0) : P := Classical.byContradiction fun q => c (by rw [h, wb_f q])
theorem wb_nar {P : Prop} [Decidable P] {r : Int32} (h : r = wb P) : narrow .boolean (.int r) = .int r := by
  rw [h]
  by_cases q : P
  · rw [wb_t q]; rfl
  · rw [wb_f q]; rfl
theorem wI_lt {a b : Int32} : a < b ↔ a.toInt < b.toInt := Int32.lt_iff_toInt_lt
theorem wI_le {a b : Int32} : a ≤ b ↔ a.toInt ≤ b.toInt := Int32.le_iff_toInt_le
theorem wI_eq {a b : Int32} : a = b ↔ a.toInt = b.toInt := Int32.toInt_inj.symm
theorem wI_cl {a : Int32} : a.toNatClampNeg = a.toInt.toNat := rfl
theorem wUp_ng {s : wSt} {g i k g1 i1 k1 : Nat} {v : Int32} (h : g1 ≠ g) : (wUp s g i k v).1 g1 i1 k1 = s.1 g1 i1 k1 := wUp_ne fun q => h q.1
theorem wUp_ni {s : wSt} {g i k g1 i1 k1 : Nat} {v : Int32} (h : i1 ≠ i) : (wUp s g i k v).1 g1 i1 k1 = s.1 g1 i1 k1 := wUp_ne fun q => h q.2.1
theorem wUp_nk {s : wSt} {g i k g1 i1 k1 : Nat} {v : Int32} (h : k1 ≠ k) : (wUp s g i k v).1 g1 i1 k1 = s.1 g1 i1 k1 := wUp_ne fun q => h q.2.2
theorem wUp_ngf {s : wSt} {g i k g1 : Nat} {v : Int32} (h : g1 ≠ g) : (wUp s g i k v).1 g1 = s.1 g1 := by funext i1 k1; exact wUp_ng h
theorem wUp_id {s : wSt} {g i k : Nat} {v : Int32} (h : s.1 g i k = v) : wUp s g i k v = s := by
  refine Prod.ext ?_ rfl
  funext g1 i1 k1
  by_cases e : g1 = g ∧ i1 = i ∧ k1 = k
  · obtain ⟨rfl, rfl, rfl⟩ := e
    rw [wUp_eq, h]
  · exact wUp_ne e
