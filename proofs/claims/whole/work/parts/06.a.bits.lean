/-! PART 06.a: class and model alike: bits, rivals -/
theorem sh_and (t g s : Int32) : (t >>> s) &&& (g >>> s) = (t &&& g) >>> s := Int32.toBitVec_inj.mp (BitVec.sshiftRight_and_distrib t.toBitVec g.toBitVec _).symm
theorem see_no {t g s : Int32} (h : t &&& g = 0) (h1 : (t >>> s) &&& 1 = 1) (h2 : (g >>> s) &&& 1 = 1) : False := by
  have e : ((t >>> s) &&& (g >>> s)) &&& 1 = 0 := by
    rw [sh_and, h]
    apply Int32.toBitVec_inj.mp
    apply BitVec.eq_of_getLsbD_eq
    intro i hi
    show (((0 : BitVec 32).sshiftRight _) &&& (1 : BitVec 32)).getLsbD i = (0 : BitVec 32).getLsbD i
    rw [BitVec.getLsbD_and, BitVec.getLsbD_sshiftRight]
    simp
  rw [Int32.and_assoc, h2, h1] at e
  exact absurd e (by decide)
theorem see_F {t g b : Int32} (h : t &&& g = 0) : seeF t g b = lookF t g b := by
  unfold seeF lookF
  rcases w_bit (t >>> (b &&& 31)) with q | q <;> rcases w_bit (g >>> (b &&& 31)) with r | r
  · rw [q, r]; decide
  · rw [q, r]; decide
  · rw [q, r]; decide
  · exact (see_no h q r).elim
theorem bv_m1 (i : Nat) (hi : i < 32) : (-1 : Int32).toBitVec.getLsbD i = true := by
  have e0 : (-1 : Int32).toBitVec = BitVec.allOnes 32 := by decide
  rw [e0, BitVec.getLsbD_allOnes]
  exact decide_eq_true hi
theorem bv_or1 (t x : Int32) : (t &&& (x ^^^ -1)) ||| x = t ||| x := by
  apply Int32.toBitVec_inj.mp
  apply BitVec.eq_of_getLsbD_eq
  intro i hi
  simp only [Int32.toBitVec_or, Int32.toBitVec_and, Int32.toBitVec_xor, BitVec.getLsbD_or, BitVec.getLsbD_and, BitVec.getLsbD_xor, bv_m1 i hi]
  cases t.toBitVec.getLsbD i <;> cases x.toBitVec.getLsbD i <;> rfl
theorem bv_bit {t g : Int32} (h : t &&& g = 0) (i : Nat) : (t.toBitVec.getLsbD i && g.toBitVec.getLsbD i) = false := by
  have e : (t &&& g).toBitVec.getLsbD i = (0 : Int32).toBitVec.getLsbD i := by rw [h]
  simp only [Int32.toBitVec_and, BitVec.getLsbD_and] at e
  rw [e]
  show (0#32).getLsbD i = false
  simp
theorem bv_0 {a : Int32} (h : ∀ i, i < 32 → a.toBitVec.getLsbD i = false) : a = 0 := by
  apply Int32.toBitVec_inj.mp
  apply BitVec.eq_of_getLsbD_eq
  intro i hi
  rw [h i hi]
  show false = (0#32).getLsbD i
  simp
theorem bv_d1 {t g : Int32} (x : Int32) (h : t &&& g = 0) : (t ||| x) &&& (g &&& (x ^^^ -1)) = 0 := by
  apply bv_0
  intro i hi
  have hb := bv_bit h i
  simp only [Int32.toBitVec_or, Int32.toBitVec_and, Int32.toBitVec_xor, BitVec.getLsbD_or, BitVec.getLsbD_and, BitVec.getLsbD_xor, bv_m1 i hi]
  cases ht : t.toBitVec.getLsbD i <;> cases hg : g.toBitVec.getLsbD i <;> cases x.toBitVec.getLsbD i <;> first | rfl | (rw [ht, hg] at hb; exact absurd hb (by decide))
theorem bv_d2 {t g : Int32} (x : Int32) (h : t &&& g = 0) : (t &&& (x ^^^ -1)) &&& (g ||| x) = 0 := by
  apply bv_0
  intro i hi
  have hb := bv_bit h i
  simp only [Int32.toBitVec_or, Int32.toBitVec_and, Int32.toBitVec_xor, BitVec.getLsbD_or, BitVec.getLsbD_and, BitVec.getLsbD_xor, bv_m1 i hi]
  cases ht : t.toBitVec.getLsbD i <;> cases hg : g.toBitVec.getLsbD i <;> cases x.toBitVec.getLsbD i <;> first | rfl | (rw [ht, hg] at hb; exact absurd hb (by decide))
theorem bv_d3 {t g : Int32} (x y : Int32) (h : t &&& g = 0) : (t &&& x) &&& (g &&& y) = 0 := by
  apply bv_0
  intro i hi
  have hb := bv_bit h i
  simp only [Int32.toBitVec_and, BitVec.getLsbD_and]
  cases ht : t.toBitVec.getLsbD i <;> cases hg : g.toBitVec.getLsbD i <;> cases x.toBitVec.getLsbD i <;> cases y.toBitVec.getLsbD i <;> first | rfl | (rw [ht, hg] at hb; exact absurd hb (by decide))
theorem see_T (t b h : Int32) : seeT t b h 1 = lookT t b h := by
  unfold seeT lookT
  by_cases q : h = 1
  · rw [if_pos q, if_pos q, bv_or1]
  · rw [if_neg q, if_neg q, i_or0]
theorem see_G (t b h : Int32) : seeT t b h 2 = lookG t b h := by
  unfold seeT lookG
  by_cases q : h = 2
  · rw [if_pos q, if_pos q, bv_or1]
  · rw [if_neg q, if_neg q, i_or0]
theorem look_dis {t g : Int32} (b h : Int32) (q : t &&& g = 0) : lookT t b h &&& lookG g b h = 0 := by
  unfold lookT lookG
  by_cases q1 : h = 1
  · rw [if_pos q1, if_neg (by rw [q1]; decide)]
    exact bv_d1 _ q
  · rw [if_neg q1]
    by_cases q2 : h = 2
    · rw [if_pos q2]
      exact bv_d2 _ q
    · rw [if_neg q2]
      exact bv_d3 _ _ q
theorem bit_rng : ∀ j : Nat, j < 12 → rng12 ((1 : Int32) <<< (nI j &&& 31)) := by decide +kernel
theorem bit_rng2 {b : Int32} (h : 0 ≤ b ∧ b < 12) : rng12 ((1 : Int32) <<< (b &&& 31)) := by
  obtain ⟨j, h1, h2⟩ := vp_ofI (l := 12) (v := b) h (by decide)
  rw [h2]
  exact bit_rng j h1
theorem look_rngT {t b : Int32} (h : Int32) (q : rng12 t) (hb : 0 ≤ b ∧ b < 12) : rng12 (lookT t b h) := by
  unfold lookT
  split
  · exact rng_or q (bit_rng2 hb)
  · exact rng_and _ q
theorem look_rngG {t b : Int32} (h : Int32) (q : rng12 t) (hb : 0 ≤ b ∧ b < 12) : rng12 (lookG t b h) := by
  unfold lookG
  split
  · exact rng_or q (bit_rng2 hb)
  · exact rng_and _ q
/-! rivals -/
theorem from_src {y : Nat → Int32} {f : Int32 → Int32} {m : Nat} : ∀ k : Nat, fromU y f m k = -9 ∨ ∃ j : Nat, j < k ∧ fromU y f m k = nI j ∧ y j < y m ∧ f (nI j) < f (-9)
  | 0 => Or.inl rfl
  | k + 1 => by
    by_cases c : y k < y m ∧ f (nI k) < f (fromU y f m k)
    · right
      refine ⟨k, Nat.lt_succ_self k, fromU_t c, c.1, ?_⟩
      rcases from_src (y := y) (f := f) (m := m) k with h | ⟨j, -, h1, -, h2⟩
      · rw [h] at c
        exact c.2
      · rw [h1] at c
        exact Int32.lt_trans c.2 h2
    · rw [fromU_f c]
      rcases from_src (y := y) (f := f) (m := m) k with h | ⟨j, h0, h1⟩
      · exact Or.inl h
      · exact Or.inr ⟨j, by omega, h1⟩
theorem riv_st {y : Nat → Int32} {f : Int32 → Int32} {m : Nat} {src least : Int32} {k : Nat} (h : ¬ nI k = src) {d : Int32} (e : rivM y f m least k = rivU y f m src least k + d) : rivM y f m least (k + 1) = rivU y f m src least (k + 1) + d := by
  by_cases c : y k < y m ∧ f (nI k) = least
  · rw [rivM_t c, rivU_t ⟨h, c⟩, e, Int32.add_assoc, Int32.add_comm d 1, ← Int32.add_assoc]
  · rw [rivM_f c, rivU_f (fun q => c q.2), e]
theorem riv_n {y : Nat → Int32} {f : Int32 → Int32} {m : Nat} {least : Int32} : ∀ k : Nat, k < 2 ^ 31 → least = f (-9) → rivM y f m least k = rivU y f m (-9) least k + 1
  | 0, _, h => by
    show (if f (-9) = least then (1 : Int32) else 0) = 0 + 1
    rw [if_pos h.symm]
    decide
  | k + 1, hk, h => riv_st (nI_ne9 (by omega)) (riv_n k (by omega) h)
theorem riv_j {y : Nat → Int32} {f : Int32 → Int32} {m j : Nat} {least : Int32} (hj : j < 2 ^ 31) (h : ¬ f (-9) = least) : ∀ k : Nat, k ≤ j → rivM y f m least k = rivU y f m (nI j) least k + 0
  | 0, _ => by
    show (if f (-9) = least then (1 : Int32) else 0) = 0 + 0
    rw [if_neg h]
    decide
  | k + 1, hk => riv_st (fun e => by have := (nI_eq (by omega) hj).mp e; omega) (riv_j hj h k (by omega))
theorem riv_k {y : Nat → Int32} {f : Int32 → Int32} {m j : Nat} {least : Int32} (hj : j < 2 ^ 31) (h : ¬ f (-9) = least) (h2 : y j < y m ∧ f (nI j) = least) : ∀ k : Nat, k < 2 ^ 31 → j < k → rivM y f m least k = rivU y f m (nI j) least k + 1
  | 0, _, hk => absurd hk (Nat.not_lt_zero j)
  | k + 1, hk1, hk => by
    rcases Nat.lt_or_ge j k with q | q
    · exact riv_st (fun e => by have := (nI_eq (by omega) hj).mp e; omega) (riv_k hj h h2 k (by omega) q)
    · have e : k = j := by omega
      subst e
      rw [rivM_t h2, rivU_f (fun c => c.1 rfl), riv_j hj h k (Nat.le_refl k), i_add0]
theorem riv_eq {y : Nat → Int32} {f : Int32 → Int32} {m n : Nat} (hn : n < 2 ^ 31) : rivM y f m (f (fromU y f m n)) n - 1 = rivU y f m (fromU y f m n) (f (fromU y f m n)) n := by
  rcases from_src (y := y) (f := f) (m := m) n with h | ⟨j, h0, h1, h2, h3⟩
  · rw [h, riv_n n hn rfl, Int32.add_sub_cancel]
  · rw [h1, riv_k (by omega) (fun e => by rw [e] at h3; exact Int32.lt_irrefl h3) ⟨h2, rfl⟩ n hn h0, Int32.add_sub_cancel]
