/-! PART 06.b: class and model alike: spans -/
theorem jmax_I (u v : Int32) : (jmax u v).toInt = if u.toInt < v.toInt then v.toInt else u.toInt := by
  unfold jmax
  by_cases h : u < v
  · rw [if_pos h, if_pos (Int32.lt_iff_toInt_lt.mp h)]
  · rw [if_neg h, if_neg (fun q => h (Int32.lt_iff_toInt_lt.mpr q))]
theorem jmin_I (u v : Int32) : (jmin u v).toInt = if v.toInt < u.toInt then v.toInt else u.toInt := by
  unfold jmin
  by_cases h : v < u
  · rw [if_pos h, if_pos (Int32.lt_iff_toInt_lt.mp h)]
  · rw [if_neg h, if_neg (fun q => h (Int32.lt_iff_toInt_lt.mpr q))]
theorem m9_I : (-9 : Int32).toInt = -9 := by decide
theorem ne9_I {a : Int32} (h : 0 ≤ a.toInt) : ¬ a = -9 := fun e => by rw [e, m9_I] at h; omega
/-- a state's part of the span -/
def spP (fr to : Nat → Int32) (c e l : Int32) (s : Nat) : Prop := (c >>> (nI s &&& 31)) &&& 1 = 1 ∧ jmax e (fr s) ≤ jmin l (to s)
theorem sp_1 {fr to : Nat → Int32} {c e l : Int32} (he : 1500 ≤ e.toInt) {s : Nat} (h : spP fr to c e l s) : 1500 ≤ (jmax e (fr s)).toInt ∧ (jmax e (fr s)).toInt ≤ (jmin l (to s)).toInt := by
  have h2 := Int32.le_iff_toInt_le.mp h.2
  refine ⟨?_, h2⟩
  rw [jmax_I]
  split <;> omega
theorem sp_spec {fr to : Nat → Int32} {c e l : Int32} (he : 1500 ≤ e.toInt) : ∀ n : Nat, ((∀ s, s < n → ¬ spP fr to c e l s) ∧ spU fr to c e l n = (-9, -9)) ∨ ((∃ s, s < n ∧ spP fr to c e l s ∧ (spU fr to c e l n).1 = jmax e (fr s)) ∧ (∀ s, s < n → spP fr to c e l s → (spU fr to c e l n).1.toInt ≤ (jmax e (fr s)).toInt) ∧ (∃ s, s < n ∧ spP fr to c e l s ∧ (spU fr to c e l n).2 = jmin l (to s)) ∧ ∀ s, s < n → spP fr to c e l s → (jmin l (to s)).toInt ≤ (spU fr to c e l n).2.toInt)
  | 0 => Or.inl ⟨fun s h => absurd h (Nat.not_lt_zero s), rfl⟩
  | n + 1 => by
    by_cases q : spP fr to c e l n
    · right
      have hu : spU fr to c e l (n + 1) = (if (spU fr to c e l n).1 = -9 then jmax e (fr n) else jmin (spU fr to c e l n).1 (jmax e (fr n)), if (spU fr to c e l n).2 = -9 then jmin l (to n) else jmax (spU fr to c e l n).2 (jmin l (to n))) := spU_t q.1 q.2
      have hn := sp_1 he q
      rcases sp_spec (fr := fr) (to := to) (c := c) (l := l) he n with ⟨h1, h2⟩ | ⟨⟨s1, a1, a2, a3⟩, h2, ⟨s2, b1, b2, b3⟩, h4⟩
      · rw [h2] at hu
        have hu : spU fr to c e l (n + 1) = (jmax e (fr n), jmin l (to n)) := hu
        rw [hu]
        refine ⟨⟨n, Nat.lt_succ_self n, q, rfl⟩, fun s hs hp => ?_, ⟨n, Nat.lt_succ_self n, q, rfl⟩, fun s hs hp => ?_⟩
        · rcases Nat.lt_or_ge s n with z | z
          · exact absurd hp (h1 s z)
          · rw [show s = n by omega]
            exact Int.le_refl _
        · rcases Nat.lt_or_ge s n with z | z
          · exact absurd hp (h1 s z)
          · rw [show s = n by omega]
            exact Int.le_refl _
      · have g1 := sp_1 he a2
        have g2 := sp_1 he b2
        rw [if_neg (ne9_I (by rw [a3]; omega)), if_neg (ne9_I (by rw [b3]; omega))] at hu
        have e1 : (spU fr to c e l (n + 1)).1 = jmin (spU fr to c e l n).1 (jmax e (fr n)) := by rw [hu]
        have e2 : (spU fr to c e l (n + 1)).2 = jmax (spU fr to c e l n).2 (jmin l (to n)) := by rw [hu]
        refine ⟨?_, fun s hs hp => ?_, ?_, fun s hs hp => ?_⟩
        · rw [e1]
          unfold jmin
          by_cases z : jmax e (fr n) < (spU fr to c e l n).1
          · rw [if_pos z]
            exact ⟨n, Nat.lt_succ_self n, q, rfl⟩
          · rw [if_neg z]
            exact ⟨s1, by omega, a2, a3⟩
        · rw [e1, jmin_I]
          rcases Nat.lt_or_ge s n with z | z
          · have := h2 s z hp
            split <;> omega
          · rw [show s = n by omega]
            split <;> omega
        · rw [e2]
          unfold jmax
          by_cases z : (spU fr to c e l n).2 < jmin l (to n)
          · rw [if_pos z]
            exact ⟨n, Nat.lt_succ_self n, q, rfl⟩
          · rw [if_neg z]
            exact ⟨s2, by omega, b2, b3⟩
        · rw [e2, jmax_I]
          rcases Nat.lt_or_ge s n with z | z
          · have := h4 s z hp
            split <;> omega
          · rw [show s = n by omega]
            split <;> omega
    · rw [spU_f q]
      rcases sp_spec (fr := fr) (to := to) (c := c) (l := l) he n with ⟨h1, h2⟩ | ⟨⟨s1, a1, a2⟩, h2, ⟨s2, b1, b2⟩, h4⟩
      · left
        refine ⟨fun s hs hp => ?_, h2⟩
        rcases Nat.lt_or_ge s n with z | z
        · exact h1 s z hp
        · rw [show s = n by omega] at hp
          exact q hp
      · right
        refine ⟨⟨s1, by omega, a2⟩, fun s hs hp => ?_, ⟨s2, by omega, b2⟩, fun s hs hp => ?_⟩
        · rcases Nat.lt_or_ge s n with z | z
          · exact h2 s z hp
          · rw [show s = n by omega] at hp
            exact absurd hp q
        · rcases Nat.lt_or_ge s n with z | z
          · exact h4 s z hp
          · rw [show s = n by omega] at hp
            exact absurd hp q
theorem yr_I {k : Nat} (h : k ≤ 401) : (nI (1500 + k)).toInt = 1500 + (k : Int) := by
  rw [nI_toInt (by omega)]
  omega
theorem yr_spec {Q : Int32 → Bool} : ∀ n : Nat, n ≤ 401 → ((∀ k, k < n → ¬ Q (nI (1500 + k)) = true) ∧ yrU Q n = (-9, -9)) ∨ ((∃ k, k < n ∧ Q (nI (1500 + k)) = true ∧ (yrU Q n).1 = nI (1500 + k) ∧ ∀ j, j < n → Q (nI (1500 + j)) = true → k ≤ j) ∧ ∃ k, k < n ∧ Q (nI (1500 + k)) = true ∧ (yrU Q n).2 = nI (1500 + k) ∧ ∀ j, j < n → Q (nI (1500 + j)) = true → j ≤ k)
  | 0, _ => Or.inl ⟨fun s h => absurd h (Nat.not_lt_zero s), rfl⟩
  | n + 1, hn => by
    by_cases q : Q (nI (1500 + n)) = true
    · right
      have hu := yrU_t q
      rcases yr_spec (Q := Q) n (by omega) with ⟨h1, h2⟩ | ⟨⟨k1, a1, a2, a3, a4⟩, ⟨k2, b1, b2, b3, b4⟩⟩
      · rw [h2] at hu
        have hu : yrU Q (n + 1) = (nI (1500 + n), nI (1500 + n)) := hu
        rw [hu]
        have key : ∀ j, j < n + 1 → Q (nI (1500 + j)) = true → j = n := fun j hj hq => by
          rcases Nat.lt_or_ge j n with z | z
          · exact absurd hq (h1 j z)
          · omega
        exact ⟨⟨n, Nat.lt_succ_self n, q, rfl, fun j hj hq => by rw [key j hj hq]; exact Nat.le_refl _⟩, ⟨n, Nat.lt_succ_self n, q, rfl, fun j hj hq => by rw [key j hj hq]; exact Nat.le_refl _⟩⟩
      · have hne : ¬ (yrU Q n).1 = -9 := by
          rw [a3]
          exact ne9_I (by rw [yr_I (by omega)]; omega)
        rw [if_neg hne] at hu
        rw [hu]
        exact ⟨⟨k1, by omega, a2, a3, fun j hj hq => by
          rcases Nat.lt_or_ge j n with z | z
          · exact a4 j z hq
          · omega⟩, ⟨n, Nat.lt_succ_self n, q, rfl, fun j hj hq => by omega⟩⟩
    · rw [yrU_f q]
      have key : ∀ j, j < n + 1 → Q (nI (1500 + j)) = true → j < n := fun j hj hq => by
        rcases Nat.lt_or_ge j n with z | z
        · exact z
        · rw [show j = n by omega] at hq
          exact absurd hq q
      rcases yr_spec (Q := Q) n (by omega) with ⟨h1, h2⟩ | ⟨⟨k1, a1, a2, a3, a4⟩, ⟨k2, b1, b2, b3, b4⟩⟩
      · exact Or.inl ⟨fun k hk hq => h1 k (key k hk hq) hq, h2⟩
      · exact Or.inr ⟨⟨k1, by omega, a2, a3, fun j hj hq => a4 j (key j hj hq) hq⟩, ⟨k2, by omega, b2, b3, fun j hj hq => b4 j (key j hj hq) hq⟩⟩
theorem span_eq {fr to : Nat → Int32} {c e l : Int32} {n : Nat} {Q : Int32 → Bool} (he : 1500 ≤ e.toInt) (hl : l.toInt ≤ 1900) (hQ : ∀ k : Nat, k < 401 → (Q (nI (1500 + k)) = true ↔ ∃ s, s < n ∧ (c >>> (nI s &&& 31)) &&& 1 = 1 ∧ (jmax e (fr s)).toInt ≤ 1500 + (k : Int) ∧ 1500 + (k : Int) ≤ (jmin l (to s)).toInt)) : yrU Q 401 = spU fr to c e l n := by
  have hmin : ∀ s, (jmin l (to s)).toInt ≤ 1900 := fun s => by
    rw [jmin_I]
    split <;> omega
  rcases sp_spec (fr := fr) (to := to) (c := c) (l := l) he n with ⟨h1, h2⟩ | ⟨⟨s1, a1, a2, a3⟩, h2, ⟨s2, b1, b2, b3⟩, h4⟩
  · rw [h2]
    rcases yr_spec (Q := Q) 401 (Nat.le_refl _) with ⟨_, g2⟩ | ⟨⟨k, d1, d2, -⟩, -⟩
    · exact g2
    · obtain ⟨s, c1, c2, c3, c4⟩ := (hQ k d1).mp d2
      exact absurd ⟨c2, Int32.le_iff_toInt_le.mpr (by omega)⟩ (h1 s c1)
  · have g1 := sp_1 he a2
    have g2 := sp_1 he b2
    have m1 := hmin s1
    have m2 := hmin s2
    have k1e : (jmax e (fr s1)).toInt = 1500 + (((jmax e (fr s1)).toInt - 1500).toNat : Int) := by omega
    have k2e : (jmin l (to s2)).toInt = 1500 + (((jmin l (to s2)).toInt - 1500).toNat : Int) := by omega
    generalize ((jmax e (fr s1)).toInt - 1500).toNat = k1 at k1e
    generalize ((jmin l (to s2)).toInt - 1500).toNat = k2 at k2e
    have hk1 : k1 < 401 := by omega
    have hk2 : k2 < 401 := by omega
    have q1 := (hQ k1 hk1).mpr ⟨s1, a1, a2.1, by omega, by omega⟩
    have q2 := (hQ k2 hk2).mpr ⟨s2, b1, b2.1, by omega, by omega⟩
    rcases yr_spec (Q := Q) 401 (Nat.le_refl _) with ⟨g3, _⟩ | ⟨⟨j1, d1, d2, d3, d4⟩, ⟨j2, e1, e2, e3, e4⟩⟩
    · exact absurd q1 (g3 k1 hk1)
    · refine Prod.ext ?_ ?_
      · rw [d3, a3]
        apply Int32.toInt_inj.mp
        rw [yr_I (by omega), k1e]
        have t1 := d4 k1 hk1 q1
        obtain ⟨s, c1, c2, c3, c4⟩ := (hQ j1 d1).mp d2
        have t2 := h2 s c1 ⟨c2, Int32.le_iff_toInt_le.mpr (by omega)⟩
        rw [a3] at t2
        omega
      · rw [e3, b3]
        apply Int32.toInt_inj.mp
        rw [yr_I (by omega), k2e]
        have t1 := e4 k2 hk2 q2
        obtain ⟨s, c1, c2, c3, c4⟩ := (hQ j2 e1).mp e2
        have t2 := h4 s c1 ⟨c2, Int32.le_iff_toInt_le.mpr (by omega)⟩
        rw [b3] at t2
        omega
theorem any_iff {c y : Int32} {fr to : Nat → Int32} : ∀ n : Nat, anyU c fr to y n = true ↔ ∃ s, s < n ∧ (c >>> (nI s &&& 31)) &&& 1 = 1 ∧ fr s ≤ y ∧ y ≤ to s
  | 0 => ⟨fun h => Bool.noConfusion (show false = true from h), fun ⟨s, h, _⟩ => absurd h (Nat.not_lt_zero s)⟩
  | n + 1 => by
    show (anyU c fr to y n || decide ((c >>> (nI n &&& 31)) &&& 1 = 1 ∧ fr n ≤ y ∧ y ≤ to n)) = true ↔ _
    rw [Bool.or_eq_true, any_iff n, decide_eq_true_iff]
    constructor
    · rintro (⟨s, h1, h2⟩ | h)
      · exact ⟨s, by omega, h2⟩
      · exact ⟨n, Nat.lt_succ_self n, h⟩
    · rintro ⟨s, h1, h2⟩
      rcases Nat.lt_or_ge s n with z | z
      · exact Or.inl ⟨s, z, h2⟩
      · rw [show s = n by omega] at h2
        exact Or.inr h2
/-- the class's span is the model's -/
theorem span_is {c p im : Int32} {n m : Nat} {fr to fr2 to2 mf mt mf2 mt2 : Nat → Int32} (hm : m ≤ 8) (hf : ∀ k, k < n → fr k = fr2 k ∧ to k = to2 k) (hmo : ∀ k, k < m → mf k = mf2 k ∧ mt k = mt2 k ∧ okYY (mf2 k) (mt2 k)) (hp : p = -9 ∨ inN (nI m) p) (hi : im = -9 ∨ okY im) : yrU (yrB c fr2 to2 n p mf2 mt2 im) 401 = spU fr to c (earlF mf (nI m) p im) (lateF mt (nI m) p) n := by
  have n9 : ¬ inN (nI m) (-9) := fun q => absurd q.1 (by decide)
  have key : ∃ e0 l0 : Int32, 1500 ≤ e0.toInt ∧ l0.toInt ≤ 1900 ∧ earlF mf (nI m) p im = (if im = -9 then e0 else jmax e0 im) ∧ lateF mt (nI m) p = l0 ∧ ∀ y : Int32, 1500 ≤ y.toInt → y.toInt ≤ 1900 → ((p = -9 ∨ (mf2 p.toNatClampNeg ≤ y ∧ y ≤ mt2 p.toNatClampNeg)) ↔ (e0 ≤ y ∧ y ≤ l0)) := by
    by_cases q : inN (nI m) p
    · obtain ⟨j, h1, h2⟩ := vp_ofI q (by omega)
      have hc : p.toNatClampNeg = j := by rw [h2, nI_clamp (by omega)]
      obtain ⟨a1, a2, a3⟩ := hmo j h1
      have b1 := Int32.le_iff_toInt_le.mp a3.1.1
      have b2 := Int32.le_iff_toInt_le.mp a3.2.1.2
      refine ⟨mf2 j, mt2 j, b1, b2, ?_, ?_, fun y _ _ => ?_⟩
      · unfold earlF
        rw [if_pos q, hc, a1]
      · unfold lateF
        rw [if_pos q, hc, a2]
      · rw [hc]
        constructor
        · rintro (z | z)
          · rw [z] at q
            exact absurd q n9
          · exact z
        · exact Or.inr
    · have hp9 : p = -9 := hp.elim id (fun z => absurd z q)
      refine ⟨1500, 1900, by decide, by decide, ?_, ?_, fun y h1 h2 => ?_⟩
      · unfold earlF
        rw [if_neg q]
      · unfold lateF
        rw [if_neg q]
      · exact ⟨fun _ => ⟨Int32.le_iff_toInt_le.mpr h1, Int32.le_iff_toInt_le.mpr h2⟩, fun _ => Or.inl hp9⟩
  obtain ⟨e0, l0, k1, k2, k3, k4, k5⟩ := key
  rw [k3, k4]
  have he : 1500 ≤ (if im = -9 then e0 else jmax e0 im).toInt := by
    split
    · exact k1
    · rw [jmax_I]
      split <;> omega
  refine span_eq he k2 (fun k hk => ?_)
  have hy := yr_I (k := k) (by omega)
  rw [← yr_iff, any_iff]
  have hI : (im = -9 ∨ im ≤ nI (1500 + k)) ∧ e0 ≤ nI (1500 + k) ↔ (if im = -9 then e0 else jmax e0 im).toInt ≤ 1500 + (k : Int) := by
    rw [Int32.le_iff_toInt_le, Int32.le_iff_toInt_le, hy]
    by_cases z : im = -9
    · rw [if_pos z]
      exact ⟨fun q => q.2, fun q => ⟨Or.inl z, q⟩⟩
    · rw [if_neg z, jmax_I]
      constructor
      · rintro ⟨q1 | q1, q2⟩
        · exact absurd q1 z
        · split <;> omega
      · intro q
        split at q
        · exact ⟨Or.inr (by omega), by omega⟩
        · exact ⟨Or.inr (by omega), by omega⟩
  generalize (if im = -9 then e0 else jmax e0 im) = E9 at hI he ⊢
  constructor
  · rintro ⟨⟨⟨s, h1, h2, h3, h4⟩, h5⟩, h6⟩
    have h7 := (k5 _ (by omega) (by omega)).mp h5
    have h8 := hI.mp ⟨h6, h7.1⟩
    have h9 := Int32.le_iff_toInt_le.mp h7.2
    obtain ⟨f1, f2⟩ := hf s h1
    rw [Int32.le_iff_toInt_le, hy] at h3 h4
    refine ⟨s, h1, h2, ?_, ?_⟩
    · rw [jmax_I, f1]
      split <;> omega
    · rw [jmin_I, f2]
      split <;> omega
  · rintro ⟨s, h1, h2, h3, h4⟩
    obtain ⟨f1, f2⟩ := hf s h1
    rw [jmax_I, f1] at h3
    rw [jmin_I, f2] at h4
    have h8 : E9.toInt ≤ 1500 + (k : Int) := by
      split at h3 <;> omega
    have h9 := hI.mpr h8
    have h10 : l0.toInt ≥ 1500 + (k : Int) := by
      split at h4 <;> omega
    refine ⟨⟨⟨s, h1, h2, ?_, ?_⟩, (k5 _ (by omega) (by omega)).mpr ⟨h9.2, ?_⟩⟩, h9.1⟩
    · rw [Int32.le_iff_toInt_le, hy]
      split at h3 <;> omega
    · rw [Int32.le_iff_toInt_le, hy]
      split at h4 <;> omega
    · rw [Int32.le_iff_toInt_le, hy]
      exact h10
