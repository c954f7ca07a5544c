/-! PART 06.c: class and model alike: holes; the relation of both sides' numbers -/
theorem near_c {p q : Nat → Int32} {v f : Int32} : ∀ k : Nat, (∀ i, i < k → p i = q i) → nearB p v f k = nearB q v f k
  | 0, _ => rfl
  | k + 1, h => by
    show (nearB p v f k || decide (absI (p k - v) ≤ f)) = (nearB q v f k || decide (absI (q k - v) ≤ f))
    rw [near_c k (fun i hi => h i (by omega)), h k (Nat.lt_succ_self k)]
theorem fit_c {p p2 q q2 : Nat → Int32} {h : Nat} {s : Int32} (hq : ∀ j, j < h → q j = q2 j) : ∀ k : Nat, (∀ i, i < k → p i = p2 i) → fitU p q h s k = fitU p2 q2 h s k
  | 0, _ => rfl
  | k + 1, hp => by
    show (if nearB q (p k + s) 1 h = true then fitU p q h s k + 1 else fitU p q h s k) = (if nearB q2 (p2 k + s) 1 h = true then fitU p2 q2 h s k + 1 else fitU p2 q2 h s k)
    rw [fit_c hq k (fun i hi => hp i (by omega)), hp k (Nat.lt_succ_self k), near_c h hq]
theorem home_c {M M2 : Nat → Int32} : ∀ k : Nat, (∀ i, i < k → M i = M2 i) → homeU M k = homeU M2 k
  | 0, _ => rfl
  | k + 1, h => by
    show (if (homeU M k).2 < M k then (nI k, M k) else homeU M k) = (if (homeU M2 k).2 < M2 k then (nI k, M2 k) else homeU M2 k)
    rw [home_c k (fun i hi => h i (by omega)), h k (Nat.lt_succ_self k)]
theorem chance_c {M M2 : Nat → Int32} {l own : Int32} : ∀ k : Nat, (∀ i, i < k → M i = M2 i) → chanceU M l own k = chanceU M2 l own k
  | 0, _ => rfl
  | k + 1, h => by
    show (if ¬ nI k = l ∧ own ≤ M k then chanceU M l own k + 1 else chanceU M l own k) = (if ¬ nI k = l ∧ own ≤ M2 k then chanceU M2 l own k + 1 else chanceU M2 l own k)
    rw [chance_c k (fun i hi => h i (by omega)), h k (Nat.lt_succ_self k)]
/-- nothing but these groups' numbers changed -/
def frL (gs : List Nat) (σ τ : wSt) : Prop := ∀ g, g ∉ gs → τ.1 g = σ.1 g
theorem frL.rf {gs : List Nat} {σ : wSt} : frL gs σ σ := fun _ _ => rfl
theorem frL.up {gs : List Nat} {σ τ : wSt} {g i k : Nat} {v : Int32} (h : frL gs σ τ) (hg : g ∈ gs) : frL gs σ (wUp τ g i k v) := fun g1 h1 => (wUp_ngf (fun e => h1 (by rw [e]; exact hg))).trans (h g1 h1)
theorem frL.upL {gs : List Nat} {σ τ : wSt} {j : Nat} {v : Int64} (h : frL gs σ τ) : frL gs σ (wUpL τ j v) := h
theorem wUp_at {s : wSt} {g i k g1 i1 k1 : Nat} {v : Int32} : (wUp s g i k v).1 g1 i1 k1 = if g1 = g ∧ i1 = i ∧ k1 = k then v else s.1 g1 i1 k1 := rfl
/-- the counts, the call's flag of the model, the longs -/
def s1 (σ : wSt) (n l m c : Nat) : Prop := (n ≤ 6 ∧ l ≤ 20 ∧ m ≤ 8 ∧ c ≤ 8) ∧ (σ.1 1 0 5 = nI n ∧ σ.1 20 0 2 = nI n) ∧ (σ.1 0 0 3 = nI l ∧ σ.1 20 0 7 = nI l) ∧ (σ.1 0 0 5 = nI m ∧ σ.1 20 0 14 = nI m) ∧ (σ.1 2 0 4 = nI c ∧ σ.1 20 0 17 = nI c) ∧ σ.1 20 0 0 = 0
def s2 (σ : wSt) : Prop := σ.1 6 0 = σ.1 21 0 ∧ σ.1 12 0 = σ.1 33 0 ∧ σ.1 13 0 = σ.1 34 0
/-- leaves: what is seen, worth, colour -/
def s9 (σ : wSt) : Prop := (∀ k, σ.1 14 k 0 = σ.1 25 0 k) ∧ (∀ k, σ.1 14 k 1 = σ.1 26 0 k) ∧ (∀ k, σ.1 14 k 2 = σ.1 27 0 k) ∧ (∀ k, σ.1 14 k 3 = σ.1 28 0 k) ∧ (∀ k, rng12 (σ.1 25 0 k)) ∧ (∀ k, rng12 (σ.1 26 0 k)) ∧ ∀ k, σ.1 25 0 k &&& σ.1 26 0 k = 0
def s3 (σ : wSt) : Prop := (σ.1 1 0 0 = σ.1 24 0 0 ∧ σ.1 1 0 1 = σ.1 24 0 1 ∧ σ.1 1 0 2 = σ.1 24 0 2 ∧ σ.1 2 0 0 = σ.1 24 0 3 ∧ σ.1 2 0 1 = σ.1 24 0 4) ∧ (0 ≤ σ.1 24 0 0 ∧ σ.1 24 0 0 ≤ 9) ∧ (0 ≤ σ.1 24 0 1 ∧ σ.1 24 0 1 ≤ 9) ∧ 0 ≤ σ.1 24 0 2 ∧ σ.1 24 0 2 ≤ 50
def s4 (σ : wSt) : Prop := (∀ k, rng12 (σ.1 21 0 k)) ∧ ∀ k, rng12 (σ.1 34 0 k)
def s5 (σ : wSt) (n : Nat) : Prop := ∀ k, k < n → σ.1 11 k 0 = σ.1 22 0 k ∧ σ.1 11 k 1 = σ.1 23 0 k
def s6 (σ : wSt) (m : Nat) : Prop := ∀ k, k < m → σ.1 17 k 0 = σ.1 31 0 k ∧ σ.1 17 k 1 = σ.1 32 0 k ∧ okYY (σ.1 31 0 k) (σ.1 32 0 k)
def s7 (σ : wSt) (l m : Nat) : Prop := (∀ k, k < l → σ.1 14 k 4 = σ.1 29 0 k ∧ σ.1 14 k 5 = σ.1 30 0 k ∧ (σ.1 29 0 k = -9 ∨ inN (nI m) (σ.1 29 0 k)) ∧ (σ.1 30 0 k = -9 ∨ okY (σ.1 30 0 k))) ∧ ∀ k, l ≤ k → σ.1 14 k 4 = -9 ∧ σ.1 14 k 5 = -9
def s8 (σ : wSt) (nm : Nat → Nat) : Prop := (∀ i, i < 24 → σ.1 35 0 i = nI (nm i) ∧ nm i ≤ 6) ∧ (∀ i, i < 20 → σ.1 15 i 1 = nI (nm i)) ∧ (∀ j, j < 4 → σ.1 18 j 1 = nI (nm (20 + j))) ∧ (∀ i, i < 20 → ∀ k, k < nm i → σ.1 16 i k = σ.1 36 0 (6 * i + k)) ∧ (∀ j, j < 4 → ∀ k, k < nm (20 + j) → σ.1 19 j k = σ.1 36 0 (6 * (20 + j) + k)) ∧ ∀ i k, i < 24 → k < nm i → rng99 (σ.1 36 0 (6 * i + k))
/-- class and model hold the same -/
def wSim (σ : wSt) : Prop := ∃ (n l m c : Nat) (nm : Nat → Nat), s1 σ n l m c ∧ s2 σ ∧ s3 σ ∧ s4 σ ∧ s5 σ n ∧ s6 σ m ∧ s7 σ l m ∧ s8 σ nm ∧ s9 σ ∧ σ.2 0 = σ.2 1
section SFR
variable {gs : List Nat} {σ τ : wSt}
theorem s1.fr {n l m c : Nat} (h : frL gs σ τ) (hd : ∀ g ∈ [0, 1, 2, 20], g ∉ gs) (hs : s1 σ n l m c) : s1 τ n l m c := by
  unfold s1
  rw [h 0 (hd 0 (by decide)), h 1 (hd 1 (by decide)), h 2 (hd 2 (by decide)), h 20 (hd 20 (by decide))]
  exact hs
theorem s2.fr (h : frL gs σ τ) (hd : ∀ g ∈ [6, 12, 13, 21, 33, 34], g ∉ gs) (hs : s2 σ) : s2 τ := by
  unfold s2
  rw [h 6 (hd 6 (by decide)), h 12 (hd 12 (by decide)), h 13 (hd 13 (by decide)), h 21 (hd 21 (by decide)), h 33 (hd 33 (by decide)), h 34 (hd 34 (by decide))]
  exact hs
theorem s9.fr (h : frL gs σ τ) (hd : ∀ g ∈ [14, 25, 26, 27, 28], g ∉ gs) (hs : s9 σ) : s9 τ := by
  unfold s9
  rw [h 14 (hd 14 (by decide)), h 25 (hd 25 (by decide)), h 26 (hd 26 (by decide)), h 27 (hd 27 (by decide)), h 28 (hd 28 (by decide))]
  exact hs
theorem s3.fr (h : frL gs σ τ) (hd : ∀ g ∈ [1, 2, 24], g ∉ gs) (hs : s3 σ) : s3 τ := by
  unfold s3
  rw [h 1 (hd 1 (by decide)), h 2 (hd 2 (by decide)), h 24 (hd 24 (by decide))]
  exact hs
theorem s4.fr (h : frL gs σ τ) (hd : ∀ g ∈ [21, 34], g ∉ gs) (hs : s4 σ) : s4 τ := by
  unfold s4
  rw [h 21 (hd 21 (by decide)), h 34 (hd 34 (by decide))]
  exact hs
theorem s5.fr {n : Nat} (h : frL gs σ τ) (hd : ∀ g ∈ [11, 22, 23], g ∉ gs) (hs : s5 σ n) : s5 τ n := by
  unfold s5
  rw [h 11 (hd 11 (by decide)), h 22 (hd 22 (by decide)), h 23 (hd 23 (by decide))]
  exact hs
theorem s6.fr {m : Nat} (h : frL gs σ τ) (hd : ∀ g ∈ [17, 31, 32], g ∉ gs) (hs : s6 σ m) : s6 τ m := by
  unfold s6
  rw [h 17 (hd 17 (by decide)), h 31 (hd 31 (by decide)), h 32 (hd 32 (by decide))]
  exact hs
theorem s7.fr {l m : Nat} (h : frL gs σ τ) (hd : ∀ g ∈ [14, 29, 30], g ∉ gs) (hs : s7 σ l m) : s7 τ l m := by
  unfold s7
  rw [h 14 (hd 14 (by decide)), h 29 (hd 29 (by decide)), h 30 (hd 30 (by decide))]
  exact hs
theorem s8.fr {nm : Nat → Nat} (h : frL gs σ τ) (hd : ∀ g ∈ [15, 16, 18, 19, 35, 36], g ∉ gs) (hs : s8 σ nm) : s8 τ nm := by
  unfold s8
  rw [h 15 (hd 15 (by decide)), h 16 (hd 16 (by decide)), h 18 (hd 18 (by decide)), h 19 (hd 19 (by decide)), h 35 (hd 35 (by decide)), h 36 (hd 36 (by decide))]
  exact hs
theorem wSim.fr (h : frL [8, 10, 37] σ τ) (h2 : τ.2 = σ.2) (hs : wSim σ) : wSim τ := by
  obtain ⟨n, l, m, c, nm, q1, q2, q3, q4, q5, q6, q7, q8, q9, q10⟩ := hs
  exact ⟨n, l, m, c, nm, q1.fr h (by decide), q2.fr h (by decide), q3.fr h (by decide), q4.fr h (by decide), q5.fr h (by decide), q6.fr h (by decide), q7.fr h (by decide), q8.fr h (by decide), q9.fr h (by decide), by rw [h2]; exact q10⟩
end SFR
