/-! PART 03.f: more words -/
theorem spU_t {fr to : Nat → Int32} {c e l : Int32} {k : Nat} (h : (c >>> (nI k &&& 31)) &&& 1 = 1) (h2 : jmax e (fr k) ≤ jmin l (to k)) : spU fr to c e l (k + 1) = (if (spU fr to c e l k).1 = -9 then jmax e (fr k) else jmin (spU fr to c e l k).1 (jmax e (fr k)), if (spU fr to c e l k).2 = -9 then jmin l (to k) else jmax (spU fr to c e l k).2 (jmin l (to k))) := if_pos ⟨h, h2⟩
theorem spU_f {fr to : Nat → Int32} {c e l : Int32} {k : Nat} (h : ¬ ((c >>> (nI k &&& 31)) &&& 1 = 1 ∧ jmax e (fr k) ≤ jmin l (to k))) : spU fr to c e l (k + 1) = spU fr to c e l k := if_neg h
theorem homeU_t {M : Nat → Int32} {k : Nat} (h : (homeU M k).2 < M k) : homeU M (k + 1) = (nI k, M k) := if_pos h
theorem homeU_f {M : Nat → Int32} {k : Nat} (h : ¬ (homeU M k).2 < M k) : homeU M (k + 1) = homeU M k := if_neg h
theorem chanceU_t {M : Nat → Int32} {l own : Int32} {k : Nat} (h : ¬ nI k = l ∧ own ≤ M k) : chanceU M l own (k + 1) = chanceU M l own k + 1 := if_pos h
theorem chanceU_f {M : Nat → Int32} {l own : Int32} {k : Nat} (h : ¬ (¬ nI k = l ∧ own ≤ M k)) : chanceU M l own (k + 1) = chanceU M l own k := if_neg h
