/-! PART 02.g: what the methods' loops compute, as functions of numbers -/
/-- Integer.bitCount, as its code has it -/
def jb (x : Int32) : Int32 :=
  let u := fun (y k : Int32) => (y.toUInt32 >>> (k.toUInt32 &&& Int32.toUInt32 31)).toInt32
  let a := x - (u x 1 &&& 1431655765)
  let b := (a &&& 858993459) + (u a 2 &&& 858993459)
  let c := (b + u b 4) &&& 252645135
  let d := c + u c 8
  let e := d + u d 16
  e &&& 63
/-- the STATES (of the first k) that have all of a and none of b -/
def candU (f : Nat → Int32) (a b : Int32) : Nat → Int32
  | 0 => 0
  | k + 1 => if f k &&& a = a ∧ f k &&& b = 0 then candU f a b k ||| (1 <<< (nI k &&& 31)) else candU f a b k
theorem candU_t {f : Nat → Int32} {a b : Int32} (k : Nat) (_ : k = k) (_ : k = k) (h : f k &&& a = a ∧ f k &&& b = 0) : candU f a b (k + 1) = candU f a b k ||| (1 <<< (nI k &&& 31)) := if_pos h
theorem candU_f {f : Nat → Int32} {a b : Int32} (k : Nat) (_ : k = k) (_ : k = k) (h : ¬ (f k &&& a = a ∧ f k &&& b = 0)) : candU f a b (k + 1) = candU f a b k := if_neg h
def hasB (a b : Int32) : Prop := (a >>> (b &&& 31)) &&& 1 = 1
/-- all lines of the STATES (of the first k) in the set a -/
def linesU (f : Nat → Int32) (a : Int32) : Nat → Int32
  | 0 => 0
  | k + 1 => if (a >>> (nI k &&& 31)) &&& 1 = 1 then linesU f a k ||| f k else linesU f a k
theorem linesU_t {f : Nat → Int32} {a : Int32} (k : Nat) (_ : k = k) (h : (a >>> (nI k &&& 31)) &&& 1 = 1) : linesU f a (k + 1) = linesU f a k ||| f k := if_pos h
theorem linesU_f {f : Nat → Int32} {a : Int32} (k : Nat) (_ : k = k) (h : ¬ ((a >>> (nI k &&& 31)) &&& 1 = 1)) : linesU f a (k + 1) = linesU f a k := if_neg h
def stepJ (cut rub again a b c : Int32) : Int32 := jb ((c &&& (b ^^^ -1)) &&& (a ^^^ -1)) * cut + jb ((c &&& (b ^^^ -1)) &&& a) * again + jb (b &&& (c ^^^ -1)) * rub
abbrev rng12 (a : Int32) : Prop := 0 ≤ a ∧ a ≤ 4095
/-- how many of the bits 0 .. k-1 -/
def popU (x : Int32) : Nat → Int32
  | 0 => 0
  | k + 1 => popU x k + ((x >>> (nI k &&& 31)) &&& 1)
def pop (x : Int32) : Int32 := popU x 12
/-- QUARREL of a step: been, this state's lines, the next one's -/
def stepF (cut rub again a b c : Int32) : Int32 := pop ((c &&& (b ^^^ -1)) &&& (a ^^^ -1)) * cut + pop ((c &&& (b ^^^ -1)) &&& a) * again + pop (b &&& (c ^^^ -1)) * rub
def lookF (t g b : Int32) : Int32 := if (t >>> (b &&& 31)) &&& 1 = 1 then 1 else if (g >>> (b &&& 31)) &&& 1 = 1 then 2 else 0
def lookT (t b h : Int32) : Int32 := if h = 1 then t ||| (1 <<< (b &&& 31)) else t &&& ((1 <<< (b &&& 31)) ^^^ -1)
def lookG (t b h : Int32) : Int32 := if h = 2 then t ||| (1 <<< (b &&& 31)) else t &&& ((1 <<< (b &&& 31)) ^^^ -1)
/-! maps -/
abbrev inN (n v : Int32) : Prop := 0 ≤ v ∧ v < n
abbrev mayU (y : Nat → Int32) (n m s : Int32) : Prop := inN n m ∧ (s = -9 ∨ (inN n s ∧ y s.toNatClampNeg < y m.toNatClampNeg))
def costU (e : Nat → Int32) (loss alone n m s : Int32) : Int32 := if inN n s then pop (e m.toNatClampNeg &&& (e s.toNatClampNeg ^^^ -1)) + pop (e s.toNatClampNeg &&& (e m.toNatClampNeg ^^^ -1)) * loss else pop (e m.toNatClampNeg) + alone
def fromU (y : Nat → Int32) (f : Int32 → Int32) (m : Nat) : Nat → Int32
  | 0 => -9
  | k + 1 => if y k < y m ∧ f (nI k) < f (fromU y f m k) then nI k else fromU y f m k
theorem fromU_t {y : Nat → Int32} {f : Int32 → Int32} {m k : Nat} (h : y k < y m ∧ f (nI k) < f (fromU y f m k)) : fromU y f m (k + 1) = nI k := if_pos h
theorem fromU_f {y : Nat → Int32} {f : Int32 → Int32} {m k : Nat} (h : ¬ (y k < y m ∧ f (nI k) < f (fromU y f m k))) : fromU y f m (k + 1) = fromU y f m k := if_neg h
def rivU (y : Nat → Int32) (f : Int32 → Int32) (m : Nat) (src least : Int32) : Nat → Int32
  | 0 => 0
  | k + 1 => if ¬ nI k = src ∧ y k < y m ∧ f (nI k) = least then rivU y f m src least k + 1 else rivU y f m src least k
theorem rivU_t {y : Nat → Int32} {f : Int32 → Int32} {m k : Nat} {src least : Int32} (h : ¬ nI k = src ∧ y k < y m ∧ f (nI k) = least) : rivU y f m src least (k + 1) = rivU y f m src least k + 1 := if_pos h
theorem rivU_f {y : Nat → Int32} {f : Int32 → Int32} {m k : Nat} {src least : Int32} (h : ¬ (¬ nI k = src ∧ y k < y m ∧ f (nI k) = least)) : rivU y f m src least (k + 1) = rivU y f m src least k := if_neg h
/-- the way from a map, k steps at most, each with the error d, to the map b -/
def chU (e : Nat → Int32) (fr : Int32 → Int32) (n b d : Int32) : Nat → Int32 → Bool
  | 0, _ => false
  | k + 1, a => if ¬ inN n a then false else if ¬ (e a.toNatClampNeg >>> (d &&& 31)) &&& 1 = 1 then false else if a = b then true else chU e fr n b d k (fr a)
def lifeU (p : Int32 → Bool) : Nat → Int32
  | 0 => 0
  | k + 1 => if p (nI k) = true then lifeU p k + 1 else lifeU p k
theorem lifeU_t {p : Int32 → Bool} {k : Nat} (h : p (nI k) = true) : lifeU p (k + 1) = lifeU p k + 1 := if_pos h
theorem lifeU_f {p : Int32 → Bool} {k : Nat} (h : ¬ p (nI k) = true) : lifeU p (k + 1) = lifeU p k := if_neg h
/-! holes -/
def absI (u : Int32) : Int32 := if 0 ≤ u then u else 0 - u
def nearB (p : Nat → Int32) (v f : Int32) : Nat → Bool
  | 0 => false
  | k + 1 => nearB p v f k || decide (absI (p k - v) ≤ f)
theorem near_mono {p : Nat → Int32} {v f : Int32} {a b : Nat} (h : a ≤ b) (q : nearB p v f a = true) : nearB p v f b = true := by
  induction b with
  | zero => rw [Nat.le_zero.mp h] at q; exact q
  | succ b ih =>
    rcases Nat.lt_or_ge a (b + 1) with z | z
    · simp only [nearB, ih (by omega), Bool.true_or]
    · rw [show a = b + 1 by omega] at q; exact q
def fitU (p q : Nat → Int32) (h : Nat) (s : Int32) : Nat → Int32
  | 0 => 0
  | k + 1 => if nearB q (p k + s) 1 h = true then fitU p q h s k + 1 else fitU p q h s k
theorem fitU_t {p q : Nat → Int32} {h : Nat} {s : Int32} {k : Nat} (c : nearB q (p k + s) 1 h = true) : fitU p q h s (k + 1) = fitU p q h s k + 1 := if_pos c
theorem fitU_f {p q : Nat → Int32} {h : Nat} {s : Int32} {k : Nat} (c : ¬ nearB q (p k + s) 1 h = true) : fitU p q h s (k + 1) = fitU p q h s k := if_neg c
def shS (F : Int32 → Int32) (k b : Int32) : Int32 := if F b < F k then k else b
def shU (F : Int32 → Int32) : Nat → Int32
  | 0 => 0
  | j + 1 => shS F (nI (j + 1)) (shS F (-nI (j + 1)) (shU F j))
def mostU (F : Int32 → Int32) : Int32 := F (shU F 20)
def homeU (M : Nat → Int32) : Nat → Int32 × Int32
  | 0 => (-9, 1)
  | k + 1 => if (homeU M k).2 < M k then (nI k, M k) else homeU M k
def chanceU (M : Nat → Int32) (l own : Int32) : Nat → Int32
  | 0 => 0
  | k + 1 => if ¬ nI k = l ∧ own ≤ M k then chanceU M l own k + 1 else chanceU M l own k
/-! spans and prices -/
def jmax (u v : Int32) : Int32 := if u < v then v else u
def jmin (u v : Int32) : Int32 := if v < u then v else u
def earlF (fr : Nat → Int32) (n m i : Int32) : Int32 := if i = -9 then (if inN n m then fr m.toNatClampNeg else 1500) else jmax (if inN n m then fr m.toNatClampNeg else 1500) i
def lateF (to : Nat → Int32) (n m : Int32) : Int32 := if inN n m then to m.toNatClampNeg else 1900
def spU (fr to : Nat → Int32) (c e l : Int32) : Nat → Int32 × Int32
  | 0 => (-9, -9)
  | k + 1 => if (c >>> (nI k &&& 31)) &&& 1 = 1 ∧ jmax e (fr k) ≤ jmin l (to k) then (if (spU fr to c e l k).1 = -9 then jmax e (fr k) else jmin (spU fr to c e l k).1 (jmax e (fr k)), if (spU fr to c e l k).2 = -9 then jmin l (to k) else jmax (spU fr to c e l k).2 (jmin l (to k))) else spU fr to c e l k
def plainF (n worth : Int32) : Int32 := if n = 0 then 0 else worth / n
def colF (p c : Int32) : Int32 := if c = 1 then p + p / 2 else if c = 2 then p - (p + 3) / 4 else p
def cntU (c : Nat → Int32) (v : Int32) : Nat → Int32
  | 0 => 0
  | k + 1 => if pop (c k) = v then cntU c v k + 1 else cntU c v k
theorem cntU_t {c : Nat → Int32} {v : Int32} {k : Nat} (h : pop (c k) = v) : cntU c v (k + 1) = cntU c v k + 1 := if_pos h
theorem cntU_f {c : Nat → Int32} {v : Int32} {k : Nat} (h : ¬ pop (c k) = v) : cntU c v (k + 1) = cntU c v k := if_neg h
/-! ranges -/
theorem rng_nat {a : Int32} : rng12 a ↔ a.toBitVec.toNat ≤ 4095 := by
  constructor
  · rintro ⟨h1, h2⟩
    rw [Int32.le_iff_toInt_le] at h1 h2
    have e1 : (0 : Int32).toInt = 0 := rfl
    have e2 : (4095 : Int32).toInt = 4095 := rfl
    rw [e1] at h1; rw [e2] at h2
    have := BitVec.toInt_eq_toNat_cond a.toBitVec
    have hh : a.toInt = a.toBitVec.toInt := rfl
    rw [hh] at h1 h2
    have hl := a.toBitVec.isLt
    split at this <;> omega
  · intro h
    have := BitVec.toInt_eq_toNat_cond a.toBitVec
    have hh : a.toInt = a.toBitVec.toInt := rfl
    have e1 : (0 : Int32).toInt = 0 := rfl
    have e2 : (4095 : Int32).toInt = 4095 := rfl
    constructor
    · rw [Int32.le_iff_toInt_le, e1, hh]
      split at this <;> omega
    · rw [Int32.le_iff_toInt_le, e2, hh]
      split at this <;> omega
theorem rng_and {a : Int32} (b : Int32) (h : rng12 a) : rng12 (a &&& b) := by
  rw [rng_nat] at h ⊢
  have e : (a &&& b).toBitVec.toNat = a.toBitVec.toNat &&& b.toBitVec.toNat := rfl
  rw [e]
  exact Nat.le_trans Nat.and_le_left h
theorem rng_or {a b : Int32} (h : rng12 a) (h2 : rng12 b) : rng12 (a ||| b) := by
  rw [rng_nat] at *
  have e : (a ||| b).toBitVec.toNat = a.toBitVec.toNat ||| b.toBitVec.toNat := rfl
  rw [e]
  have := Nat.or_lt_two_pow (n := 12) (x := a.toBitVec.toNat) (y := b.toBitVec.toNat) (by omega) (by omega)
  omega
theorem rng_I {a : Int32} (h : rng12 a) : ∃ m : Nat, m < 4096 ∧ a = nI m := by
  rw [rng_nat] at h
  refine ⟨a.toBitVec.toNat, by omega, ?_⟩
  apply Int32.toBitVec_inj.mp
  apply BitVec.eq_of_toNat_eq
  rw [pk_tn (by omega)]
theorem jb_all2 : ∀ k : Nat, k < 64 → ∀ m : Nat, m < 64 → jb (nI (64 * k + m)) = pop (nI (64 * k + m)) := by decide +kernel
theorem jb_all (m : Nat) (h : m < 4096) : jb (nI m) = pop (nI m) := by
  have := jb_all2 (m / 64) (by omega) (m % 64) (by omega)
  rw [Nat.div_add_mod] at this
  exact this
theorem jb_pop {a : Int32} (h : rng12 a) : jb a = pop a := by
  obtain ⟨m, hm, rfl⟩ := rng_I h
  exact jb_all m hm
theorem rng_cand {f : Nat → Int32} {a b : Int32} : ∀ n : Nat, n ≤ 6 → rng12 (candU f a b n)
  | 0, _ => by show rng12 0; decide
  | k + 1, h => by
    unfold candU
    split
    · refine rng_or (rng_cand k (by omega)) ?_
      rcases (show k = 0 ∨ k = 1 ∨ k = 2 ∨ k = 3 ∨ k = 4 ∨ k = 5 by omega) with rfl | rfl | rfl | rfl | rfl | rfl <;> decide
    · exact rng_cand k (by omega)
theorem rng_lines {f : Nat → Int32} {a : Int32} : ∀ n : Nat, (∀ i, i < n → rng12 (f i)) → rng12 (linesU f a n)
  | 0, _ => by show rng12 0; decide
  | k + 1, h => by
    unfold linesU
    split
    · exact rng_or (rng_lines k (fun i hi => h i (by omega))) (h k (by omega))
    · exact rng_lines k (fun i hi => h i (by omega))
/-! an index that was tested -/
theorem vp_ofc {v c : Int32} {l N : Nat} (hb : 0 ≤ v ∧ v < c) (hc : c = nI l) (h : l ≤ N) (hN : N < 2 ^ 31) : vp_in v N := by
  subst hc
  rw [vp_in_iff]
  have h1 := hb.1
  have h2 := hb.2
  rw [Int32.le_iff_toInt_le] at h1
  rw [Int32.lt_iff_toInt_lt, nI_toInt (by omega)] at h2
  have e : (0 : Int32).toInt = 0 := rfl
  rw [e] at h1
  omega
theorem vp_ofl {v : Int32} {l : Nat} (hb : 0 ≤ v ∧ v < nI l) (h : l < 2 ^ 31) : v.toNatClampNeg < l := vp_lt (vp_ofc hb rfl (Nat.le_refl l) h)
theorem vp_ofI {v : Int32} {l : Nat} (hb : 0 ≤ v ∧ v < nI l) (h : l < 2 ^ 31) : ∃ j : Nat, j < l ∧ v = nI j := vp_in_of (vp_ofc hb rfl (Nat.le_refl l) h) h
theorem inN_nI {j n : Nat} (h : j < n) (hn : n < 2 ^ 31) : inN (nI n) (nI j) := ⟨nI_pos' (by omega), nI_lt h hn⟩
theorem nI_ne9 {j : Nat} (h : j < 2 ^ 31) : ¬ nI j = -9 := fun e => by
  have := congrArg Int32.toInt e
  rw [nI_toInt h] at this
  have e2 : (-9 : Int32).toInt = -9 := rfl
  omega
theorem shS_t {F : Int32 → Int32} {k b : Int32} (h : F b < F k) : shS F k b = k := if_pos h
theorem shS_f {F : Int32 → Int32} {k b : Int32} (h : ¬ F b < F k) : shS F k b = b := if_neg h
theorem w_shift1 : ∀ far : Nat, far < 20 → ¬ nI (far + 1) < -nI (far + 1) := by decide +kernel
theorem w_shift2 : ∀ far : Nat, far < 20 → -nI (far + 1) + 2 * nI (far + 1) = nI (far + 1) := by decide +kernel
theorem w_shift3 : ∀ far : Nat, far < 20 → nI (far + 1) < nI (far + 1) + 2 * nI (far + 1) := by decide +kernel
theorem shS_le {F : Int32 → Int32} {k b : Int32} (h : F k ≤ F b) : shS F k b = b := shS_f (Int32.not_lt.mpr h)
theorem shS_gt {F : Int32 → Int32} {k b : Int32} (h : ¬ F k ≤ F b) : shS F k b = k := shS_t (Int32.not_le.mp h)
