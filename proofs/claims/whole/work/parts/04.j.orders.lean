/-! PART 04.j: orders: the least of all, found from the end and found by going through all -/
/-- the first of the least, of those below n that are ok -/
def fbU (ok : Nat → Bool) (c : Nat → Nat) : Nat → Option Nat
  | 0 => none
  | k + 1 => if ok k = true then (match fbU ok c k with
    | none => some k
    | some b => if c k < c b then some k else some b) else fbU ok c k
theorem fb_none {ok : Nat → Bool} {c : Nat → Nat} : ∀ n : Nat, fbU ok c n = none → ∀ s : Nat, s < n → ok s = false
  | 0, _, s, hs => absurd hs (Nat.not_lt_zero s)
  | k + 1, h, s, hs => by
    unfold fbU at h
    by_cases q : ok k = true
    · rw [if_pos q] at h
      split at h
      · cases h
      · split at h <;> cases h
    · rw [if_neg q] at h
      rcases Nat.lt_or_ge s k with z | z
      · exact fb_none k h s z
      · rw [show s = k by omega]
        exact Bool.eq_false_iff.mpr q
theorem fb_some {ok : Nat → Bool} {c : Nat → Nat} : ∀ (n b : Nat), fbU ok c n = some b → b < n ∧ ok b = true ∧ (∀ s : Nat, s < n → ok s = true → c b ≤ c s) ∧ ∀ s : Nat, s < b → ok s = true → c b < c s
  | 0, b, h => by cases h
  | k + 1, b, h => by
    unfold fbU at h
    by_cases q : ok k = true
    · rw [if_pos q] at h
      cases e : fbU ok c k with
      | none =>
        rw [e] at h
        cases h
        have hn := fb_none k e
        refine ⟨by omega, q, fun s hs ho => ?_, fun s hs ho => ?_⟩
        · rcases Nat.lt_or_ge s k with z | z
          · rw [hn s z] at ho; cases ho
          · rw [show s = k by omega]
            exact Nat.le_refl _
        · rw [hn s hs] at ho; cases ho
      | some d =>
        rw [e] at h
        obtain ⟨h1, h2, h3, h4⟩ := fb_some k d e
        by_cases z : c k < c d
        · simp only [if_pos z] at h
          cases h
          refine ⟨by omega, q, fun s hs ho => ?_, fun s hs ho => ?_⟩
          · rcases Nat.lt_or_ge s k with y | y
            · have := h3 s y ho
              omega
            · rw [show s = k by omega]
              exact Nat.le_refl _
          · have := h3 s hs ho
            omega
        · simp only [if_neg z] at h
          cases h
          refine ⟨by omega, h2, fun s hs ho => ?_, h4⟩
          rcases Nat.lt_or_ge s k with y | y
          · exact h3 s y ho
          · rw [show s = k by omega]
            omega
    · rw [if_neg q] at h
      obtain ⟨h1, h2, h3, h4⟩ := fb_some k b h
      refine ⟨by omega, h2, fun s hs ho => ?_, h4⟩
      rcases Nat.lt_or_ge s k with y | y
      · exact h3 s y ho
      · rw [show s = k by omega] at ho
        exact absurd ho q
theorem fb_is {ok : Nat → Bool} {c : Nat → Nat} {n g : Nat} (h1 : g < n) (h2 : ok g = true) (h3 : ∀ s : Nat, s < n → ok s = true → c g ≤ c s ∧ (c g = c s → g ≤ s)) : fbU ok c n = some g := by
  cases e : fbU ok c n with
  | none => have := fb_none n e g h1; rw [h2] at this; cases this
  | some b =>
    obtain ⟨b1, b2, b3, b4⟩ := fb_some n b e
    have a1 := b3 g h1 h2
    have a2 := h3 b b1 b2
    have a3 : g ≤ b := a2.2 (by omega)
    rcases Nat.lt_or_ge g b with z | z
    · have := b4 g z h2
      omega
    · rw [show b = g by omega]
theorem fb_congr {ok : Nat → Bool} {c d : Nat → Nat} : ∀ n : Nat, (∀ s : Nat, s < n → ok s = true → c s = d s) → fbU ok c n = fbU ok d n
  | 0, _ => rfl
  | k + 1, h => by
    have ih := fb_congr k (fun s hs ho => h s (by omega) ho)
    unfold fbU
    by_cases q : ok k = true
    · rw [if_pos q, if_pos q, ih]
      cases e : fbU ok d k with
      | none => rfl
      | some b =>
        have hb := fb_some k b e
        simp only [h k (by omega) q, h b (by omega) hb.2.1]
    · rw [if_neg q, if_neg q, ih]
def mkU (u b : Nat) : Nat := u ||| (1 <<< b)
def cntF (u : Nat) : Nat → Nat
  | 0 => 0
  | s + 1 => if u.testBit s = true then cntF u s else cntF u s + 1
def okU (u s : Nat) : Bool := !u.testBit s
theorem cnt_pos {u : Nat} : ∀ n : Nat, 0 < cntF u n → ∃ s : Nat, s < n ∧ okU u s = true
  | 0, h => absurd h (Nat.lt_irrefl 0)
  | k + 1, h => by
    unfold cntF at h
    by_cases q : u.testBit k = true
    · rw [if_pos q] at h
      obtain ⟨s, h1, h2⟩ := cnt_pos k h
      exact ⟨s, by omega, h2⟩
    · exact ⟨k, by omega, by simp [okU, q]⟩
theorem cnt_zero {u : Nat} : ∀ n : Nat, cntF u n = 0 → ∀ s : Nat, s < n → okU u s = false
  | 0, _, s, hs => absurd hs (Nat.not_lt_zero s)
  | k + 1, h, s, hs => by
    unfold cntF at h
    by_cases q : u.testBit k = true
    · rw [if_pos q] at h
      rcases Nat.lt_or_ge s k with z | z
      · exact cnt_zero k h s z
      · rw [show s = k by omega]
        simp [okU, q]
    · rw [if_neg q] at h
      omega
theorem mk_fin : ∀ n : Nat, n < 7 → ∀ u : Nat, u < 2 ^ n → ∀ b : Nat, b < n → (okU u b = true → cntF (mkU u b) n + 1 = cntF u n) ∧ mkU u b < 2 ^ n ∧ 0 < mkU u b := by decide +kernel
theorem mk_bits : ∀ u : Nat, u < 64 → ∀ s : Nat, s < 6 → ((nI u >>> (nI s &&& 31)) &&& 1 = if u.testBit s then 1 else 0) ∧ nI u ||| (1 <<< (nI s &&& 31)) = nI (mkU u s) := by decide +kernel
theorem cnt_0 : ∀ n : Nat, n < 7 → cntF 0 n = n ∧ (1 : Int32) <<< (nI n &&& 31) - 1 = nI (2 ^ n - 1) := by decide +kernel
theorem has_t {u s : Nat} (hu : u < 64) (hs : s < 6) : ((nI u >>> (nI s &&& 31)) &&& 1 = 1) ↔ okU u s = false := by
  rw [(mk_bits u hu s hs).1]
  unfold okU
  cases u.testBit s <;> simp <;> decide
def wO (w : Nat → Nat → Nat → Nat) (u : Nat) : Option Nat → Nat → Nat
  | none, _ => 0
  | some a, s => w u a s
def Vr (w : Nat → Nat → Nat → Nat) (n : Nat) : Nat → Nat → Option Nat → Nat
  | 0, _, _ => 0
  | r + 1, u, l => match fbU (okU u) (fun s => wO w u l s + Vr w n r (mkU u s) (some s)) n with
    | none => 0
    | some b => wO w u l b + Vr w n r (mkU u b) (some b)
def gr (w : Nat → Nat → Nat → Nat) (n : Nat) : Nat → Nat → Option Nat → Nat
  | 0, _, _ => 0
  | r + 1, u, l => match fbU (okU u) (fun s => wO w u l s + Vr w n r (mkU u s) (some s)) n with
    | none => 0
    | some b => b * 6 ^ r + gr w n r (mkU u b) (some b)
def costN (w : Nat → Nat → Nat → Nat) : Nat → Nat → Option Nat → Nat → Nat
  | 0, _, _, _ => 0
  | r + 1, u, l, m => wO w u l (m / 6 ^ r) + costN w r (mkU u (m / 6 ^ r)) (some (m / 6 ^ r)) (m % 6 ^ r)
def validN (n : Nat) : Nat → Nat → Nat → Bool
  | 0, _, m => m == 0
  | r + 1, u, m => decide (m / 6 ^ r < n) && (okU u (m / 6 ^ r) && validN n r (mkU u (m / 6 ^ r)) (m % 6 ^ r))
theorem gr_lt {w : Nat → Nat → Nat → Nat} {n : Nat} (h6 : n ≤ 6) : ∀ (r u : Nat) (l : Option Nat), gr w n r u l < 6 ^ r
  | 0, _, _ => by show 0 < 6 ^ 0; decide
  | r + 1, u, l => by
    unfold gr
    cases e : fbU (okU u) (fun s => wO w u l s + Vr w n r (mkU u s) (some s)) n with
    | none => show 0 < 6 ^ (r + 1); exact Nat.pow_pos (by decide)
    | some b =>
      have hb := (fb_some n b e).1
      have ih := gr_lt (w := w) h6 r (mkU u b) (some b)
      show b * 6 ^ r + gr w n r (mkU u b) (some b) < 6 ^ (r + 1)
      rw [Nat.pow_succ]
      have : (b + 1) * 6 ^ r ≤ 6 * 6 ^ r := Nat.mul_le_mul_right _ (by omega)
      rw [Nat.succ_mul] at this
      omega
theorem opt {w : Nat → Nat → Nat → Nat} {n : Nat} (h6 : n ≤ 6) : ∀ (r u : Nat) (l : Option Nat), u < 2 ^ n → cntF u n = r → validN n r u (gr w n r u l) = true ∧ costN w r u l (gr w n r u l) = Vr w n r u l ∧ ∀ m : Nat, validN n r u m = true → Vr w n r u l ≤ costN w r u l m ∧ (Vr w n r u l = costN w r u l m → gr w n r u l ≤ m)
  | 0, u, l, hu, hc => ⟨rfl, rfl, fun m hm => ⟨Nat.zero_le _, fun _ => Nat.zero_le _⟩⟩
  | r + 1, u, l, hu, hc => by
    obtain ⟨s0, hs0, ho0⟩ := cnt_pos (u := u) n (by omega)
    cases e : fbU (okU u) (fun s => wO w u l s + Vr w n r (mkU u s) (some s)) n with
    | none => have := fb_none n e s0 hs0; rw [ho0] at this; cases this
    | some b =>
      obtain ⟨b1, b2, b3, b4⟩ := fb_some n b e
      have hg : gr w n (r + 1) u l = b * 6 ^ r + gr w n r (mkU u b) (some b) := by
        conv => lhs; unfold gr
        rw [e]
      have hV : Vr w n (r + 1) u l = wO w u l b + Vr w n r (mkU u b) (some b) := by
        conv => lhs; unfold Vr
        rw [e]
      have hfin := mk_fin n (by omega) u hu b b1
      have ihb := opt (w := w) h6 r (mkU u b) (some b) hfin.2.1 (by have := hfin.1 b2; omega)
      have hlt := gr_lt (w := w) h6 r (mkU u b) (some b)
      have hp : 0 < 6 ^ r := Nat.pow_pos (by decide)
      have hd : (b * 6 ^ r + gr w n r (mkU u b) (some b)) / 6 ^ r = b := by
        rw [Nat.mul_comm, Nat.mul_add_div hp, Nat.div_eq_of_lt hlt, Nat.add_zero]
      have hm : (b * 6 ^ r + gr w n r (mkU u b) (some b)) % 6 ^ r = gr w n r (mkU u b) (some b) := by
        rw [Nat.mul_comm, Nat.mul_add_mod, Nat.mod_eq_of_lt hlt]
      refine ⟨?_, ?_, fun m hv => ?_⟩
      · rw [hg]
        unfold validN
        rw [hd, hm, ihb.1, b2, decide_eq_true b1]
        rfl
      · rw [hg, hV]
        unfold costN
        rw [hd, hm, ihb.2.1]
      · unfold validN at hv
        rw [Bool.and_eq_true, Bool.and_eq_true, decide_eq_true_eq] at hv
        obtain ⟨v1, v2, v3⟩ := hv
        have hfd := mk_fin n (by omega) u hu (m / 6 ^ r) v1
        have ihd := (opt (w := w) h6 r (mkU u (m / 6 ^ r)) (some (m / 6 ^ r)) hfd.2.1 (by have := hfd.1 v2; omega)).2.2 (m % 6 ^ r) v3
        have q1 := b3 (m / 6 ^ r) v1 v2
        have q1 : wO w u l b + Vr w n r (mkU u b) (some b) ≤ wO w u l (m / 6 ^ r) + Vr w n r (mkU u (m / 6 ^ r)) (some (m / 6 ^ r)) := q1
        have hcm : costN w (r + 1) u l m = wO w u l (m / 6 ^ r) + costN w r (mkU u (m / 6 ^ r)) (some (m / 6 ^ r)) (m % 6 ^ r) := rfl
        rw [hV, hcm]
        refine ⟨by omega, fun he => ?_⟩
        rw [hg]
        have hmd : m = (m / 6 ^ r) * 6 ^ r + m % 6 ^ r := by
          rw [Nat.mul_comm]
          exact (Nat.div_add_mod m (6 ^ r)).symm
        rcases Nat.lt_trichotomy b (m / 6 ^ r) with z | z | z
        · have : (b + 1) * 6 ^ r ≤ (m / 6 ^ r) * 6 ^ r := Nat.mul_le_mul_right _ z
          rw [Nat.succ_mul] at this
          omega
        · rw [← z] at ihd hmd he
          have := ihd.2 (by omega)
          omega
        · have q2 := b4 (m / 6 ^ r) z v2
          have q2 : wO w u l b + Vr w n r (mkU u b) (some b) < wO w u l (m / 6 ^ r) + Vr w n r (mkU u (m / 6 ^ r)) (some (m / 6 ^ r)) := q2
          omega
theorem V_le {w : Nat → Nat → Nat → Nat} {n : Nat} (h6 : n < 7) (hw : ∀ u a b : Nat, u < 2 ^ n → a < n → b < n → w u a b ≤ 1000) : ∀ (r u : Nat) (l : Option Nat), u < 2 ^ n → (∀ a, l = some a → a < n) → Vr w n r u l ≤ 1000 * r
  | 0, _, _, _, _ => Nat.le_refl _
  | r + 1, u, l, hu, hl => by
    unfold Vr
    cases e : fbU (okU u) (fun s => wO w u l s + Vr w n r (mkU u s) (some s)) n with
    | none => exact Nat.zero_le _
    | some b =>
      have hb := (fb_some n b e).1
      have hm := (mk_fin n h6 u hu b hb).2.1
      have ih := V_le h6 hw r (mkU u b) (some b) hm (fun a ha => by cases ha; exact hb)
      have h1 : wO w u l b ≤ 1000 := by
        cases l with
        | none => exact Nat.zero_le _
        | some a => exact hw u a b hu (hl a rfl) hb
      show wO w u l b + Vr w n r (mkU u b) (some b) ≤ 1000 * (r + 1)
      omega
/-- what stands in the table of what is to come -/
def Vt (w : Nat → Nat → Nat → Nat) (n u a : Nat) : Nat := Vr w n (cntF u n) u (some a)
def nextU (w : Nat → Nat → Nat → Nat) (n u : Nat) (l : Option Nat) : Option Nat := fbU (okU u) (fun s => wO w u l s + Vt w n (mkU u s) s) n
theorem next_eq {w : Nat → Nat → Nat → Nat} {n u r : Nat} {l : Option Nat} (h6 : n < 7) (hu : u < 2 ^ n) (hc : cntF u n = r + 1) : fbU (okU u) (fun s => wO w u l s + Vr w n r (mkU u s) (some s)) n = nextU w n u l := by
  refine fb_congr n (fun s hs ho => ?_)
  have := (mk_fin n h6 u hu s hs).1 ho
  show _ = wO w u l s + Vr w n (cntF (mkU u s) n) (mkU u s) (some s)
  rw [show cntF (mkU u s) n = r by omega]
theorem Vt_next {w : Nat → Nat → Nat → Nat} {n u a : Nat} (h6 : n < 7) (hu : u < 2 ^ n) : Vt w n u a = match nextU w n u (some a) with
    | none => 0
    | some b => wO w u (some a) b + Vt w n (mkU u b) b := by
  cases hc : cntF u n with
  | zero =>
    have hz := cnt_zero n hc
    cases e : nextU w n u (some a) with
    | none => unfold Vt; rw [hc]; rfl
    | some b => have := fb_some n b e; rw [hz b this.1] at this; exact absurd this.2.1 (by decide)
  | succ r =>
    unfold Vt
    rw [hc]
    show Vr w n (r + 1) u (some a) = _
    conv => lhs; unfold Vr
    rw [next_eq h6 hu hc]
    cases e : nextU w n u (some a) with
    | none => rfl
    | some b =>
      have hb := fb_some n b e
      have := (mk_fin n h6 u hu b hb.1).1 hb.2.1
      show _ = wO w u (some a) b + Vr w n (cntF (mkU u b) n) (mkU u b) (some b)
      rw [show cntF (mkU u b) n = r by omega]
theorem gr_next {w : Nat → Nat → Nat → Nat} {n u r : Nat} {l : Option Nat} (h6 : n < 7) (hu : u < 2 ^ n) (hc : cntF u n = r + 1) : ∃ b : Nat, nextU w n u l = some b ∧ b < n ∧ okU u b = true ∧ gr w n (r + 1) u l = b * 6 ^ r + gr w n r (mkU u b) (some b) ∧ cntF (mkU u b) n = r ∧ mkU u b < 2 ^ n := by
  obtain ⟨s0, hs0, ho0⟩ := cnt_pos (u := u) n (by omega)
  cases e : nextU w n u l with
  | none => have := fb_none n e s0 hs0; rw [ho0] at this; cases this
  | some b =>
    have hb := fb_some n b e
    have hm := mk_fin n h6 u hu b hb.1
    refine ⟨b, rfl, hb.1, hb.2.1, ?_, by have := hm.1 hb.2.1; omega, hm.2.1⟩
    conv => lhs; unfold gr
    rw [next_eq h6 hu hc, e]
/-- found and least, as the loops have them -/
def oI : Option Nat → Int32
  | none => -9
  | some b => nI b
def oQ (c : Nat → Nat) : Option Nat → Int32
  | none => 0
  | some b => nI (c b)
/-- the digits of an order -/
def dg (n m k : Nat) : Nat := m / 6 ^ (n - 1 - k) % 6
/-- which digits have been, read from the last one on; none: one isn't as told -/
def rdU (n m : Nat) : Nat → Option Nat
  | 0 => some 0
  | t + 1 => match rdU n m t with
    | none => none
    | some u => if m / 6 ^ t % 6 < n ∧ okU u (m / 6 ^ t % 6) = true then some (mkU u (m / 6 ^ t % 6)) else none
def seU (m : Nat) : Nat → Nat
  | 0 => 0
  | t + 1 => mkU (seU m t) (m / 6 ^ t % 6)
def ordB (n m : Nat) : Bool := decide (0 < n) && (decide (m < 6 ^ n) && validN n n 0 m)
theorem mk_test : ∀ u : Nat, u < 64 → ∀ b : Nat, b < 6 → ∀ s : Nat, s < 6 → okU (mkU u b) s = (okU u s && decide (¬ s = b)) := by decide +kernel
theorem mk_step : ∀ n : Nat, n < 7 → ∀ u : Nat, u < 64 → ∀ d : Nat, d < 6 → cntF u n ≤ cntF (mkU u d) n + 1 ∧ mkU u d < 64 ∧ (¬ (d < n ∧ okU u d = true) → cntF (mkU u d) n = cntF u n) := by decide +kernel
theorem cnt_full : ∀ n : Nat, n < 7 → ∀ u : Nat, u < 2 ^ n → (cntF u n = 0 ↔ u = 2 ^ n - 1) := by decide +kernel
theorem pow_64 : ∀ n : Nat, n < 7 → 2 ^ n ≤ 64 := by decide
theorem rd_cnt {n m : Nat} (h6 : n < 7) : ∀ t : Nat, (∀ u : Nat, rdU n m t = some u → seU m t = u ∧ cntF u n + t = n ∧ u < 2 ^ n) ∧ (rdU n m t = none → n < cntF (seU m t) n + t) ∧ seU m t < 64
  | 0 => ⟨fun u h => by cases h; exact ⟨rfl, (cnt_0 n h6).1, Nat.pow_pos (by decide)⟩, fun h => (by cases h), (show (0 : Nat) < 64 by decide)⟩
  | t + 1 => by
    obtain ⟨i1, i2, i3⟩ := rd_cnt h6 t
    have hd : m / 6 ^ t % 6 < 6 := Nat.mod_lt _ (by decide)
    have hs := mk_step n h6 (seU m t) i3 (m / 6 ^ t % 6) hd
    cases e : rdU n m t with
    | none =>
      have := i2 e
      refine ⟨fun u h => ?_, fun _ => ?_, hs.2.1⟩
      · unfold rdU at h; rw [e] at h; cases h
      · show n < cntF (mkU (seU m t) (m / 6 ^ t % 6)) n + (t + 1)
        have := hs.1
        omega
    | some v =>
      obtain ⟨a1, a2, a3⟩ := i1 v e
      by_cases q : m / 6 ^ t % 6 < n ∧ okU v (m / 6 ^ t % 6) = true
      · have hr : rdU n m (t + 1) = some (mkU v (m / 6 ^ t % 6)) := by
          conv => lhs; unfold rdU
          rw [e]
          exact if_pos q
        have hf := mk_fin n h6 v a3 _ q.1
        refine ⟨fun u h => ?_, fun h => (by rw [hr] at h; cases h), hs.2.1⟩
        rw [hr] at h
        cases h
        refine ⟨?_, by have := hf.1 q.2; omega, hf.2.1⟩
        show mkU (seU m t) _ = _
        rw [a1]
      · have hr : rdU n m (t + 1) = none := by
          conv => lhs; unfold rdU
          rw [e]
          exact if_neg q
        refine ⟨fun u h => (by rw [hr] at h; cases h), fun _ => ?_, hs.2.1⟩
        show n < cntF (mkU (seU m t) (m / 6 ^ t % 6)) n + (t + 1)
        rw [a1]
        rw [a1] at hs
        rw [hs.2.2 q]
        omega
theorem se_full {n m : Nat} (h6 : n < 7) : seU m n = 2 ^ n - 1 ↔ (rdU n m n).isSome = true := by
  obtain ⟨i1, i2, i3⟩ := rd_cnt (m := m) h6 n
  have hp : 0 < 2 ^ n := Nat.pow_pos (by decide)
  cases e : rdU n m n with
  | none =>
    refine ⟨fun h => ?_, fun h => (by cases h)⟩
    have := i2 e
    rw [h, (cnt_full n h6 (2 ^ n - 1) (by omega)).mpr rfl] at this
    omega
  | some u =>
    obtain ⟨a1, a2, a3⟩ := i1 u e
    refine ⟨fun _ => rfl, fun _ => ?_⟩
    rw [a1]
    exact (cnt_full n h6 u a3).mp (by omega)
/-- the last t digits are as told, apart, and not among u -/
def dst (n m u t : Nat) : Prop := (∀ i : Nat, i < t → m / 6 ^ i % 6 < n ∧ okU u (m / 6 ^ i % 6) = true) ∧ ∀ i j : Nat, i < j → j < t → ¬ m / 6 ^ i % 6 = m / 6 ^ j % 6
theorem dg_low {m r i : Nat} (h : i < r) : m % 6 ^ r / 6 ^ i % 6 = m / 6 ^ i % 6 := by
  obtain ⟨k, rfl⟩ : ∃ k, r = i + (k + 1) := ⟨r - i - 1, by omega⟩
  rw [Nat.pow_add, Nat.mod_mul_right_div_self, Nat.pow_succ, Nat.mul_comm, Nat.mod_mul_right_mod]
theorem valid_dst {n : Nat} (h6 : n ≤ 6) : ∀ r u m : Nat, u < 64 → m < 6 ^ r → (validN n r u m = true ↔ dst n m u r)
  | 0, u, m, hu, hm => by
    have : m = 0 := Nat.lt_one_iff.mp hm
    subst this
    exact ⟨fun _ => ⟨fun i hi => absurd hi (Nat.not_lt_zero i), fun i j _ hj => absurd hj (Nat.not_lt_zero j)⟩, fun _ => rfl⟩
  | r + 1, u, m, hu, hm => by
    have hp : 0 < 6 ^ r := Nat.pow_pos (by decide)
    have hd6 : m / 6 ^ r < 6 := by
      rw [Nat.pow_succ] at hm
      exact Nat.div_lt_of_lt_mul hm
    have hdm : m / 6 ^ r % 6 = m / 6 ^ r := Nat.mod_eq_of_lt hd6
    have hmk := mk_test u hu (m / 6 ^ r) hd6
    have ih := valid_dst h6 r (mkU u (m / 6 ^ r)) (m % 6 ^ r) (mk_step 0 (by decide) u hu _ hd6).2.1 (Nat.mod_lt _ hp)
    unfold validN
    rw [Bool.and_eq_true, Bool.and_eq_true, decide_eq_true_eq, ih]
    unfold dst
    constructor
    · rintro ⟨a1, a2, a3, a4⟩
      refine ⟨fun i hi => ?_, fun i j hij hj => ?_⟩
      · rcases Nat.lt_or_ge i r with z | z
        · have := a3 i z
          rw [dg_low z, hmk _ (Nat.mod_lt _ (by decide)), Bool.and_eq_true] at this
          exact ⟨this.1, this.2.1⟩
        · rw [show i = r by omega, hdm]
          exact ⟨a1, a2⟩
      · rcases Nat.lt_or_ge j r with z | z
        · have := a4 i j hij z
          rw [dg_low z, dg_low (show i < r by omega)] at this
          exact this
        · have hir : i < r := by omega
          have := a3 i hir
          rw [dg_low hir, hmk _ (Nat.mod_lt _ (by decide)), Bool.and_eq_true, decide_eq_true_eq] at this
          rw [show j = r by omega, hdm]
          exact this.2.2
    · rintro ⟨a3, a4⟩
      have ar := a3 r (by omega)
      rw [hdm] at ar
      refine ⟨ar.1, ar.2, fun i hi => ?_, fun i j hij hj => ?_⟩
      · have := a3 i (by omega)
        have h2 := a4 i r hi (by omega)
        rw [hdm] at h2
        rw [dg_low hi, hmk _ (Nat.mod_lt _ (by decide)), Bool.and_eq_true, decide_eq_true_eq]
        exact ⟨this.1, this.2, h2⟩
      · rw [dg_low hj, dg_low (show i < r by omega)]
        exact a4 i j hij (by omega)
theorem rd_dst {n m : Nat} (h6 : n ≤ 6) : ∀ t : Nat, ((rdU n m t).isSome = true ↔ dst n m 0 t) ∧ ∀ u : Nat, rdU n m t = some u → u < 64 ∧ ∀ s : Nat, s < 6 → (okU u s = true ↔ ∀ i : Nat, i < t → ¬ m / 6 ^ i % 6 = s)
  | 0 => ⟨⟨fun _ => ⟨fun i hi => absurd hi (Nat.not_lt_zero i), fun i j _ hj => absurd hj (Nat.not_lt_zero j)⟩, fun _ => rfl⟩, fun u h => by cases h; exact ⟨by decide, fun s _ => ⟨fun _ i hi => absurd hi (Nat.not_lt_zero i), fun _ => by simp [okU]⟩⟩⟩
  | t + 1 => by
    obtain ⟨i1, i2⟩ := rd_dst (m := m) h6 t
    have hd6 : m / 6 ^ t % 6 < 6 := Nat.mod_lt _ (by decide)
    cases e : rdU n m t with
    | none =>
      have hr : rdU n m (t + 1) = none := by
        conv => lhs; unfold rdU
        rw [e]
      rw [hr]
      refine ⟨⟨fun h => (by cases h), fun h => ?_⟩, fun u h => (by cases h)⟩
      have : dst n m 0 t := ⟨fun i hi => h.1 i (by omega), fun i j hij hj => h.2 i j hij (by omega)⟩
      have := i1.mpr this
      rw [e] at this
      cases this
    | some v =>
      obtain ⟨v1, v2⟩ := i2 v e
      have hst := i1.mp (by rw [e]; rfl)
      by_cases q : m / 6 ^ t % 6 < n ∧ okU v (m / 6 ^ t % 6) = true
      · have hr : rdU n m (t + 1) = some (mkU v (m / 6 ^ t % 6)) := by
          conv => lhs; unfold rdU
          rw [e]
          exact if_pos q
        rw [hr]
        have hq := (v2 _ hd6).mp q.2
        refine ⟨⟨fun _ => ⟨fun i hi => ?_, fun i j hij hj => ?_⟩, fun _ => rfl⟩, fun u h => ?_⟩
        · rcases Nat.lt_or_ge i t with z | z
          · exact hst.1 i z
          · rw [show i = t by omega]
            exact ⟨q.1, by simp [okU]⟩
        · rcases Nat.lt_or_ge j t with z | z
          · exact hst.2 i j hij z
          · rw [show j = t by omega]
            exact hq i (by omega)
        · cases h
          refine ⟨(mk_step 0 (by decide) v v1 _ hd6).2.1, fun s hs => ?_⟩
          rw [mk_test v v1 _ hd6 s hs, Bool.and_eq_true, decide_eq_true_eq, v2 s hs]
          constructor
          · rintro ⟨b1, b2⟩ i hi
            rcases Nat.lt_or_ge i t with z | z
            · exact b1 i z
            · rw [show i = t by omega]
              exact fun z => b2 z.symm
          · intro b
            exact ⟨fun i hi => b i (by omega), fun z => b t (by omega) z.symm⟩
      · have hr : rdU n m (t + 1) = none := by
          conv => lhs; unfold rdU
          rw [e]
          exact if_neg q
        rw [hr]
        refine ⟨⟨fun h => (by cases h), fun h => ?_⟩, fun u h => (by cases h)⟩
        exact absurd ⟨(h.1 t (by omega)).1, (v2 _ hd6).mpr fun i hi => h.2 i t hi (by omega)⟩ q
theorem rd_valid {n m : Nat} (h6 : n ≤ 6) (hm : m < 6 ^ n) : (rdU n m n).isSome = true ↔ validN n n 0 m = true := by
  rw [(rd_dst h6 n).1, valid_dst h6 n 0 m (by decide) hm]
theorem se_valid {n m : Nat} (h6 : n ≤ 6) (hm : m < 6 ^ n) : seU m n = 2 ^ n - 1 ↔ validN n n 0 m = true := by
  rw [se_full (by omega), rd_valid h6 hm]
theorem fb_skip {ok : Nat → Bool} {c : Nat → Nat} {k : Nat} (h : ok k = false) : fbU ok c (k + 1) = fbU ok c k := by
  conv => lhs; unfold fbU
  rw [h]
  exact if_neg (by decide)
theorem fb_new {ok : Nat → Bool} {c : Nat → Nat} {k : Nat} (h : ok k = true) (e : fbU ok c k = none) : fbU ok c (k + 1) = some k := by
  conv => lhs; unfold fbU
  rw [e]
  exact if_pos h
theorem fb_take {ok : Nat → Bool} {c : Nat → Nat} {k b : Nat} (h : ok k = true) (e : fbU ok c k = some b) (z : c k < c b) : fbU ok c (k + 1) = some k := by
  conv => lhs; unfold fbU
  rw [if_pos h, e]
  exact if_pos z
theorem fb_keep {ok : Nat → Bool} {c : Nat → Nat} {k b : Nat} (h : ok k = true) (e : fbU ok c k = some b) (z : ¬ c k < c b) : fbU ok c (k + 1) = some b := by
  conv => lhs; unfold fbU
  rw [if_pos h, e]
  exact if_neg z
theorem oI_none {o : Option Nat} (hb : ∀ b, o = some b → b < 2 ^ 31) (h : oI o = -9) : o = none := by
  cases o with
  | none => rfl
  | some b => exact absurd h (nI_ne9 (hb b rfl))
theorem oI_some {o : Option Nat} (h : ¬ oI o = -9) : ∃ b, o = some b := by
  cases o with
  | none => exact absurd rfl h
  | some b => exact ⟨b, rfl⟩
theorem oI_in {o : Option Nat} {c : Int32} (h : 0 ≤ oI o ∧ oI o < c) : ∃ b, o = some b := by
  cases o with
  | none => exact absurd h.1 (by decide)
  | some b => exact ⟨b, rfl⟩
theorem i_oror {x y : Int32} : (x ||| y) ||| y = x ||| y := by
  apply Int32.toBitVec_inj.mp
  simp only [Int32.toBitVec_or]
  rw [BitVec.or_assoc, BitVec.or_self]
theorem i_orswap {x y z : Int32} : (x ||| y) ||| z = (x ||| z) ||| y := by
  apply Int32.toBitVec_inj.mp
  simp only [Int32.toBitVec_or]
  rw [BitVec.or_assoc, BitVec.or_comm y.toBitVec, ← BitVec.or_assoc]
/-- what the class's orders stand on -/
def envC (σ : wSt) (n : Nat) (w : Nat → Nat → Nat → Nat) : Prop := σ.1 1 0 5 = nI n ∧ n ≤ 6 ∧ (∀ k : Nat, k < n → rng12 (σ.1 6 0 k)) ∧ ∀ u a b : Nat, u < 2 ^ n → a < n → b < n → stepF (σ.1 1 0 0) (σ.1 1 0 1) (σ.1 1 0 2) (linesU (σ.1 6 0) (nI u) n) (σ.1 6 0 a) (σ.1 6 0 b) = nI (w u a b) ∧ w u a b ≤ 1000
theorem envC.to {σ τ : wSt} {n : Nat} {w : Nat → Nat → Nat → Nat} (h : envC σ n w) (h1 : τ.1 1 = σ.1 1) (h6 : τ.1 6 = σ.1 6) : envC τ n w := by
  unfold envC at h ⊢
  rw [h1, h6]
  exact h
theorem lines_mk {f : Nat → Int32} {u b : Nat} (hu : u < 64) (hb : b < 6) : ∀ k : Nat, k ≤ 6 → linesU f (nI (mkU u b)) k = if b < k then linesU f (nI u) k ||| f b else linesU f (nI u) k
  | 0, _ => (if_neg (Nat.not_lt_zero b)).symm
  | k + 1, hk => by
    have ih := lines_mk (f := f) hu hb k (by omega)
    have h1 := has_t (u := u) (s := k) hu (by omega)
    have h2 := has_t (u := mkU u b) (s := k) (mk_step 0 (by decide) u hu b hb).2.1 (by omega)
    rw [mk_test u hu b hb k (by omega)] at h2
    by_cases e : k = b
    · subst e
      rw [if_pos (Nat.lt_succ_self k)]
      rw [linesU_t _ rfl (h2.mpr (by simp)), ih, if_neg (Nat.lt_irrefl k)]
      by_cases q : okU u k = false
      · rw [linesU_t _ rfl (h1.mpr q), i_oror]
      · rw [linesU_f _ rfl (fun z => q (h1.mp z))]
    · have hd : decide (¬ k = b) = true := decide_eq_true e
      rw [hd, Bool.and_true] at h2
      have hlt : (b < k + 1) ↔ (b < k) := by omega
      by_cases q : okU u k = false
      · rw [linesU_t _ rfl (h2.mpr q), ih, linesU_t _ rfl (h1.mpr q)]
        by_cases z : b < k
        · rw [if_pos z, if_pos (by omega), i_orswap]
        · rw [if_neg z, if_neg (by omega)]
      · rw [linesU_f _ rfl (fun z => q (h2.mp z)), ih, linesU_f _ rfl (fun z => q (h1.mp z))]
        by_cases z : b < k
        · rw [if_pos z, if_pos (by omega)]
        · rw [if_neg z, if_neg (by omega)]
