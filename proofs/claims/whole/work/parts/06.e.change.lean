/-! PART 06.e: a lemma a method that changes something: class and model answer alike, and stay alike -/
theorem inN_up {m : Nat} {v : Int32} (hm : m < 8) (h : inN (nI m) v) : inN (nI (m + 1)) v := by
  obtain ⟨j, h1, h2⟩ := vp_ofI h (by omega)
  rw [h2]
  exact inN_nI (by omega) (by omega)
theorem wUp_in {s : wSt} {g i k k1 : Nat} {v : Int32} : (wUp s g i k v).1 g i k1 = if k1 = k then v else s.1 g i k1 := by
  rw [wUp_at]
  by_cases q : k1 = k
  · rw [if_pos ⟨rfl, rfl, q⟩, if_pos q]
  · rw [if_neg (fun z => q z.2.2), if_neg q]
theorem wUp_col {s : wSt} {g i k i1 : Nat} {v : Int32} : (wUp s g i k v).1 g i1 k = if i1 = i then v else s.1 g i1 k := by
  rw [wUp_at]
  by_cases q : i1 = i
  · rw [if_pos ⟨rfl, q, rfl⟩, if_pos q]
  · rw [if_neg (fun z => q z.2.1), if_neg q]
theorem sim_state {w : wD} (hw : wOK w) {σ : wSt} (h : wSim σ) (a b c : Int32) : ∃ P : Int32 → wSt → Prop, MI w yX5_state cX5_state 4 (some .int) 2 45 [.ref (w.2.2.2.1 0 0), .int a, .int b, .int c] σ P ∧ ∀ r τ, P r τ → ∃ P2 : Int32 → wSt → Prop, MI w yX6_state cX6_state 4 (some .int) 2 43 [.ref (w.2.2.2.1 20 0), .int a, .int b, .int c] τ P2 ∧ ∀ r2 τ2, P2 r2 τ2 → r = r2 ∧ wSim τ2 := by
  obtain ⟨n, l, m, cN, nm, ⟨⟨h6, hl20, hm8, hc8⟩, ⟨hn, hn2⟩, ⟨hl, hl2⟩, ⟨hm0, hm2⟩, ⟨hc, hc2⟩, hz⟩, ⟨f6, f12, f13⟩, ⟨⟨k0, k1, k2, k3, k4⟩, g0, g1, g2⟩, ⟨rL, rE⟩, hY, hM, ⟨hP, hP9⟩, ⟨hH, hH1, hH2, hH3, hH4, hH5⟩, ⟨f25, f26, f27, f28, rT, rG, rD⟩, h22⟩ := id h
  refine ⟨_, ok_X5_state hw σ a b c hn h6, fun r τ h1 => ?_⟩
  have fr : frL [6, 11, 1] σ τ ∧ τ.2 = σ.2 := by
    rcases h1 with ⟨-, rfl, -⟩ | ⟨-, (⟨-, rfl, -⟩ | ⟨-, rfl, -⟩)⟩
    · exact ⟨frL.rf, rfl⟩
    · exact ⟨frL.rf, rfl⟩
    · exact ⟨(((frL.rf.up (by decide)).up (by decide)).up (by decide)).up (by decide), rfl⟩
  obtain ⟨fr, fr0⟩ := fr
  refine ⟨_, ok_X6_state hw τ a b c (by rw [fr 20 (by decide)]; exact hz) (by rw [fr 20 (by decide)]; exact hn2) h6, fun r2 τ2 h2 => ?_⟩
  rcases h1 with ⟨y1, rfl, e1⟩ | ⟨y1, (⟨z1, rfl, e1⟩ | ⟨z1, rfl, e1⟩)⟩ <;> rcases h2 with ⟨y2, rfl, e2⟩ | ⟨y2, (⟨z2, rfl, e2⟩ | ⟨z2, rfl, e2⟩)⟩ <;> first | exact absurd y1 y2 | exact absurd y2 y1 | omega | exact ⟨by rw [e1, e2], h⟩ | skip
  refine ⟨by rw [e1, e2], n + 1, l, m, cN, nm, ⟨⟨by omega, by omega, by omega, by omega⟩, ⟨rfl, rfl⟩, ⟨hl, hl2⟩, ⟨hm0, hm2⟩, ⟨hc, hc2⟩, hz⟩, ?_, ⟨⟨k0, k1, k2, k3, k4⟩, g0, g1, g2⟩, ?_, ?_, hM, ⟨hP, hP9⟩, ⟨hH, hH1, hH2, hH3, hH4, hH5⟩, ⟨f25, f26, f27, f28, rT, rG, rD⟩, h22⟩
  · refine ⟨?_, f12, f13⟩
    funext k
    have e := congrFun f6 k
    by_cases q : k = n
    · subst q; simp [wUp_at]
    · simp [wUp_at, q, e]
  · refine ⟨fun k => ?_, rE⟩
    by_cases q : k = n
    · subst q
      have e : (wUp (wUp (wUp (wUp (wUp (wUp (wUp (wUp σ 6 0 k a) 11 k 0 b) 11 k 1 c) 1 0 5 (nI (k + 1))) 21 0 k a) 22 0 k b) 23 0 k c) 20 0 2 (nI (k + 1))).1 21 0 k = a := by simp [wUp_at]
      rw [e]
      exact y1.1
    · have e : (wUp (wUp (wUp (wUp (wUp (wUp (wUp (wUp σ 6 0 n a) 11 n 0 b) 11 n 1 c) 1 0 5 (nI (n + 1))) 21 0 n a) 22 0 n b) 23 0 n c) 20 0 2 (nI (n + 1))).1 21 0 k = σ.1 21 0 k := by simp [wUp_at, q]
      rw [e]
      exact rL k
  · intro k hk
    by_cases q : k = n
    · subst q
      constructor <;> simp [wUp_at]
    · have e := hY k (by omega)
      constructor
      · simp [wUp_at, q, e.1]
      · simp [wUp_at, q, e.2]
theorem sim_map {w : wD} (hw : wOK w) {σ : wSt} (h : wSim σ) (a b : Int32) : ∃ P : Int32 → wSt → Prop, MI w yX5_map cX5_map 3 (some .int) 1 22 [.ref (w.2.2.2.1 0 0), .int a, .int b] σ P ∧ ∀ r τ, P r τ → ∃ P2 : Int32 → wSt → Prop, MI w yX6_map cX6_map 3 (some .int) 1 22 [.ref (w.2.2.2.1 20 0), .int a, .int b] τ P2 ∧ ∀ r2 τ2, P2 r2 τ2 → r = r2 ∧ wSim τ2 := by
  obtain ⟨n, l, m, cN, nm, ⟨⟨h6, hl20, hm8, hc8⟩, ⟨hn, hn2⟩, ⟨hl, hl2⟩, ⟨hm0, hm2⟩, ⟨hc, hc2⟩, hz⟩, ⟨f6, f12, f13⟩, ⟨⟨k0, k1, k2, k3, k4⟩, g0, g1, g2⟩, ⟨rL, rE⟩, hY, hM, ⟨hP, hP9⟩, ⟨hH, hH1, hH2, hH3, hH4, hH5⟩, ⟨f25, f26, f27, f28, rT, rG, rD⟩, h22⟩ := id h
  refine ⟨_, ok_X5_map hw σ a b hc hc8, fun r τ h1 => ?_⟩
  have fr : frL [12, 13, 2] σ τ ∧ τ.2 = σ.2 := by
    rcases h1 with ⟨-, rfl, -⟩ | ⟨-, (⟨-, rfl, -⟩ | ⟨-, rfl, -⟩)⟩
    · exact ⟨frL.rf, rfl⟩
    · exact ⟨frL.rf, rfl⟩
    · exact ⟨((frL.rf.up (by decide)).up (by decide)).up (by decide), rfl⟩
  obtain ⟨fr, fr0⟩ := fr
  refine ⟨_, ok_X6_map hw τ a b (by rw [fr 20 (by decide)]; exact hz) (by rw [fr 20 (by decide)]; exact hc2) hc8, fun r2 τ2 h2 => ?_⟩
  rcases h1 with ⟨y1, rfl, e1⟩ | ⟨y1, (⟨z1, rfl, e1⟩ | ⟨z1, rfl, e1⟩)⟩ <;> rcases h2 with ⟨y2, rfl, e2⟩ | ⟨y2, (⟨z2, rfl, e2⟩ | ⟨z2, rfl, e2⟩)⟩ <;> first | exact absurd y1 y2 | exact absurd y2 y1 | omega | exact ⟨by rw [e1, e2], h⟩ | skip
  refine ⟨by rw [e1, e2], n, l, m, cN + 1, nm, ⟨⟨by omega, by omega, by omega, by omega⟩, ⟨hn, hn2⟩, ⟨hl, hl2⟩, ⟨hm0, hm2⟩, ⟨rfl, rfl⟩, hz⟩, ?_, ⟨⟨k0, k1, k2, k3, k4⟩, g0, g1, g2⟩, ?_, hY, hM, ⟨hP, hP9⟩, ⟨hH, hH1, hH2, hH3, hH4, hH5⟩, ⟨f25, f26, f27, f28, rT, rG, rD⟩, h22⟩
  · refine ⟨f6, ?_, ?_⟩
    · funext k
      have e := congrFun f12 k
      by_cases q : k = cN
      · subst q; simp [wUp_at]
      · simp [wUp_at, q, e]
    · funext k
      have e := congrFun f13 k
      by_cases q : k = cN
      · subst q; simp [wUp_at]
      · simp [wUp_at, q, e]
  · refine ⟨rL, fun k => ?_⟩
    by_cases q : k = cN
    · subst q
      have e : (wUp (wUp (wUp (wUp (wUp (wUp σ 12 0 k a) 13 0 k b) 2 0 4 (nI (k + 1))) 33 0 k a) 34 0 k b) 20 0 17 (nI (k + 1))).1 34 0 k = b := by simp [wUp_at]
      rw [e]
      exact y1.2
    · have e : (wUp (wUp (wUp (wUp (wUp (wUp σ 12 0 cN a) 13 0 cN b) 2 0 4 (nI (cN + 1))) 33 0 cN a) 34 0 cN b) 20 0 17 (nI (cN + 1))).1 34 0 k = σ.1 34 0 k := by simp [wUp_at, q]
      rw [e]
      exact rE k
theorem sim_mould {w : wD} (hw : wOK w) {σ : wSt} (h : wSim σ) (a b : Int32) : ∃ P : Int32 → wSt → Prop, MI w yX5_mould cX5_mould 3 (some .int) 2 41 [.ref (w.2.2.2.1 0 0), .int a, .int b] σ P ∧ ∀ r τ, P r τ → ∃ P2 : Int32 → wSt → Prop, MI w yX6_mould cX6_mould 3 (some .int) 2 43 [.ref (w.2.2.2.1 20 0), .int a, .int b] τ P2 ∧ ∀ r2 τ2, P2 r2 τ2 → r = r2 ∧ wSim τ2 := by
  obtain ⟨n, l, m, cN, nm, ⟨⟨h6, hl20, hm8, hc8⟩, ⟨hn, hn2⟩, ⟨hl, hl2⟩, ⟨hm0, hm2⟩, ⟨hc, hc2⟩, hz⟩, ⟨f6, f12, f13⟩, ⟨⟨k0, k1, k2, k3, k4⟩, g0, g1, g2⟩, ⟨rL, rE⟩, hY, hM, ⟨hP, hP9⟩, ⟨hH, hH1, hH2, hH3, hH4, hH5⟩, ⟨f25, f26, f27, f28, rT, rG, rD⟩, h22⟩ := id h
  refine ⟨_, ok_X5_mould hw σ a b hm0 hm8, fun r τ h1 => ?_⟩
  have fr : frL [17, 0] σ τ ∧ τ.2 = σ.2 := by
    rcases h1 with ⟨-, rfl, -⟩ | ⟨-, -, rfl, -⟩ | ⟨-, -, rfl, -⟩
    · exact ⟨frL.rf, rfl⟩
    · exact ⟨frL.rf, rfl⟩
    · exact ⟨((frL.rf.up (by decide)).up (by decide)).up (by decide), rfl⟩
  obtain ⟨fr, fr0⟩ := fr
  refine ⟨_, ok_X6_mould hw τ a b (by rw [fr 20 (by decide)]; exact hz) (by rw [fr 20 (by decide)]; exact hm2) hm8, fun r2 τ2 h2 => ?_⟩
  rcases h1 with ⟨y1, rfl, e1⟩ | ⟨y1, z1, rfl, e1⟩ | ⟨y1, z1, rfl, e1⟩ <;> rcases h2 with ⟨y2, rfl, e2⟩ | ⟨y2, z2, rfl, e2⟩ | ⟨y2, z2, rfl, e2⟩ <;> first | exact absurd y1 y2 | exact absurd y2 y1 | omega | exact ⟨by rw [e1, e2], h⟩ | skip
  refine ⟨by rw [e1, e2], n, l, m + 1, cN, nm, ⟨⟨by omega, by omega, by omega, by omega⟩, ⟨hn, hn2⟩, ⟨hl, hl2⟩, ⟨rfl, rfl⟩, ⟨hc, hc2⟩, hz⟩, ⟨f6, f12, f13⟩, ⟨⟨k0, k1, k2, k3, k4⟩, g0, g1, g2⟩, ⟨rL, rE⟩, hY, ?_, ⟨fun k hk => ?_, hP9⟩, ⟨hH, hH1, hH2, hH3, hH4, hH5⟩, ⟨f25, f26, f27, f28, rT, rG, rD⟩, h22⟩
  · intro k hk
    by_cases q : k = m
    · subst q
      have e1 : (wUp (wUp (wUp (wUp (wUp (wUp σ 17 k 0 a) 17 k 1 b) 0 0 5 (nI (k + 1))) 31 0 k a) 32 0 k b) 20 0 14 (nI (k + 1))).1 31 0 k = a := by simp [wUp_at]
      have e2 : (wUp (wUp (wUp (wUp (wUp (wUp σ 17 k 0 a) 17 k 1 b) 0 0 5 (nI (k + 1))) 31 0 k a) 32 0 k b) 20 0 14 (nI (k + 1))).1 32 0 k = b := by simp [wUp_at]
      rw [e1, e2]
      exact ⟨by simp [wUp_at], by simp [wUp_at], y1⟩
    · have e := hM k (by omega)
      have e1 : (wUp (wUp (wUp (wUp (wUp (wUp σ 17 m 0 a) 17 m 1 b) 0 0 5 (nI (m + 1))) 31 0 m a) 32 0 m b) 20 0 14 (nI (m + 1))).1 31 0 k = σ.1 31 0 k := by simp [wUp_at, q]
      have e2 : (wUp (wUp (wUp (wUp (wUp (wUp σ 17 m 0 a) 17 m 1 b) 0 0 5 (nI (m + 1))) 31 0 m a) 32 0 m b) 20 0 14 (nI (m + 1))).1 32 0 k = σ.1 32 0 k := by simp [wUp_at, q]
      rw [e1, e2]
      exact ⟨by simp [wUp_at, q, e.1], by simp [wUp_at, q, e.2.1], e.2.2⟩
  · obtain ⟨d1, d2, d3, d4⟩ := hP k hk
    exact ⟨d1, d2, d3.elim Or.inl (fun z => Or.inr (inN_up z1 z)), d4⟩
theorem sim_leaf {w : wD} (hw : wOK w) {σ : wSt} (h : wSim σ) (a b c d : Int32) : ∃ P : Int32 → wSt → Prop, MI w yX5_leaf cX5_leaf 5 (some .int) 1 24 [.ref (w.2.2.2.1 0 0), .int a, .int b, .int c, .int d] σ P ∧ ∀ r τ, P r τ → ∃ P2 : Int32 → wSt → Prop, MI w yX6_leaf cX6_leaf 5 (some .int) 1 22 [.ref (w.2.2.2.1 20 0), .int a, .int b, .int c, .int d] τ P2 ∧ ∀ r2 τ2, P2 r2 τ2 → r = r2 ∧ wSim τ2 := by
  obtain ⟨n, l, m, cN, nm, ⟨⟨h6, hl20, hm8, hc8⟩, ⟨hn, hn2⟩, ⟨hl, hl2⟩, ⟨hm0, hm2⟩, ⟨hc, hc2⟩, hz⟩, ⟨f6, f12, f13⟩, ⟨⟨k0, k1, k2, k3, k4⟩, g0, g1, g2⟩, ⟨rL, rE⟩, hY, hM, ⟨hP, hP9⟩, ⟨hH, hH1, hH2, hH3, hH4, hH5⟩, ⟨f25, f26, f27, f28, rT, rG, rD⟩, h22⟩ := id h
  refine ⟨_, ok_X5_leaf hw σ a b c d hl hl20, fun r τ h1 => ?_⟩
  have fr : frL [14, 0] σ τ ∧ τ.2 = σ.2 := by
    rcases h1 with ⟨-, rfl, -⟩ | ⟨-, -, rfl, -⟩ | ⟨-, -, rfl, -⟩
    · exact ⟨frL.rf, rfl⟩
    · exact ⟨frL.rf, rfl⟩
    · exact ⟨((((frL.rf.up (by decide)).up (by decide)).up (by decide)).up (by decide)).up (by decide), rfl⟩
  obtain ⟨fr, fr0⟩ := fr
  refine ⟨_, ok_X6_leaf hw τ a b c d (by rw [fr 20 (by decide)]; exact hz) (by rw [fr 20 (by decide)]; exact hl2) hl20, fun r2 τ2 h2 => ?_⟩
  rcases h1 with ⟨y1, rfl, e1⟩ | ⟨y1, z1, rfl, e1⟩ | ⟨y1, z1, rfl, e1⟩ <;> rcases h2 with ⟨y2, rfl, e2⟩ | ⟨y2, z2, rfl, e2⟩ | ⟨y2, z2, rfl, e2⟩ <;> first | exact absurd y1 y2 | exact absurd y2 y1 | omega | exact ⟨by rw [e1, e2], h⟩ | skip
  refine ⟨by rw [e1, e2], n, l + 1, m, cN, nm, ⟨⟨by omega, by omega, by omega, by omega⟩, ⟨hn, hn2⟩, ⟨rfl, rfl⟩, ⟨hm0, hm2⟩, ⟨hc, hc2⟩, hz⟩, ⟨f6, f12, f13⟩, ⟨⟨k0, k1, k2, k3, k4⟩, g0, g1, g2⟩, ⟨rL, rE⟩, hY, hM, ⟨fun k hk => ?_, fun k hk => ?_⟩, ⟨hH, hH1, hH2, hH3, hH4, hH5⟩, ?_, h22⟩
  · by_cases q : k = l
    · subst q
      have e := hP9 k (Nat.le_refl k)
      have u1 : (wUp (wUp (wUp (wUp (wUp (wUp (wUp (wUp (wUp (wUp (wUp (wUp σ 14 k 0 a) 14 k 1 b) 14 k 2 c) 14 k 3 d) 0 0 3 (nI (k + 1))) 25 0 k a) 26 0 k b) 27 0 k c) 28 0 k d) 29 0 k (-9)) 30 0 k (-9)) 20 0 7 (nI (k + 1))).1 29 0 k = -9 := by simp [wUp_at]
      have u2 : (wUp (wUp (wUp (wUp (wUp (wUp (wUp (wUp (wUp (wUp (wUp (wUp σ 14 k 0 a) 14 k 1 b) 14 k 2 c) 14 k 3 d) 0 0 3 (nI (k + 1))) 25 0 k a) 26 0 k b) 27 0 k c) 28 0 k d) 29 0 k (-9)) 30 0 k (-9)) 20 0 7 (nI (k + 1))).1 30 0 k = -9 := by simp [wUp_at]
      rw [u1, u2]
      exact ⟨by simp [wUp_at, e.1], by simp [wUp_at, e.2], Or.inl rfl, Or.inl rfl⟩
    · have e := hP k (by omega)
      have u1 : (wUp (wUp (wUp (wUp (wUp (wUp (wUp (wUp (wUp (wUp (wUp (wUp σ 14 l 0 a) 14 l 1 b) 14 l 2 c) 14 l 3 d) 0 0 3 (nI (l + 1))) 25 0 l a) 26 0 l b) 27 0 l c) 28 0 l d) 29 0 l (-9)) 30 0 l (-9)) 20 0 7 (nI (l + 1))).1 29 0 k = σ.1 29 0 k := by simp [wUp_at, q]
      have u2 : (wUp (wUp (wUp (wUp (wUp (wUp (wUp (wUp (wUp (wUp (wUp (wUp σ 14 l 0 a) 14 l 1 b) 14 l 2 c) 14 l 3 d) 0 0 3 (nI (l + 1))) 25 0 l a) 26 0 l b) 27 0 l c) 28 0 l d) 29 0 l (-9)) 30 0 l (-9)) 20 0 7 (nI (l + 1))).1 30 0 k = σ.1 30 0 k := by simp [wUp_at, q]
      rw [u1, u2]
      exact ⟨by simp [wUp_at, q, e.1], by simp [wUp_at, q, e.2.1], e.2.2⟩
  · have q : ¬ k = l := by omega
    have e := hP9 k (by omega)
    exact ⟨by simp [wUp_at, q, e.1], by simp [wUp_at, q, e.2]⟩
  · have v : ∀ k : Nat, (wUp (wUp (wUp (wUp (wUp (wUp (wUp (wUp (wUp (wUp (wUp (wUp σ 14 l 0 a) 14 l 1 b) 14 l 2 c) 14 l 3 d) 0 0 3 (nI (l + 1))) 25 0 l a) 26 0 l b) 27 0 l c) 28 0 l d) 29 0 l (-9)) 30 0 l (-9)) 20 0 7 (nI (l + 1))).1 25 0 k = (if k = l then a else σ.1 25 0 k) ∧ (wUp (wUp (wUp (wUp (wUp (wUp (wUp (wUp (wUp (wUp (wUp (wUp σ 14 l 0 a) 14 l 1 b) 14 l 2 c) 14 l 3 d) 0 0 3 (nI (l + 1))) 25 0 l a) 26 0 l b) 27 0 l c) 28 0 l d) 29 0 l (-9)) 30 0 l (-9)) 20 0 7 (nI (l + 1))).1 26 0 k = (if k = l then b else σ.1 26 0 k) := fun k => by
      by_cases q : k = l
      · subst q
        constructor <;> simp [wUp_at]
      · constructor <;> simp [wUp_at, q]
    refine ⟨fun k => ?_, fun k => ?_, fun k => ?_, fun k => ?_, fun k => ?_, fun k => ?_, fun k => ?_⟩
    · by_cases q : k = l
      · subst q; simp [wUp_at]
      · simp [wUp_at, q, f25 k]
    · by_cases q : k = l
      · subst q; simp [wUp_at]
      · simp [wUp_at, q, f26 k]
    · by_cases q : k = l
      · subst q; simp [wUp_at]
      · simp [wUp_at, q, f27 k]
    · by_cases q : k = l
      · subst q; simp [wUp_at]
      · simp [wUp_at, q, f28 k]
    · rw [(v k).1]
      split
      · exact y1.1
      · exact rT k
    · rw [(v k).2]
      split
      · exact y1.2.1
      · exact rG k
    · rw [(v k).1, (v k).2]
      split
      · exact y1.2.2.1
      · exact rD k
theorem sim_see {w : wD} (hw : wOK w) {σ : wSt} (h : wSim σ) (a b c : Int32) : ∃ P : Int32 → wSt → Prop, MI w yX5_see cX5_see 5 (some .int) 2 42 [.ref (w.2.2.2.1 0 0), .int a, .int b, .int c] σ P ∧ ∀ r τ, P r τ → ∃ P2 : Int32 → wSt → Prop, MI w yX6_see cX6_see 5 (some .int) 2 43 [.ref (w.2.2.2.1 20 0), .int a, .int b, .int c] τ P2 ∧ ∀ r2 τ2, P2 r2 τ2 → r = r2 ∧ wSim τ2 := by
  obtain ⟨n, l, m, cN, nm, ⟨⟨h6, hl20, hm8, hc8⟩, ⟨hn, hn2⟩, ⟨hl, hl2⟩, ⟨hm0, hm2⟩, ⟨hc, hc2⟩, hz⟩, ⟨f6, f12, f13⟩, ⟨⟨k0, k1, k2, k3, k4⟩, g0, g1, g2⟩, ⟨rL, rE⟩, hY, hM, ⟨hP, hP9⟩, ⟨hH, hH1, hH2, hH3, hH4, hH5⟩, ⟨f25, f26, f27, f28, rT, rG, rD⟩, h22⟩ := id h
  refine ⟨_, ok_X5_see hw σ a b c hl hl20, fun r τ h1 => ?_⟩
  have fr : frL [14] σ τ ∧ τ.2 = σ.2 := by
    rcases h1 with ⟨-, rfl, -⟩ | ⟨-, rfl, -⟩
    · exact ⟨frL.rf, rfl⟩
    · exact ⟨(frL.rf.up (by decide)).up (by decide), rfl⟩
  obtain ⟨fr, fr0⟩ := fr
  refine ⟨_, ok_X6_see hw τ a b c (by rw [fr 20 (by decide)]; exact hz) (by rw [fr 20 (by decide)]; exact hl2) hl20, fun r2 τ2 h2 => ?_⟩
  rw [hl] at h1
  rw [fr 20 (by decide), fr 25 (by decide), fr 26 (by decide), hl2] at h2
  rcases h1 with ⟨y1, rfl, e1⟩ | ⟨y1, rfl, e1⟩ <;> rcases h2 with ⟨y2, rfl, e2⟩ | ⟨y2, rfl, e2⟩
  · exact ⟨by rw [e1, e2], h⟩
  · exact absurd y2 y1
  · exact absurd y1 y2
  rw [see_T, see_G]
  generalize a.toNatClampNeg = i at e1 e2 ⊢
  have hT := f25 i
  have hG := f26 i
  have v : ∀ k : Nat, (wUp (wUp (wUp (wUp σ 14 i 0 (lookT (σ.1 14 i 0) b c)) 14 i 1 (lookG (σ.1 14 i 1) b c)) 25 0 i (lookT (σ.1 25 0 i) b c)) 26 0 i (lookG (σ.1 26 0 i) b c)).1 25 0 k = (if k = i then lookT (σ.1 25 0 i) b c else σ.1 25 0 k) ∧ (wUp (wUp (wUp (wUp σ 14 i 0 (lookT (σ.1 14 i 0) b c)) 14 i 1 (lookG (σ.1 14 i 1) b c)) 25 0 i (lookT (σ.1 25 0 i) b c)) 26 0 i (lookG (σ.1 26 0 i) b c)).1 26 0 k = (if k = i then lookG (σ.1 26 0 i) b c else σ.1 26 0 k) := fun k => by
    by_cases q : k = i
    · subst q
      constructor <;> simp [wUp_at]
    · constructor <;> simp [wUp_at, q]
  refine ⟨by rw [e1, e2, see_F (rD i), hT, hG], n, l, m, cN, nm, ⟨⟨by omega, by omega, by omega, by omega⟩, ⟨hn, hn2⟩, ⟨hl, hl2⟩, ⟨hm0, hm2⟩, ⟨hc, hc2⟩, hz⟩, ⟨f6, f12, f13⟩, ⟨⟨k0, k1, k2, k3, k4⟩, g0, g1, g2⟩, ⟨rL, rE⟩, hY, hM, ⟨fun k hk => ?_, fun k hk => ?_⟩, ⟨hH, hH1, hH2, hH3, hH4, hH5⟩, ?_, h22⟩
  · have e := hP k hk
    exact ⟨by simp [wUp_at, e.1], by simp [wUp_at, e.2.1], e.2.2⟩
  · have e := hP9 k hk
    exact ⟨by simp [wUp_at, e.1], by simp [wUp_at, e.2]⟩
  · refine ⟨fun k => ?_, fun k => ?_, fun k => ?_, fun k => ?_, fun k => ?_, fun k => ?_, fun k => ?_⟩
    · by_cases q : k = i
      · subst q; simp [wUp_at, hT]
      · simp [wUp_at, q, f25 k]
    · by_cases q : k = i
      · subst q; simp [wUp_at, hG]
      · simp [wUp_at, q, f26 k]
    · simp [wUp_at, f27 k]
    · simp [wUp_at, f28 k]
    · rw [(v k).1]
      split
      · exact look_rngT _ (rT i) y1.2.1
      · exact rT k
    · rw [(v k).2]
      split
      · exact look_rngG _ (rG i) y1.2.1
      · exact rG k
    · rw [(v k).1, (v k).2]
      split
      · exact look_dis _ _ (rD i)
      · exact rD k
theorem sim_paper {w : wD} (hw : wOK w) {σ : wSt} (h : wSim σ) (a b : Int32) : ∃ P : Int32 → wSt → Prop, MI w yX5_paper cX5_paper 4 (some .int) 1 21 [.ref (w.2.2.2.1 0 0), .int a, .int b] σ P ∧ ∀ r τ, P r τ → ∃ P2 : Int32 → wSt → Prop, MI w yX6_paper cX6_paper 4 (some .int) 2 43 [.ref (w.2.2.2.1 20 0), .int a, .int b] τ P2 ∧ ∀ r2 τ2, P2 r2 τ2 → r = r2 ∧ wSim τ2 := by
  obtain ⟨n, l, m, cN, nm, ⟨⟨h6, hl20, hm8, hc8⟩, ⟨hn, hn2⟩, ⟨hl, hl2⟩, ⟨hm0, hm2⟩, ⟨hc, hc2⟩, hz⟩, ⟨f6, f12, f13⟩, ⟨⟨k0, k1, k2, k3, k4⟩, g0, g1, g2⟩, ⟨rL, rE⟩, hY, hM, ⟨hP, hP9⟩, ⟨hH, hH1, hH2, hH3, hH4, hH5⟩, ⟨f25, f26, f27, f28, rT, rG, rD⟩, h22⟩ := id h
  refine ⟨_, ok_X5_paper hw σ a b hl hl20, fun r τ h1 => ?_⟩
  have fr : frL [14] σ τ ∧ τ.2 = σ.2 := by
    rcases h1 with ⟨-, rfl, -⟩ | ⟨-, rfl, -⟩
    · exact ⟨frL.rf, rfl⟩
    · exact ⟨frL.rf.up (by decide), rfl⟩
  obtain ⟨fr, fr0⟩ := fr
  refine ⟨_, ok_X6_paper hw τ a b (by rw [fr 20 (by decide)]; exact hz) (by rw [fr 20 (by decide)]; exact hl2) hl20 (by rw [fr 20 (by decide)]; exact hm2) hm8, fun r2 τ2 h2 => ?_⟩
  rw [hl, hm0] at h1
  rw [fr 20 (by decide), fr 29 (by decide), hl2, hm2] at h2
  rcases h1 with ⟨y1, rfl, e1⟩ | ⟨y1, rfl, e1⟩ <;> rcases h2 with ⟨y2, rfl, e2⟩ | ⟨y2, rfl, e2⟩
  · exact ⟨by rw [e1, e2], h⟩
  · exact absurd y2 y1
  · exact absurd y1 y2
  have hi := vp_ofl y1.1 (by omega)
  generalize a.toNatClampNeg = i at e1 e2 hi ⊢
  obtain ⟨d1, d2, d3, d4⟩ := hP i hi
  have u : ∀ k : Nat, (wUp (wUp σ 14 i 4 b) 29 0 i b).1 29 0 k = (if k = i then b else σ.1 29 0 k) ∧ (wUp (wUp σ 14 i 4 b) 29 0 i b).1 30 0 k = (σ.1 30 0 k) := fun k => by
    by_cases q : k = i
    · subst q
      constructor <;> simp [wUp_at]
    · constructor <;> simp [wUp_at, q]
  refine ⟨by rw [e1, e2, d1], n, l, m, cN, nm, ⟨⟨by omega, by omega, by omega, by omega⟩, ⟨hn, hn2⟩, ⟨hl, hl2⟩, ⟨hm0, hm2⟩, ⟨hc, hc2⟩, hz⟩, ⟨f6, f12, f13⟩, ⟨⟨k0, k1, k2, k3, k4⟩, g0, g1, g2⟩, ⟨rL, rE⟩, hY, hM, ⟨fun k hk => ?_, fun k hk => ?_⟩, ⟨hH, hH1, hH2, hH3, hH4, hH5⟩, ?_, h22⟩
  · have e := hP k hk
    rw [(u k).1, (u k).2]
    by_cases q : k = i
    · subst q
      rw [if_pos rfl]
      exact ⟨by simp [wUp_at], by simp [wUp_at, e.2.1], y1.2, e.2.2.2⟩
    · rw [if_neg q]
      exact ⟨by simp [wUp_at, q, e.1], by simp [wUp_at, q, e.2.1], e.2.2⟩
  · have e := hP9 k hk
    have q : ¬ k = i := by omega
    exact ⟨by simp [wUp_at, q, e.1], by simp [wUp_at, q, e.2]⟩
  · exact ⟨fun k => by simp [wUp_at, f25 k], fun k => by simp [wUp_at, f26 k], fun k => by simp [wUp_at, f27 k], fun k => by simp [wUp_at, f28 k], rT, rG, rD⟩
theorem sim_imprint {w : wD} (hw : wOK w) {σ : wSt} (h : wSim σ) (a b : Int32) : ∃ P : Int32 → wSt → Prop, MI w yX5_imprint cX5_imprint 4 (some .int) 1 21 [.ref (w.2.2.2.1 0 0), .int a, .int b] σ P ∧ ∀ r τ, P r τ → ∃ P2 : Int32 → wSt → Prop, MI w yX6_imprint cX6_imprint 4 (some .int) 2 43 [.ref (w.2.2.2.1 20 0), .int a, .int b] τ P2 ∧ ∀ r2 τ2, P2 r2 τ2 → r = r2 ∧ wSim τ2 := by
  obtain ⟨n, l, m, cN, nm, ⟨⟨h6, hl20, hm8, hc8⟩, ⟨hn, hn2⟩, ⟨hl, hl2⟩, ⟨hm0, hm2⟩, ⟨hc, hc2⟩, hz⟩, ⟨f6, f12, f13⟩, ⟨⟨k0, k1, k2, k3, k4⟩, g0, g1, g2⟩, ⟨rL, rE⟩, hY, hM, ⟨hP, hP9⟩, ⟨hH, hH1, hH2, hH3, hH4, hH5⟩, ⟨f25, f26, f27, f28, rT, rG, rD⟩, h22⟩ := id h
  refine ⟨_, ok_X5_imprint hw σ a b hl hl20, fun r τ h1 => ?_⟩
  have fr : frL [14] σ τ ∧ τ.2 = σ.2 := by
    rcases h1 with ⟨-, rfl, -⟩ | ⟨-, rfl, -⟩
    · exact ⟨frL.rf, rfl⟩
    · exact ⟨frL.rf.up (by decide), rfl⟩
  obtain ⟨fr, fr0⟩ := fr
  refine ⟨_, ok_X6_imprint hw τ a b (by rw [fr 20 (by decide)]; exact hz) (by rw [fr 20 (by decide)]; exact hl2) hl20, fun r2 τ2 h2 => ?_⟩
  rw [hl] at h1
  rw [fr 20 (by decide), fr 30 (by decide), hl2] at h2
  rcases h1 with ⟨y1, rfl, e1⟩ | ⟨y1, rfl, e1⟩ <;> rcases h2 with ⟨y2, rfl, e2⟩ | ⟨y2, rfl, e2⟩
  · exact ⟨by rw [e1, e2], h⟩
  · exact absurd y2 y1
  · exact absurd y1 y2
  have hi := vp_ofl y1.1 (by omega)
  generalize a.toNatClampNeg = i at e1 e2 hi ⊢
  obtain ⟨d1, d2, d3, d4⟩ := hP i hi
  have u : ∀ k : Nat, (wUp (wUp σ 14 i 5 b) 30 0 i b).1 29 0 k = (σ.1 29 0 k) ∧ (wUp (wUp σ 14 i 5 b) 30 0 i b).1 30 0 k = (if k = i then b else σ.1 30 0 k) := fun k => by
    by_cases q : k = i
    · subst q
      constructor <;> simp [wUp_at]
    · constructor <;> simp [wUp_at, q]
  refine ⟨by rw [e1, e2, d2], n, l, m, cN, nm, ⟨⟨by omega, by omega, by omega, by omega⟩, ⟨hn, hn2⟩, ⟨hl, hl2⟩, ⟨hm0, hm2⟩, ⟨hc, hc2⟩, hz⟩, ⟨f6, f12, f13⟩, ⟨⟨k0, k1, k2, k3, k4⟩, g0, g1, g2⟩, ⟨rL, rE⟩, hY, hM, ⟨fun k hk => ?_, fun k hk => ?_⟩, ⟨hH, hH1, hH2, hH3, hH4, hH5⟩, ?_, h22⟩
  · have e := hP k hk
    rw [(u k).1, (u k).2]
    by_cases q : k = i
    · subst q
      rw [if_pos rfl]
      exact ⟨by simp [wUp_at, e.1], by simp [wUp_at], e.2.2.1, y1.2⟩
    · rw [if_neg q]
      exact ⟨by simp [wUp_at, q, e.1], by simp [wUp_at, q, e.2.1], e.2.2⟩
  · have e := hP9 k hk
    have q : ¬ k = i := by omega
    exact ⟨by simp [wUp_at, q, e.1], by simp [wUp_at, q, e.2]⟩
  · exact ⟨fun k => by simp [wUp_at, f25 k], fun k => by simp [wUp_at, f26 k], fun k => by simp [wUp_at, f27 k], fun k => by simp [wUp_at, f28 k], rT, rG, rD⟩
theorem sim_price {w : wD} (hw : wOK w) {σ : wSt} (h : wSim σ) (a b : Int32) : ∃ P : Int32 → wSt → Prop, MI w yX5_price cX5_price 3 (some .int) 5 110 [.ref (w.2.2.2.1 0 0), .int a, .int b] σ P ∧ ∀ r τ, P r τ → ∃ P2 : Int32 → wSt → Prop, MI w yX6_price cX6_price 5 (some .int) 2 43 [.ref (w.2.2.2.1 20 0), .int a, .int b] τ P2 ∧ ∀ r2 τ2, P2 r2 τ2 → r = r2 ∧ wSim τ2 := by
  obtain ⟨n, l, m, cN, nm, ⟨⟨h6, hl20, hm8, hc8⟩, ⟨hn, hn2⟩, ⟨hl, hl2⟩, ⟨hm0, hm2⟩, ⟨hc, hc2⟩, hz⟩, ⟨f6, f12, f13⟩, ⟨⟨k0, k1, k2, k3, k4⟩, g0, g1, g2⟩, ⟨rL, rE⟩, hY, hM, ⟨hP, hP9⟩, ⟨hH, hH1, hH2, hH3, hH4, hH5⟩, ⟨f25, f26, f27, f28, rT, rG, rD⟩, h22⟩ := id h
  refine ⟨_, ok_X5_price hw σ a b hn h6 hl hl20, fun r τ h1 => ?_⟩
  have fr : τ.1 = σ.1 ∧ τ.2 1 = σ.2 1 := by
    rcases h1 with ⟨-, rfl, -⟩ | ⟨-, -, rfl, -⟩ | ⟨-, -, rfl, -⟩ | ⟨-, -, rfl, -⟩ <;> exact ⟨rfl, rfl⟩
  refine ⟨_, ok_X6_price hw τ a b (by rw [fr.1]; exact hz) (n := n) (by rw [fr.1]; exact hn2) h6 (l := l) (by rw [fr.1]; exact hl2) hl20, fun r2 τ2 h2 => ?_⟩
  rw [hl, f6, f25, f26, f27, f28] at h1
  rw [fr.1, fr.2, hl2] at h2
  have m0 : (0 : Int32) ≠ 1 := by decide
  have m1 : (0 : Int32) ≠ 2 := by decide
  have m2 : (1 : Int32) ≠ 2 := by decide
  have fin : ∀ u v : Int64, u = v → wSim (wUpL (wUpL σ 0 u) 1 v) := fun u v e => by
    subst e
    exact ⟨n, l, m, cN, nm, ⟨⟨h6, hl20, hm8, hc8⟩, ⟨hn, hn2⟩, ⟨hl, hl2⟩, ⟨hm0, hm2⟩, ⟨hc, hc2⟩, hz⟩, ⟨f6, f12, f13⟩, ⟨⟨k0, k1, k2, k3, k4⟩, g0, g1, g2⟩, ⟨rL, rE⟩, hY, hM, ⟨hP, hP9⟩, ⟨hH, hH1, hH2, hH3, hH4, hH5⟩, ⟨f25, f26, f27, f28, rT, rG, rD⟩, rfl⟩
  rcases h1 with ⟨y1, rfl, e1⟩ | ⟨y1, z1, rfl, e1⟩ | ⟨y1, z1, rfl, e1⟩ | ⟨y1, z1, rfl, e1⟩ <;> rcases h2 with ⟨y2, rfl, e2⟩ | ⟨y2, z2, rfl, e2⟩ | ⟨y2, z2, rfl, e2⟩ | ⟨y2, z2, rfl, e2⟩ <;> first | exact absurd y1 y2 | exact absurd y2 y1 | exact absurd (z1.symm.trans z2) (by decide) | exact ⟨by rw [e1, e2], h⟩ | skip
  · exact ⟨by rw [e1, e2], fin _ _ (by rw [h22])⟩
  · exact ⟨by rw [e1, e2], fin _ _ (by rw [h22, Int64.add_assoc]; rfl)⟩
  · have hi := vp_ofl y1.1 (by omega)
    have e15 : σ.1 15 b.toNatClampNeg 1 = σ.1 35 0 b.toNatClampNeg := (hH1 _ (by omega)).trans (hH _ (by omega)).1.symm
    exact ⟨by rw [e1, e2, e15], fin _ _ (by rw [h22, Int64.add_assoc, Int64.add_assoc]; rfl)⟩
theorem sim_set {w : wD} (hw : wOK w) {σ : wSt} (h : wSim σ) (a b : Int32) : ∃ P : Int32 → wSt → Prop, MI w yX5_set cX5_set 4 (some .int) 1 22 [.ref (w.2.2.2.1 0 0), .int a, .int b] σ P ∧ ∀ r τ, P r τ → ∃ P2 : Int32 → wSt → Prop, MI w yX6_set cX6_set 4 (some .int) 1 22 [.ref (w.2.2.2.1 20 0), .int a, .int b] τ P2 ∧ ∀ r2 τ2, P2 r2 τ2 → r = r2 ∧ wSim τ2 := by
  obtain ⟨n, l, m, cN, nm, ⟨⟨h6, hl20, hm8, hc8⟩, ⟨hn, hn2⟩, ⟨hl, hl2⟩, ⟨hm0, hm2⟩, ⟨hc, hc2⟩, hz⟩, ⟨f6, f12, f13⟩, ⟨⟨k0, k1, k2, k3, k4⟩, g0, g1, g2⟩, ⟨rL, rE⟩, hY, hM, ⟨hP, hP9⟩, ⟨hH, hH1, hH2, hH3, hH4, hH5⟩, ⟨f25, f26, f27, f28, rT, rG, rD⟩, h22⟩ := id h
  have q2 : s2 σ := ⟨f6, f12, f13⟩
  have q4 : s4 σ := ⟨rL, rE⟩
  have q5 : s5 σ n := hY
  have q6 : s6 σ m := hM
  have q7 : s7 σ l m := ⟨hP, hP9⟩
  have q8 : s8 σ nm := ⟨hH, hH1, hH2, hH3, hH4, hH5⟩
  have q9 : s9 σ := ⟨f25, f26, f27, f28, rT, rG, rD⟩
  refine ⟨_, ok_X5_set hw σ a b, fun r τ h1 => ?_⟩
  have hz2 : τ.1 20 0 0 = 0 := by
    rcases h1 with ⟨-, rfl, -⟩ | ⟨-, rfl, -⟩
    · exact hz
    · split
      · exact hz
      · split
        · exact hz
        · split
          · exact hz
          · split <;> exact hz
  refine ⟨_, ok_X6_set hw τ a b hz2, fun r2 τ2 h2 => ?_⟩
  rcases h1 with ⟨y1, rfl, e1⟩ | ⟨y1, t1, e1⟩ <;> rcases h2 with ⟨y2, rfl, e2⟩ | ⟨y2, z2, rfl, e2⟩
  · exact ⟨by rw [e1, e2], h⟩
  · exact absurd y2 y1
  · exact absurd y1 y2
  · have ha : a = 0 ∨ a = 1 ∨ a = 2 ∨ a = 3 ∨ a = 4 := by
      have u1 := Int32.le_iff_toInt_le.mp z2.1
      have u2 := Int32.le_iff_toInt_le.mp z2.2
      rw [← Int32.toInt_inj, ← Int32.toInt_inj, ← Int32.toInt_inj, ← Int32.toInt_inj, ← Int32.toInt_inj]
      have v0 : (0 : Int32).toInt = 0 := rfl
      have v1 : (1 : Int32).toInt = 1 := rfl
      have v2 : (2 : Int32).toInt = 2 := rfl
      have v3 : (3 : Int32).toInt = 3 := rfl
      have v4 : (4 : Int32).toInt = 4 := rfl
      omega
    rcases ha with rfl | rfl | rfl | rfl | rfl
    · have t2 : wUp σ 1 0 0 b = τ := t1
      subst t2
      have frT : frL [1, 2, 24] σ (wUp (wUp σ 1 0 0 b) 24 0 0 b) := (frL.rf.up (by decide)).up (by decide)
      refine ⟨?_, n, l, m, cN, nm, ⟨⟨by omega, by omega, by omega, by omega⟩, ⟨hn, hn2⟩, ⟨hl, hl2⟩, ⟨hm0, hm2⟩, ⟨hc, hc2⟩, hz⟩, q2.fr frT (by decide), ⟨⟨rfl, k1, k2, k3, k4⟩, y1, g1, g2⟩, q4.fr frT (by decide), q5.fr frT (by decide), q6.fr frT (by decide), q7.fr frT (by decide), q8.fr frT (by decide), q9.fr frT (by decide), h22⟩
      exact e1.trans (k0.trans e2.symm)
    · have t2 : wUp σ 1 0 1 b = τ := t1
      subst t2
      have frT : frL [1, 2, 24] σ (wUp (wUp σ 1 0 1 b) 24 0 1 b) := (frL.rf.up (by decide)).up (by decide)
      refine ⟨?_, n, l, m, cN, nm, ⟨⟨by omega, by omega, by omega, by omega⟩, ⟨hn, hn2⟩, ⟨hl, hl2⟩, ⟨hm0, hm2⟩, ⟨hc, hc2⟩, hz⟩, q2.fr frT (by decide), ⟨⟨k0, rfl, k2, k3, k4⟩, g0, y1, g2⟩, q4.fr frT (by decide), q5.fr frT (by decide), q6.fr frT (by decide), q7.fr frT (by decide), q8.fr frT (by decide), q9.fr frT (by decide), h22⟩
      exact e1.trans (k1.trans e2.symm)
    · have t2 : wUp σ 1 0 2 b = τ := t1
      subst t2
      have frT : frL [1, 2, 24] σ (wUp (wUp σ 1 0 2 b) 24 0 2 b) := (frL.rf.up (by decide)).up (by decide)
      refine ⟨?_, n, l, m, cN, nm, ⟨⟨by omega, by omega, by omega, by omega⟩, ⟨hn, hn2⟩, ⟨hl, hl2⟩, ⟨hm0, hm2⟩, ⟨hc, hc2⟩, hz⟩, q2.fr frT (by decide), ⟨⟨k0, k1, rfl, k3, k4⟩, g0, g1, y1⟩, q4.fr frT (by decide), q5.fr frT (by decide), q6.fr frT (by decide), q7.fr frT (by decide), q8.fr frT (by decide), q9.fr frT (by decide), h22⟩
      exact e1.trans (k2.trans e2.symm)
    · have t2 : wUp σ 2 0 0 b = τ := t1
      subst t2
      have frT : frL [1, 2, 24] σ (wUp (wUp σ 2 0 0 b) 24 0 3 b) := (frL.rf.up (by decide)).up (by decide)
      refine ⟨?_, n, l, m, cN, nm, ⟨⟨by omega, by omega, by omega, by omega⟩, ⟨hn, hn2⟩, ⟨hl, hl2⟩, ⟨hm0, hm2⟩, ⟨hc, hc2⟩, hz⟩, q2.fr frT (by decide), ⟨⟨k0, k1, k2, rfl, k4⟩, g0, g1, g2⟩, q4.fr frT (by decide), q5.fr frT (by decide), q6.fr frT (by decide), q7.fr frT (by decide), q8.fr frT (by decide), q9.fr frT (by decide), h22⟩
      exact e1.trans (k3.trans e2.symm)
    · have t2 : wUp σ 2 0 1 b = τ := t1
      subst t2
      have frT : frL [1, 2, 24] σ (wUp (wUp σ 2 0 1 b) 24 0 4 b) := (frL.rf.up (by decide)).up (by decide)
      refine ⟨?_, n, l, m, cN, nm, ⟨⟨by omega, by omega, by omega, by omega⟩, ⟨hn, hn2⟩, ⟨hl, hl2⟩, ⟨hm0, hm2⟩, ⟨hc, hc2⟩, hz⟩, q2.fr frT (by decide), ⟨⟨k0, k1, k2, k3, rfl⟩, g0, g1, g2⟩, q4.fr frT (by decide), q5.fr frT (by decide), q6.fr frT (by decide), q7.fr frT (by decide), q8.fr frT (by decide), q9.fr frT (by decide), h22⟩
      exact e1.trans (k4.trans e2.symm)
