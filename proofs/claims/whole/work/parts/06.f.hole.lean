/-! PART 06.f: hole -/
theorem s8_up {σ σ2 : wSt} {nm nm2 : Nat → Nat} (h : s8 σ nm) {i0 : Nat} {v : Int32} (hi : i0 < 24) (hv : rng99 v) (hlt : nm i0 < 6) (e35 : ∀ i, σ2.1 35 0 i = if i = i0 then nI (nm i0 + 1) else σ.1 35 0 i) (e36 : ∀ j, σ2.1 36 0 j = if j = 6 * i0 + nm i0 then v else σ.1 36 0 j) (e15 : ∀ i, i < 20 → σ2.1 15 i 1 = if i = i0 then nI (nm i0 + 1) else σ.1 15 i 1) (e18 : ∀ j, j < 4 → σ2.1 18 j 1 = if 20 + j = i0 then nI (nm i0 + 1) else σ.1 18 j 1) (e16 : ∀ i, i < 20 → ∀ k, σ2.1 16 i k = if i = i0 ∧ k = nm i0 then v else σ.1 16 i k) (e19 : ∀ j, j < 4 → ∀ k, σ2.1 19 j k = if 20 + j = i0 ∧ k = nm i0 then v else σ.1 19 j k) (hnm : ∀ i, nm2 i = if i = i0 then nm i0 + 1 else nm i) : s8 σ2 nm2 := by
  obtain ⟨hH, hH1, hH2, hH3, hH4, hH5⟩ := h
  refine ⟨fun i h1 => ?_, fun i h1 => ?_, fun j h1 => ?_, fun i h1 k hk => ?_, fun j h1 k hk => ?_, fun i k h1 hk => ?_⟩
  · rw [e35 i, hnm]
    by_cases q : i = i0
    · rw [if_pos q, if_pos q]
      exact ⟨rfl, by omega⟩
    · rw [if_neg q, if_neg q]
      exact hH i h1
  · rw [e15 i h1, hnm]
    by_cases q : i = i0
    · rw [if_pos q, if_pos q]
    · rw [if_neg q, if_neg q]
      exact hH1 i h1
  · rw [e18 j h1, hnm]
    by_cases q : 20 + j = i0
    · rw [if_pos q, if_pos q]
    · rw [if_neg q, if_neg q]
      exact hH2 j h1
  · rw [e16 i h1 k, e36]
    rw [hnm] at hk
    have hb := (hH i (by omega)).2
    by_cases q : i = i0
    · rw [if_pos q] at hk
      by_cases z : k = nm i0
      · rw [if_pos ⟨q, z⟩, if_pos (by rw [q, z])]
      · rw [if_neg (fun w => z w.2), if_neg (by rw [q]; omega)]
        exact hH3 i h1 k (by rw [q]; omega)
    · rw [if_neg q] at hk
      rw [if_neg (fun w => q w.1), if_neg (by omega)]
      exact hH3 i h1 k hk
  · rw [e19 j h1 k, e36]
    rw [hnm] at hk
    have hb := (hH (20 + j) (by omega)).2
    by_cases q : 20 + j = i0
    · rw [if_pos q] at hk
      by_cases z : k = nm i0
      · rw [if_pos ⟨q, z⟩, if_pos (by rw [q, z])]
      · rw [if_neg (fun w => z w.2), if_neg (by rw [q]; omega)]
        exact hH4 j h1 k (by rw [q]; omega)
    · rw [if_neg q] at hk
      rw [if_neg (fun w => q w.1), if_neg (by omega)]
      exact hH4 j h1 k hk
  · rw [e36]
    rw [hnm] at hk
    have hb := (hH i h1).2
    by_cases q : i = i0
    · rw [if_pos q] at hk
      by_cases z : k = nm i0
      · rw [if_pos (by rw [q, z])]
        exact hv
      · rw [if_neg (by rw [q]; omega)]
        exact hH5 i k h1 (by rw [q]; omega)
    · rw [if_neg q] at hk
      rw [if_neg (by omega)]
      exact hH5 i k h1 hk
theorem sim_hole {w : wD} (hw : wOK w) {σ : wSt} (h : wSim σ) (a b c : Int32) : ∃ P : Int32 → wSt → Prop, MI w yX5_hole cX5_hole 4 (some .int) 3 65 [.ref (w.2.2.2.1 0 0), .int a, .int b, .int c] σ P ∧ ∀ r τ, P r τ → ∃ P2 : Int32 → wSt → Prop, MI w yX6_hole cX6_hole 6 (some .int) 2 43 [.ref (w.2.2.2.1 20 0), .int a, .int b, .int c] τ P2 ∧ ∀ r2 τ2, P2 r2 τ2 → r = r2 ∧ wSim τ2 := by
  obtain ⟨n, l, m, cN, nm, ⟨⟨h6, hl20, hm8, hc8⟩, ⟨hn, hn2⟩, ⟨hl, hl2⟩, ⟨hm0, hm2⟩, ⟨hc, hc2⟩, hz⟩, ⟨f6, f12, f13⟩, ⟨⟨k0, k1, k2, k3, k4⟩, g0, g1, g2⟩, ⟨rL, rE⟩, hY, hM, ⟨hP, hP9⟩, ⟨hH, hH1, hH2, hH3, hH4, hH5⟩, ⟨f25, f26, f27, f28, rT, rG, rD⟩, h22⟩ := id h
  have hH6 : ∀ i, i < 20 → σ.1 15 i 1 = nI (nm i) ∧ nm i ≤ 6 := fun i hi => ⟨hH1 i hi, (hH i (by omega)).2⟩
  have hB6 : ∀ j, j < 4 → σ.1 18 j 1 = nI (nm (20 + j)) ∧ nm (20 + j) ≤ 6 := fun j hj => ⟨hH2 j hj, (hH (20 + j) (by omega)).2⟩
  refine ⟨_, ok_X5_hole hw σ a b c hl hl20 (nh := nm) (nb := fun j => nm (20 + j)) hH6 hB6, fun r τ h1 => ?_⟩
  have fr : frL [16, 15, 19, 18] σ τ ∧ τ.2 = σ.2 := by
    rcases h1 with ⟨-, rfl, -⟩ | ⟨-, (⟨-, rfl, -⟩ | ⟨-, -, rfl, -⟩ | ⟨-, -, rfl, -⟩)⟩ | ⟨-, (⟨-, rfl, -⟩ | ⟨-, -, rfl, -⟩ | ⟨-, -, rfl, -⟩)⟩
    · exact ⟨frL.rf, rfl⟩
    · exact ⟨frL.rf, rfl⟩
    · exact ⟨frL.rf, rfl⟩
    · exact ⟨(frL.rf.up (by decide)).up (by decide), rfl⟩
    · exact ⟨frL.rf, rfl⟩
    · exact ⟨frL.rf, rfl⟩
    · exact ⟨(frL.rf.up (by decide)).up (by decide), rfl⟩
  obtain ⟨fr, fr0⟩ := fr
  refine ⟨_, ok_X6_hole hw τ a b c (by rw [fr 20 (by decide)]; exact hz) (by rw [fr 20 (by decide)]; exact hl2) hl20 (nm := nm) (by rw [fr 35 (by decide)]; exact hH) (by rw [fr 36 (by decide)]; exact hH5), fun r2 τ2 h2 => ?_⟩
  rw [hl] at h1
  rw [fr 20 (by decide), fr 36 (by decide), hl2] at h2
  rcases h1 with ⟨y1, rfl, e1⟩ | ⟨y1, h1⟩ | ⟨y1, h1⟩ <;> rcases h2 with ⟨y2, rfl, e2⟩ | ⟨y2, h2⟩ | ⟨y2, h2⟩
  · exact ⟨by rw [e1, e2], h⟩
  · exact absurd (Or.inl y2) y1
  · exact absurd (Or.inr y2) y1
  · exact absurd (Or.inl y1) y2
  · have hi := vp_ofl y1.2.2 (by omega)
    generalize b.toNatClampNeg = i at h1 h2 hi ⊢
    rw [near_c (p := σ.1 16 i) (q := fun k => σ.1 36 0 (6 * i + k)) (nm i) (fun k hk => hH3 i (by omega) k hk)] at h1
    generalize nearB (fun k => σ.1 36 0 (6 * i + k)) c 0 (nm i) = bl at h1 h2
    rcases h1 with ⟨p1, rfl, e1⟩ | ⟨p1, z1, rfl, e1⟩ | ⟨p1, z1, rfl, e1⟩ <;> rcases h2 with ⟨p2, rfl, e2⟩ | ⟨p2, z2, rfl, e2⟩ | ⟨p2, z2, rfl, e2⟩ <;> first | (rw [p1] at p2; exact Bool.noConfusion p2) | omega | exact ⟨by rw [e1, e2], h⟩ | skip
    refine ⟨by rw [e1, e2], n, l, m, cN, fun j => if j = i then nm i + 1 else nm j, ⟨⟨by omega, by omega, by omega, by omega⟩, ⟨hn, hn2⟩, ⟨hl, hl2⟩, ⟨hm0, hm2⟩, ⟨hc, hc2⟩, hz⟩, ⟨f6, f12, f13⟩, ⟨⟨k0, k1, k2, k3, k4⟩, g0, g1, g2⟩, ⟨rL, rE⟩, hY, hM, ⟨hP, hP9⟩, ?_, ⟨f25, f26, f27, f28, rT, rG, rD⟩, h22⟩
    refine s8_up (i0 := i) (v := c) ⟨hH, hH1, hH2, hH3, hH4, hH5⟩ (by omega) (w_le99.mpr y1.1) z1 ?_ ?_ ?_ ?_ ?_ ?_ (fun _ => rfl)
    · intro j
      by_cases q : j = i
      · subst q; simp [wUp_at]
      · simp [wUp_at, q]
    · intro j
      by_cases q : j = 6 * i + nm i
      · subst q; simp [wUp_at]
      · simp [wUp_at, q]
    · intro j _
      by_cases q : j = i
      · subst q; simp [wUp_at]
      · simp [wUp_at, q]
    · intro j _
      rw [if_neg (by omega)]
      simp [wUp_at]
    · intro j _ k
      by_cases q : j = i ∧ k = nm i
      · rw [if_pos q, q.1, q.2]; simp [wUp_at]
      · rw [if_neg q]; simp [wUp_at, q]
    · intro j _ k
      rw [if_neg (by omega)]
      simp [wUp_at]
  · exact absurd (y1.2.1.symm.trans y2.2.1) (by decide)
  · exact absurd (Or.inr y1) y2
  · exact absurd (y2.2.1.symm.trans y1.2.1) (by decide)
  · have hi : b.toNatClampNeg < 4 := vp_ofl (l := 4) y1.2.2 (by omega)
    generalize b.toNatClampNeg = i at h1 h2 hi ⊢
    rw [near_c (p := σ.1 19 i) (q := fun k => σ.1 36 0 (6 * (20 + i) + k)) (nm (20 + i)) (fun k hk => hH4 i (by omega) k hk)] at h1
    generalize nearB (fun k => σ.1 36 0 (6 * (20 + i) + k)) c 0 (nm (20 + i)) = bl at h1 h2
    rcases h1 with ⟨p1, rfl, e1⟩ | ⟨p1, z1, rfl, e1⟩ | ⟨p1, z1, rfl, e1⟩ <;> rcases h2 with ⟨p2, rfl, e2⟩ | ⟨p2, z2, rfl, e2⟩ | ⟨p2, z2, rfl, e2⟩ <;> first | (rw [p1] at p2; exact Bool.noConfusion p2) | omega | exact ⟨by rw [e1, e2], h⟩ | skip
    refine ⟨by rw [e1, e2], n, l, m, cN, fun j => if j = (20 + i) then nm (20 + i) + 1 else nm j, ⟨⟨by omega, by omega, by omega, by omega⟩, ⟨hn, hn2⟩, ⟨hl, hl2⟩, ⟨hm0, hm2⟩, ⟨hc, hc2⟩, hz⟩, ⟨f6, f12, f13⟩, ⟨⟨k0, k1, k2, k3, k4⟩, g0, g1, g2⟩, ⟨rL, rE⟩, hY, hM, ⟨hP, hP9⟩, ?_, ⟨f25, f26, f27, f28, rT, rG, rD⟩, h22⟩
    refine s8_up (i0 := (20 + i)) (v := c) ⟨hH, hH1, hH2, hH3, hH4, hH5⟩ (by omega) (w_le99.mpr y1.1) z1 ?_ ?_ ?_ ?_ ?_ ?_ (fun _ => rfl)
    · intro j
      by_cases q : j = 20 + i
      · subst q; simp [wUp_at]
      · simp [wUp_at, q]
    · intro j
      by_cases q : j = 6 * (20 + i) + nm (20 + i)
      · subst q; simp [wUp_at]
      · simp [wUp_at, q]
    · intro j _
      rw [if_neg (by omega)]
      simp [wUp_at]
    · intro j _
      by_cases q : j = i
      · subst q; simp [wUp_at]
      · rw [if_neg (by omega)]; simp [wUp_at, q]
    · intro j _ k
      rw [if_neg (by omega)]
      simp [wUp_at]
    · intro j _ k
      by_cases q : j = i ∧ k = nm (20 + i)
      · rw [if_pos ⟨by omega, q.2⟩, q.1, q.2]; simp [wUp_at]
      · rw [if_neg (fun z => q ⟨by omega, z.2⟩)]; simp [wUp_at, q]
