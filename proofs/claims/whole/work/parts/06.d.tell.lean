/-! PART 06.d: a lemma a method that only tells: class and model answer alike -/
theorem sim_about {w : wD} (hw : wOK w) {σ : wSt} (h : wSim σ) (a b : Int32) : ∃ P : Int32 → wSt → Prop, MI w yX5_about cX5_about 3 (some .int) 1 21 [.ref (w.2.2.2.1 0 0), .int a, .int b] σ P ∧ ∀ r τ, P r τ → ∃ P2 : Int32 → wSt → Prop, MI w yX6_about cX6_about 3 (some .int) 1 22 [.ref (w.2.2.2.1 20 0), .int a, .int b] τ P2 ∧ ∀ r2 τ2, P2 r2 τ2 → r = r2 ∧ wSim τ2 := by
  obtain ⟨n, l, m, cN, nm, ⟨⟨h6, hl20, hm8, hc8⟩, ⟨hn, hn2⟩, ⟨hl, hl2⟩, ⟨hm0, hm2⟩, ⟨hc, hc2⟩, hz⟩, ⟨f6, f12, f13⟩, ⟨⟨k0, k1, k2, k3, k4⟩, g0, g1, g2⟩, ⟨rL, rE⟩, hY, hM, ⟨hP, hP9⟩, ⟨hH, hH1, hH2, hH3, hH4, hH5⟩, ⟨f25, f26, f27, f28, rT, rG, rD⟩, h22⟩ := id h
  refine ⟨_, ok_X5_about hw σ a b hn h6, fun r τ h1 => ?_⟩
  obtain ⟨rfl, h1⟩ := h1
  refine ⟨_, ok_X6_about hw σ a b hz hn2 h6, fun r2 τ2 h2 => ?_⟩
  obtain ⟨rfl, h2⟩ := h2
  refine ⟨?_, h⟩
  rw [hn] at h1
  rw [hn2] at h2
  rcases h1 with ⟨y1, e1⟩ | ⟨y1, e1⟩ <;> rcases h2 with ⟨y2, e2⟩ | ⟨y2, e2⟩
  · rw [e1, e2]
  · exact absurd y2 y1
  · exact absurd y1 y2
  · obtain ⟨d1, d2⟩ := hY _ (vp_ofl y1.1 (by omega))
    rw [e1, e2, f6, d1, d2]
theorem sim_candidates {w : wD} (hw : wOK w) {σ : wSt} (h : wSim σ) (a : Int32) : ∃ P : Int32 → wSt → Prop, MI w yX5_candidates cX5_candidates 2 (some .int) 2 45 [.ref (w.2.2.2.1 0 0), .int a] σ P ∧ ∀ r τ, P r τ → ∃ P2 : Int32 → wSt → Prop, MI w yX6_candidates cX6_candidates 2 (some .int) 2 43 [.ref (w.2.2.2.1 20 0), .int a] τ P2 ∧ ∀ r2 τ2, P2 r2 τ2 → r = r2 ∧ wSim τ2 := by
  obtain ⟨n, l, m, cN, nm, ⟨⟨h6, hl20, hm8, hc8⟩, ⟨hn, hn2⟩, ⟨hl, hl2⟩, ⟨hm0, hm2⟩, ⟨hc, hc2⟩, hz⟩, ⟨f6, f12, f13⟩, ⟨⟨k0, k1, k2, k3, k4⟩, g0, g1, g2⟩, ⟨rL, rE⟩, hY, hM, ⟨hP, hP9⟩, ⟨hH, hH1, hH2, hH3, hH4, hH5⟩, ⟨f25, f26, f27, f28, rT, rG, rD⟩, h22⟩ := id h
  refine ⟨_, ok_X5_candidates hw σ a hn h6 hl hl20, fun r τ h1 => ?_⟩
  obtain ⟨rfl, h1⟩ := h1
  refine ⟨_, ok_X6_candidates hw σ a hz hn2 h6 hl2 hl20, fun r2 τ2 h2 => ?_⟩
  obtain ⟨rfl, h2⟩ := h2
  refine ⟨?_, h⟩
  rw [hl] at h1
  rw [hl2] at h2
  rcases h1 with ⟨y1, e1⟩ | ⟨y1, e1⟩ <;> rcases h2 with ⟨y2, e2⟩ | ⟨y2, e2⟩
  · rw [e1, e2]
  · exact absurd y2 y1
  · exact absurd y1 y2
  · rw [e1, e2, f6, f25, f26]
theorem sim_span {w : wD} (hw : wOK w) {σ : wSt} (h : wSim σ) (a b : Int32) : ∃ P : Int32 → wSt → Prop, MI w yX5_span cX5_span 12 (some .int) 2 45 [.ref (w.2.2.2.1 0 0), .int a, .int b] σ P ∧ ∀ r τ, P r τ → ∃ P2 : Int32 → wSt → Prop, MI w yX6_span cX6_span 8 (some .int) 2 43 [.ref (w.2.2.2.1 20 0), .int a, .int b] τ P2 ∧ ∀ r2 τ2, P2 r2 τ2 → r = r2 ∧ wSim τ2 := by
  obtain ⟨n, l, m, cN, nm, ⟨⟨h6, hl20, hm8, hc8⟩, ⟨hn, hn2⟩, ⟨hl, hl2⟩, ⟨hm0, hm2⟩, ⟨hc, hc2⟩, hz⟩, ⟨f6, f12, f13⟩, ⟨⟨k0, k1, k2, k3, k4⟩, g0, g1, g2⟩, ⟨rL, rE⟩, hY, hM, ⟨hP, hP9⟩, ⟨hH, hH1, hH2, hH3, hH4, hH5⟩, ⟨f25, f26, f27, f28, rT, rG, rD⟩, h22⟩ := id h
  have hpap : ∀ i, i < l → σ.1 29 0 i = -9 ∨ inN (nI m) (σ.1 29 0 i) := fun i hi => (hP i hi).2.2.1
  refine ⟨_, ok_X5_span hw σ a b hn h6 hl hl20 hm0 hm8, fun r τ h1 => ?_⟩
  obtain ⟨rfl, h1⟩ := h1
  refine ⟨_, ok_X6_span hw σ a b hz hn2 h6 hl2 hl20 hm8 hpap, fun r2 τ2 h2 => ?_⟩
  obtain ⟨rfl, h2⟩ := h2
  refine ⟨?_, h⟩
  rw [hl, hm0] at h1
  rw [hl2] at h2
  rcases h1 with ⟨y1, e1⟩ | ⟨y1, e1⟩ <;> rcases h2 with ⟨y2, e2⟩ | ⟨y2, e2⟩
  · rw [e1, e2]
  · exact absurd y2 y1
  · exact absurd y1 y2
  · obtain ⟨d1, d2, d3, d4⟩ := hP _ (vp_ofl y1.1 (by omega))
    rw [e1, e2, f6, f25, f26, d1, d2]
    rw [span_is (n := n) (m := m) (fr := fun q => σ.1 11 q 0) (to := fun q => σ.1 11 q 1) (mf := fun q => σ.1 17 q 0) (mt := fun q => σ.1 17 q 1) hm8 (fun k hk => hY k hk) (fun k hk => hM k hk) d3 d4]
theorem sim_cost {w : wD} (hw : wOK w) {σ : wSt} (h : wSim σ) (a b : Int32) : ∃ P : Int32 → wSt → Prop, MI w yX5_cost cX5_cost 3 (some .int) 2 45 [.ref (w.2.2.2.1 0 0), .int a, .int b] σ P ∧ ∀ r τ, P r τ → ∃ P2 : Int32 → wSt → Prop, MI w yX6_cost cX6_cost 3 (some .int) 3 65 [.ref (w.2.2.2.1 20 0), .int a, .int b] τ P2 ∧ ∀ r2 τ2, P2 r2 τ2 → r = r2 ∧ wSim τ2 := by
  obtain ⟨n, l, m, cN, nm, ⟨⟨h6, hl20, hm8, hc8⟩, ⟨hn, hn2⟩, ⟨hl, hl2⟩, ⟨hm0, hm2⟩, ⟨hc, hc2⟩, hz⟩, ⟨f6, f12, f13⟩, ⟨⟨k0, k1, k2, k3, k4⟩, g0, g1, g2⟩, ⟨rL, rE⟩, hY, hM, ⟨hP, hP9⟩, ⟨hH, hH1, hH2, hH3, hH4, hH5⟩, ⟨f25, f26, f27, f28, rT, rG, rD⟩, h22⟩ := id h
  have hE : ∀ k, k < cN → rng12 (σ.1 13 0 k) := fun k _ => by rw [f13]; exact rE k
  have hE2 : ∀ k, k < cN → rng12 (σ.1 34 0 k) := fun k _ => rE k
  refine ⟨_, ok_X5_cost hw σ a b hc hc8 hE, fun r τ h1 => ?_⟩
  obtain ⟨rfl, h1⟩ := h1
  refine ⟨_, ok_X6_cost hw σ a b hz hc2 hc8 hE2, fun r2 τ2 h2 => ?_⟩
  obtain ⟨rfl, h2⟩ := h2
  refine ⟨?_, h⟩
  rw [hc, f12, f13, k3, k4] at h1
  rw [hc2] at h2
  rcases h1 with ⟨y1, e1⟩ | ⟨y1, e1⟩ <;> rcases h2 with ⟨y2, e2⟩ | ⟨y2, e2⟩
  · rw [e1, e2]
  · exact absurd y2 y1
  · exact absurd y1 y2
  · rw [e1, e2]
theorem sim_from {w : wD} (hw : wOK w) {σ : wSt} (h : wSim σ) (a : Int32) : ∃ P : Int32 → wSt → Prop, MI w yX5_from cX5_from 2 (some .int) 3 69 [.ref (w.2.2.2.1 0 0), .int a] σ P ∧ ∀ r τ, P r τ → ∃ P2 : Int32 → wSt → Prop, MI w yX6_from cX6_from 2 (some .int) 4 88 [.ref (w.2.2.2.1 20 0), .int a] τ P2 ∧ ∀ r2 τ2, P2 r2 τ2 → r = r2 ∧ wSim τ2 := by
  obtain ⟨n, l, m, cN, nm, ⟨⟨h6, hl20, hm8, hc8⟩, ⟨hn, hn2⟩, ⟨hl, hl2⟩, ⟨hm0, hm2⟩, ⟨hc, hc2⟩, hz⟩, ⟨f6, f12, f13⟩, ⟨⟨k0, k1, k2, k3, k4⟩, g0, g1, g2⟩, ⟨rL, rE⟩, hY, hM, ⟨hP, hP9⟩, ⟨hH, hH1, hH2, hH3, hH4, hH5⟩, ⟨f25, f26, f27, f28, rT, rG, rD⟩, h22⟩ := id h
  have hE : ∀ k, k < cN → rng12 (σ.1 13 0 k) := fun k _ => by rw [f13]; exact rE k
  have hE2 : ∀ k, k < cN → rng12 (σ.1 34 0 k) := fun k _ => rE k
  refine ⟨_, ok_X5_from hw σ a hc hc8 hE, fun r τ h1 => ?_⟩
  obtain ⟨rfl, h1⟩ := h1
  refine ⟨_, ok_X6_from hw σ a hz hc2 hc8 hE2, fun r2 τ2 h2 => ?_⟩
  obtain ⟨rfl, h2⟩ := h2
  refine ⟨?_, h⟩
  rw [hc, f12, f13, k3, k4] at h1
  rw [hc2] at h2
  rcases h1 with ⟨y1, e1⟩ | ⟨y1, e1⟩ <;> rcases h2 with ⟨y2, e2⟩ | ⟨y2, e2⟩
  · rw [e1, e2]
  · exact absurd y2 y1
  · exact absurd y1 y2
  · rw [e1, e2]
theorem sim_rivals {w : wD} (hw : wOK w) {σ : wSt} (h : wSim σ) (a : Int32) : ∃ P : Int32 → wSt → Prop, MI w yX5_rivals cX5_rivals 2 (some .int) 4 94 [.ref (w.2.2.2.1 0 0), .int a] σ P ∧ ∀ r τ, P r τ → ∃ P2 : Int32 → wSt → Prop, MI w yX6_rivals cX6_rivals 5 (some .int) 4 88 [.ref (w.2.2.2.1 20 0), .int a] τ P2 ∧ ∀ r2 τ2, P2 r2 τ2 → r = r2 ∧ wSim τ2 := by
  obtain ⟨n, l, m, cN, nm, ⟨⟨h6, hl20, hm8, hc8⟩, ⟨hn, hn2⟩, ⟨hl, hl2⟩, ⟨hm0, hm2⟩, ⟨hc, hc2⟩, hz⟩, ⟨f6, f12, f13⟩, ⟨⟨k0, k1, k2, k3, k4⟩, g0, g1, g2⟩, ⟨rL, rE⟩, hY, hM, ⟨hP, hP9⟩, ⟨hH, hH1, hH2, hH3, hH4, hH5⟩, ⟨f25, f26, f27, f28, rT, rG, rD⟩, h22⟩ := id h
  have hE : ∀ k, k < cN → rng12 (σ.1 13 0 k) := fun k _ => by rw [f13]; exact rE k
  have hE2 : ∀ k, k < cN → rng12 (σ.1 34 0 k) := fun k _ => rE k
  refine ⟨_, ok_X5_rivals hw σ a hc hc8 hE, fun r τ h1 => ?_⟩
  obtain ⟨rfl, h1⟩ := h1
  refine ⟨_, ok_X6_rivals hw σ a hz hc2 hc8 hE2, fun r2 τ2 h2 => ?_⟩
  obtain ⟨rfl, h2⟩ := h2
  refine ⟨?_, h⟩
  rw [hc, f12, f13, k3, k4] at h1
  rw [hc2] at h2
  rcases h1 with ⟨y1, e1⟩ | ⟨y1, e1⟩ <;> rcases h2 with ⟨y2, e2⟩ | ⟨y2, e2⟩
  · rw [e1, e2]
  · exact absurd y2 y1
  · exact absurd y1 y2
  · rw [e1, e2, riv_eq (by omega)]
theorem sim_life {w : wD} (hw : wOK w) {σ : wSt} (h : wSim σ) (a b : Int32) : ∃ P : Int32 → wSt → Prop, MI w yX5_life cX5_life 3 (some .int) 5 118 [.ref (w.2.2.2.1 0 0), .int a, .int b] σ P ∧ ∀ r τ, P r τ → ∃ P2 : Int32 → wSt → Prop, MI w yX6_life cX6_life 6 (some .int) 4 88 [.ref (w.2.2.2.1 20 0), .int a, .int b] τ P2 ∧ ∀ r2 τ2, P2 r2 τ2 → r = r2 ∧ wSim τ2 := by
  obtain ⟨n, l, m, cN, nm, ⟨⟨h6, hl20, hm8, hc8⟩, ⟨hn, hn2⟩, ⟨hl, hl2⟩, ⟨hm0, hm2⟩, ⟨hc, hc2⟩, hz⟩, ⟨f6, f12, f13⟩, ⟨⟨k0, k1, k2, k3, k4⟩, g0, g1, g2⟩, ⟨rL, rE⟩, hY, hM, ⟨hP, hP9⟩, ⟨hH, hH1, hH2, hH3, hH4, hH5⟩, ⟨f25, f26, f27, f28, rT, rG, rD⟩, h22⟩ := id h
  have hE : ∀ k, k < cN → rng12 (σ.1 13 0 k) := fun k _ => by rw [f13]; exact rE k
  have hE2 : ∀ k, k < cN → rng12 (σ.1 34 0 k) := fun k _ => rE k
  refine ⟨_, ok_X5_life hw σ a b hc hc8 hE, fun r τ h1 => ?_⟩
  obtain ⟨rfl, h1⟩ := h1
  refine ⟨_, ok_X6_life hw σ a b hz hc2 hc8 hE2, fun r2 τ2 h2 => ?_⟩
  obtain ⟨rfl, h2⟩ := h2
  refine ⟨?_, h⟩
  rw [hc, f12, f13, k3, k4] at h1
  rw [hc2] at h2
  rcases h1 with ⟨y1, e1⟩ | ⟨y1, e1⟩ <;> rcases h2 with ⟨y2, e2⟩ | ⟨y2, e2⟩
  · rw [e1, e2]
  · exact absurd ⟨y2.2.1, y2.1, y2.2.2⟩ y1
  · exact absurd ⟨y1.2.1, y1.1, y1.2.2⟩ y2
  · rw [e1, e2]
theorem sim_fits {w : wD} (hw : wOK w) {σ : wSt} (h : wSim σ) (a b c : Int32) : ∃ P : Int32 → wSt → Prop, MI w yX5_fits cX5_fits 4 (some .int) 3 68 [.ref (w.2.2.2.1 0 0), .int a, .int b, .int c] σ P ∧ ∀ r τ, P r τ → ∃ P2 : Int32 → wSt → Prop, MI w yX6_fits cX6_fits 4 (some .int) 2 49 [.ref (w.2.2.2.1 20 0), .int a, .int b, .int c] τ P2 ∧ ∀ r2 τ2, P2 r2 τ2 → r = r2 ∧ wSim τ2 := by
  obtain ⟨n, l, m, cN, nm, ⟨⟨h6, hl20, hm8, hc8⟩, ⟨hn, hn2⟩, ⟨hl, hl2⟩, ⟨hm0, hm2⟩, ⟨hc, hc2⟩, hz⟩, ⟨f6, f12, f13⟩, ⟨⟨k0, k1, k2, k3, k4⟩, g0, g1, g2⟩, ⟨rL, rE⟩, hY, hM, ⟨hP, hP9⟩, ⟨hH, hH1, hH2, hH3, hH4, hH5⟩, ⟨f25, f26, f27, f28, rT, rG, rD⟩, h22⟩ := id h
  have hH6 : ∀ i, i < 20 → σ.1 15 i 1 = nI (nm i) ∧ nm i ≤ 6 := fun i hi => ⟨hH1 i hi, (hH i (by omega)).2⟩
  have hB6 : ∀ j, j < 4 → σ.1 18 j 1 = nI (nm (20 + j)) ∧ nm (20 + j) ≤ 6 := fun j hj => ⟨hH2 j hj, (hH (20 + j) (by omega)).2⟩
  refine ⟨_, ok_X5_fits hw σ a b c hl hl20 (nh := nm) (nb := fun j => nm (20 + j)) hH6 hB6, fun r τ h1 => ?_⟩
  obtain ⟨rfl, h1⟩ := h1
  refine ⟨_, ok_X6_fits hw σ a b c hz hl2 hl20 hH hH5, fun r2 τ2 h2 => ?_⟩
  obtain ⟨rfl, h2⟩ := h2
  refine ⟨?_, h⟩
  have fe : ∀ i, i < 20 → ∀ j, j < 4 → ∀ s, fitU (σ.1 16 i) (σ.1 19 j) (nm (20 + j)) s (nm i) = fitU (fun k => σ.1 36 0 (6 * i + k)) (fun k => σ.1 36 0 (120 + 6 * j + k)) (nm (20 + j)) s (nm i) := fun i hi j hj s => fit_c (fun k hk => by rw [hH4 j hj k hk, show 6 * (20 + j) + k = 120 + 6 * j + k by omega]) _ (fun k hk => hH3 i hi k hk)
  rw [hl] at h1
  rw [hl2] at h2
  rcases h1 with ⟨y1, e1⟩ | ⟨y1, e1⟩ <;> rcases h2 with ⟨y2, e2⟩ | ⟨y2, e2⟩
  · rw [e1, e2]
  · exact absurd y2 y1
  · exact absurd y1 y2
  · have ha := vp_ofl y1.1 (by omega)
    have hb : b.toNatClampNeg < 4 := vp_ofl (l := 4) y1.2.1 (by omega)
    rw [e1, e2, fe _ (by omega) _ hb]
theorem sim_shift {w : wD} (hw : wOK w) {σ : wSt} (h : wSim σ) (a b c : Int32) : ∃ P : Int32 → wSt → Prop, MI w yX5_shift cX5_shift 6 (some .int) 4 94 [.ref (w.2.2.2.1 0 0), .int a, .int b, .int c] σ P ∧ ∀ r τ, P r τ → ∃ P2 : Int32 → wSt → Prop, MI w yX6_shift cX6_shift 5 (some .int) 3 73 [.ref (w.2.2.2.1 20 0), .int a, .int b, .int c] τ P2 ∧ ∀ r2 τ2, P2 r2 τ2 → r = r2 ∧ wSim τ2 := by
  obtain ⟨n, l, m, cN, nm, ⟨⟨h6, hl20, hm8, hc8⟩, ⟨hn, hn2⟩, ⟨hl, hl2⟩, ⟨hm0, hm2⟩, ⟨hc, hc2⟩, hz⟩, ⟨f6, f12, f13⟩, ⟨⟨k0, k1, k2, k3, k4⟩, g0, g1, g2⟩, ⟨rL, rE⟩, hY, hM, ⟨hP, hP9⟩, ⟨hH, hH1, hH2, hH3, hH4, hH5⟩, ⟨f25, f26, f27, f28, rT, rG, rD⟩, h22⟩ := id h
  have hH6 : ∀ i, i < 20 → σ.1 15 i 1 = nI (nm i) ∧ nm i ≤ 6 := fun i hi => ⟨hH1 i hi, (hH i (by omega)).2⟩
  have hB6 : ∀ j, j < 4 → σ.1 18 j 1 = nI (nm (20 + j)) ∧ nm (20 + j) ≤ 6 := fun j hj => ⟨hH2 j hj, (hH (20 + j) (by omega)).2⟩
  refine ⟨_, ok_X5_shift hw σ a b c hl hl20 (nh := nm) (nb := fun j => nm (20 + j)) hH6 hB6, fun r τ h1 => ?_⟩
  obtain ⟨rfl, h1⟩ := h1
  refine ⟨_, ok_X6_shift hw σ a b c hz hl2 hl20 hH hH5, fun r2 τ2 h2 => ?_⟩
  obtain ⟨rfl, h2⟩ := h2
  refine ⟨?_, h⟩
  have fe : ∀ i, i < 20 → ∀ j, j < 4 → ∀ s, fitU (σ.1 16 i) (σ.1 19 j) (nm (20 + j)) s (nm i) = fitU (fun k => σ.1 36 0 (6 * i + k)) (fun k => σ.1 36 0 (120 + 6 * j + k)) (nm (20 + j)) s (nm i) := fun i hi j hj s => fit_c (fun k hk => by rw [hH4 j hj k hk, show 6 * (20 + j) + k = 120 + 6 * j + k by omega]) _ (fun k hk => hH3 i hi k hk)
  rw [hl] at h1
  rw [hl2] at h2
  rcases h1 with ⟨y1, e1⟩ | ⟨y1, e1⟩ <;> rcases h2 with ⟨y2, e2⟩ | ⟨y2, e2⟩
  · rw [e1, e2]
  · exact absurd y2 y1
  · exact absurd y1 y2
  · have ha := vp_ofl y1.1 (by omega)
    have hb : b.toNatClampNeg < 4 := vp_ofl (l := 4) y1.2.1 (by omega)
    rw [e1, e2, show (fun q => fitU (σ.1 16 a.toNatClampNeg) (σ.1 19 b.toNatClampNeg) (nm (20 + b.toNatClampNeg)) q (nm a.toNatClampNeg)) = _ from funext (fe _ (by omega) _ hb)]
theorem sim_home {w : wD} (hw : wOK w) {σ : wSt} (h : wSim σ) (a b : Int32) : ∃ P : Int32 → wSt → Prop, MI w yX5_home cX5_home 4 (some .int) 6 140 [.ref (w.2.2.2.1 0 0), .int a, .int b] σ P ∧ ∀ r τ, P r τ → ∃ P2 : Int32 → wSt → Prop, MI w yX6_home cX6_home 7 (some .int) 4 95 [.ref (w.2.2.2.1 20 0), .int a, .int b] τ P2 ∧ ∀ r2 τ2, P2 r2 τ2 → r = r2 ∧ wSim τ2 := by
  obtain ⟨n, l, m, cN, nm, ⟨⟨h6, hl20, hm8, hc8⟩, ⟨hn, hn2⟩, ⟨hl, hl2⟩, ⟨hm0, hm2⟩, ⟨hc, hc2⟩, hz⟩, ⟨f6, f12, f13⟩, ⟨⟨k0, k1, k2, k3, k4⟩, g0, g1, g2⟩, ⟨rL, rE⟩, hY, hM, ⟨hP, hP9⟩, ⟨hH, hH1, hH2, hH3, hH4, hH5⟩, ⟨f25, f26, f27, f28, rT, rG, rD⟩, h22⟩ := id h
  have hH6 : ∀ i, i < 20 → σ.1 15 i 1 = nI (nm i) ∧ nm i ≤ 6 := fun i hi => ⟨hH1 i hi, (hH i (by omega)).2⟩
  have hB6 : ∀ j, j < 4 → σ.1 18 j 1 = nI (nm (20 + j)) ∧ nm (20 + j) ≤ 6 := fun j hj => ⟨hH2 j hj, (hH (20 + j) (by omega)).2⟩
  refine ⟨_, ok_X5_home hw σ a b hl hl20 (nh := nm) (nb := fun j => nm (20 + j)) hH6 hB6, fun r τ h1 => ?_⟩
  obtain ⟨rfl, h1⟩ := h1
  refine ⟨_, ok_X6_home hw σ a b hz hl2 hl20 hH hH5, fun r2 τ2 h2 => ?_⟩
  obtain ⟨rfl, h2⟩ := h2
  refine ⟨?_, h⟩
  have fe : ∀ i, i < 20 → ∀ j, j < 4 → ∀ s, fitU (σ.1 16 i) (σ.1 19 j) (nm (20 + j)) s (nm i) = fitU (fun k => σ.1 36 0 (6 * i + k)) (fun k => σ.1 36 0 (120 + 6 * j + k)) (nm (20 + j)) s (nm i) := fun i hi j hj s => fit_c (fun k hk => by rw [hH4 j hj k hk, show 6 * (20 + j) + k = 120 + 6 * j + k by omega]) _ (fun k hk => hH3 i hi k hk)
  rw [hl] at h1
  rw [hl2] at h2
  have me : ∀ i, i < 20 → ∀ j, j < 4 → mostU (fun q => fitU (σ.1 16 i) (σ.1 19 j) (nm (20 + j)) q (nm i)) = mostU (fun s => fitU (fun k => σ.1 36 0 (6 * i + k)) (fun k => σ.1 36 0 (120 + 6 * j + k)) (nm (20 + j)) s (nm i)) := fun i hi j hj => by
    rw [show (fun q => fitU (σ.1 16 i) (σ.1 19 j) (nm (20 + j)) q (nm i)) = _ from funext (fe i hi j hj)]
  by_cases y : inN (nI l) a ∧ (b = 0 ∨ b = 1)
  · have ha := vp_ofl y.1 (by omega)
    rw [home_c 4 (fun j hj => me a.toNatClampNeg (by omega) j hj)] at h1
    have hs := homeU_src (M := fun q => mostU (fun s => fitU (fun k => σ.1 36 0 (6 * a.toNatClampNeg + k)) (fun k => σ.1 36 0 (120 + 6 * q + k)) (nm (20 + q)) s (nm a.toNatClampNeg))) 4
    generalize homeU (fun q => mostU (fun s => fitU (fun k => σ.1 36 0 (6 * a.toNatClampNeg + k)) (fun k => σ.1 36 0 (120 + 6 * q + k)) (nm (20 + q)) s (nm a.toNatClampNeg))) 4 = Hm at h1 h2 hs
    rcases h1 with ⟨y1, e1⟩ | ⟨y1, z1, e1⟩ | ⟨y1, z0, z1, e1⟩
    · exact absurd y y1
    · rcases h2 with ⟨y2, e2⟩ | ⟨y2, z2, e2⟩ | ⟨y2, z0, z2, e2⟩
      · exact absurd y y2
      · rw [e1, e2]
      · rcases hs with ⟨q, -⟩ | ⟨j, q1, q2, -⟩
        · exact absurd q z2
        · rcases z1 with z1 | z1
          · exact absurd z1 z0
          · exact absurd (by rw [q2]; exact (show inN (nI 4) (nI j) from inN_nI q1 (by decide))) z1
    · rcases h2 with ⟨y2, e2⟩ | ⟨y2, z2, e2⟩ | ⟨y2, z9, z2, e2⟩
      · exact absurd y y2
      · rcases z2 with z2 | z2
        · exact absurd z2 z0
        · rw [z2] at z1
          exact absurd z1.1 (by decide)
      · rcases hs with ⟨q, -⟩ | ⟨j, q1, q2, q3⟩
        · exact absurd q z2
        · have hj : Hm.1.toNatClampNeg = j := by rw [q2, nI_clamp (by omega)]
          rw [hj] at e1 e2
          rw [e1, e2, q3, me _ (by omega) j q1]
          exact chance_c l (fun i hi => me i (by omega) j q1)
  · rcases h1 with ⟨y1, e1⟩ | ⟨y1, -⟩ | ⟨y1, -⟩
    · rcases h2 with ⟨y2, e2⟩ | ⟨y2, -⟩ | ⟨y2, -⟩
      · rw [e1, e2]
      · exact absurd y2 y
      · exact absurd y2 y
    · exact absurd y1 y
    · exact absurd y1 y
theorem sim_count {w : wD} (hw : wOK w) {σ : wSt} (h : wSim σ) (a : Int32) : ∃ P : Int32 → wSt → Prop, MI w yX5_count cX5_count 2 (some .int) 3 68 [.ref (w.2.2.2.1 0 0), .int a] σ P ∧ ∀ r τ, P r τ → ∃ P2 : Int32 → wSt → Prop, MI w yX6_count cX6_count 6 (some .int) 1 23 [.ref (w.2.2.2.1 20 0), .int a] τ P2 ∧ ∀ r2 τ2, P2 r2 τ2 → r = r2 ∧ wSim τ2 := by
  obtain ⟨n, l, m, cN, nm, ⟨⟨h6, hl20, hm8, hc8⟩, ⟨hn, hn2⟩, ⟨hl, hl2⟩, ⟨hm0, hm2⟩, ⟨hc, hc2⟩, hz⟩, ⟨f6, f12, f13⟩, ⟨⟨k0, k1, k2, k3, k4⟩, g0, g1, g2⟩, ⟨rL, rE⟩, hY, hM, ⟨hP, hP9⟩, ⟨hH, hH1, hH2, hH3, hH4, hH5⟩, ⟨f25, f26, f27, f28, rT, rG, rD⟩, h22⟩ := id h
  refine ⟨_, ok_X5_count hw σ a hn h6 hl hl20, fun r τ h1 => ?_⟩
  obtain ⟨rfl, h1⟩ := h1
  refine ⟨_, ok_X6_count hw σ a hz hn2 h6 hl2 hl20, fun r2 τ2 h2 => ?_⟩
  obtain ⟨rfl, h2⟩ := h2
  refine ⟨?_, h⟩
  rw [show (fun q => candU (σ.1 6 0) (σ.1 14 q 0) (σ.1 14 q 1) n) = (fun q => candU (σ.1 21 0) (σ.1 25 0 q) (σ.1 26 0 q) n) from funext fun q => by rw [f6, f25, f26], hn, hl, hm0, hc] at h1
  rw [hn2, hl2, hm2, hc2] at h2
  rcases h1 with ⟨y1, e1⟩ | ⟨y1, e1⟩ <;> rcases h2 with ⟨y2, e2⟩ | ⟨y2, e2⟩
  · rw [e1, e2]
  · exact absurd y2 y1
  · exact absurd y1 y2
  · rw [e1, e2]
theorem sim_trace {w : wD} (hw : wOK w) {σ : wSt} (h : wSim σ) : ∃ P : Int64 → wSt → Prop, ML w yX5_trace cX5_trace 1 (some .long) 0 0 [.ref (w.2.2.2.1 0 0)] σ P ∧ ∀ r τ, P r τ → ∃ P2 : Int64 → wSt → Prop, ML w yX6_trace cX6_trace 1 (some .long) 0 0 [.ref (w.2.2.2.1 20 0)] τ P2 ∧ ∀ r2 τ2, P2 r2 τ2 → r = r2 ∧ wSim τ2 := by
  obtain ⟨n, l, m, cN, nm, ⟨⟨h6, hl20, hm8, hc8⟩, ⟨hn, hn2⟩, ⟨hl, hl2⟩, ⟨hm0, hm2⟩, ⟨hc, hc2⟩, hz⟩, ⟨f6, f12, f13⟩, ⟨⟨k0, k1, k2, k3, k4⟩, g0, g1, g2⟩, ⟨rL, rE⟩, hY, hM, ⟨hP, hP9⟩, ⟨hH, hH1, hH2, hH3, hH4, hH5⟩, ⟨f25, f26, f27, f28, rT, rG, rD⟩, h22⟩ := id h
  refine ⟨_, ok_X5_trace hw σ  , fun r τ h1 => ?_⟩
  obtain ⟨rfl, h1⟩ := h1
  refine ⟨_, ok_X6_trace hw σ  hz, fun r2 τ2 h2 => ?_⟩
  obtain ⟨rfl, h2⟩ := h2
  refine ⟨?_, h⟩
  rw [h1, h2, h22]
theorem sim_quarrel {w : wD} (hw : wOK w) {σ : wSt} (h : wSim σ) (a : Int32) : ∃ P : Int32 → wSt → Prop, MI w yX5_quarrel cX5_quarrel 2 (some .int) 3 70 [.ref (w.2.2.2.1 0 0), .int a] σ P ∧ ∀ r τ, P r τ → ∃ P2 : Int32 → wSt → Prop, MI w yX6_quarrel cX6_quarrel 2 (some .int) 2 48 [.ref (w.2.2.2.1 20 0), .int a] τ P2 ∧ ∀ r2 τ2, P2 r2 τ2 → r = r2 ∧ wSim τ2 := by
  obtain ⟨n, l, m, cN, nm, ⟨⟨h6, hl20, hm8, hc8⟩, ⟨hn, hn2⟩, ⟨hl, hl2⟩, ⟨hm0, hm2⟩, ⟨hc, hc2⟩, hz⟩, ⟨f6, f12, f13⟩, ⟨⟨k0, k1, k2, k3, k4⟩, g0, g1, g2⟩, ⟨rL, rE⟩, hY, hM, ⟨hP, hP9⟩, ⟨hH, hH1, hH2, hH3, hH4, hH5⟩, ⟨f25, f26, f27, f28, rT, rG, rD⟩, h22⟩ := id h
  have nn : ∀ x : Int32, 0 ≤ x → ¬ x < 0 := fun x q z => by
    have q1 := Int32.le_iff_toInt_le.mp q
    have q2 := Int32.lt_iff_toInt_lt.mp z
    omega
  obtain ⟨u0, v0, e0⟩ := nI_of2 (M := 9) (n := 9) rfl (nn _ g0.1) g0.2
  obtain ⟨u1, v1, e1⟩ := nI_of2 (M := 9) (n := 9) rfl (nn _ g1.1) g1.2
  obtain ⟨u2, v2, e2⟩ := nI_of2 (M := 50) (n := 50) rfl (nn _ g2.1) g2.2
  have hen : envC σ n (costW u0 u1 u2 (σ.1 6 0) n) := envC_mk hn h6 (fun k _ => by rw [f6]; exact rL k) (k0.trans e0) (k1.trans e1) (k2.trans e2) v0 v1 v2
  refine ⟨_, ok_X5_quarrel hw σ a hen, fun r τ h1 => ?_⟩
  obtain ⟨fr1, h1⟩ := h1
  have fr : frL [8, 10, 37] σ τ := fun g hg => fr1.1 g (fun e => hg (by rw [e]; decide))
  have hs := wSim.fr fr fr1.2 h
  have g20 := fr 20 (by decide)
  have g21 := fr 21 (by decide)
  have g24 := fr 24 (by decide)
  have hem : envM τ n (costW u0 u1 u2 (σ.1 6 0) n) := by
    have := envM_mk (σ := τ) (n := n) (c := u0) (r := u1) (g := u2) (by rw [g20]; exact hn2) h6 (fun k _ => by rw [g21]; exact rL k) (by rw [g24]; exact e0) (by rw [g24]; exact e1) (by rw [g24]; exact e2) v0 v1 v2
    rw [g21, ← f6] at this
    exact this
  refine ⟨_, ok_X6_quarrel hw τ a (by rw [g20]; exact hz) hem, fun r2 τ2 h2 => ?_⟩
  obtain ⟨fr2, h2⟩ := h2
  refine ⟨?_, wSim.fr (fun g hg => fr2.1 g (fun e => hg (by rw [e]; decide))) fr2.2 hs⟩
  rcases h1 with ⟨m1, a1, b1, c1⟩ | ⟨y1, c1⟩ <;> rcases h2 with ⟨m2, a2, b2, c2⟩ | ⟨y2, c2⟩
  · have e : m1 = m2 := by
      have q1 := b1
      have q2 := b2
      have q3 : nI m1 = nI m2 := a1.symm.trans a2
      have t : 6 ^ n ≤ 46656 := Nat.pow_le_pow_right (by decide) h6
      have t1 := b1.2.1
      have t2 := b2.2.1
      exact nI_inj31 (by omega) (by omega) q3
    rw [c1, c2, e]
  · exact absurd ⟨m1, a1, b1⟩ y2
  · exact absurd ⟨m2, a2, b2⟩ y1
  · rw [c1, c2]
theorem sim_best {w : wD} (hw : wOK w) {σ : wSt} (h : wSim σ) (a : Int32) : ∃ P : Int32 → wSt → Prop, MI w yX5_best cX5_best 3 (some .int) 6 142 [.ref (w.2.2.2.1 0 0), .int a] σ P ∧ ∀ r τ, P r τ → ∃ P2 : Int32 → wSt → Prop, MI w yX6_best cX6_best 7 (some .int) 2 48 [.ref (w.2.2.2.1 20 0), .int a] τ P2 ∧ ∀ r2 τ2, P2 r2 τ2 → r = r2 ∧ wSim τ2 := by
  obtain ⟨n, l, m, cN, nm, ⟨⟨h6, hl20, hm8, hc8⟩, ⟨hn, hn2⟩, ⟨hl, hl2⟩, ⟨hm0, hm2⟩, ⟨hc, hc2⟩, hz⟩, ⟨f6, f12, f13⟩, ⟨⟨k0, k1, k2, k3, k4⟩, g0, g1, g2⟩, ⟨rL, rE⟩, hY, hM, ⟨hP, hP9⟩, ⟨hH, hH1, hH2, hH3, hH4, hH5⟩, ⟨f25, f26, f27, f28, rT, rG, rD⟩, h22⟩ := id h
  have nn : ∀ x : Int32, 0 ≤ x → ¬ x < 0 := fun x q z => by
    have q1 := Int32.le_iff_toInt_le.mp q
    have q2 := Int32.lt_iff_toInt_lt.mp z
    omega
  obtain ⟨u0, v0, e0⟩ := nI_of2 (M := 9) (n := 9) rfl (nn _ g0.1) g0.2
  obtain ⟨u1, v1, e1⟩ := nI_of2 (M := 9) (n := 9) rfl (nn _ g1.1) g1.2
  obtain ⟨u2, v2, e2⟩ := nI_of2 (M := 50) (n := 50) rfl (nn _ g2.1) g2.2
  have hen : envC σ n (costW u0 u1 u2 (σ.1 6 0) n) := envC_mk hn h6 (fun k _ => by rw [f6]; exact rL k) (k0.trans e0) (k1.trans e1) (k2.trans e2) v0 v1 v2
  refine ⟨_, ok_X5_best hw σ a hen, fun r τ h1 => ?_⟩
  have frs : frL [8, 10, 37] σ τ ∧ τ.2 = σ.2 := by
    rcases h1 with ⟨-, rfl, -⟩ | ⟨-, -, rfl, -⟩ | ⟨-, -, q1, q2, -⟩
    · exact ⟨frL.rf, rfl⟩
    · exact ⟨frL.rf, rfl⟩
    · exact ⟨fun g hg => q1 g (fun e => hg (by rw [e]; decide)) (fun e => hg (by rw [e]; decide)), q2⟩
  obtain ⟨fr, fr0⟩ := frs
  have hs := wSim.fr fr fr0 h
  have g20 := fr 20 (by decide)
  have g21 := fr 21 (by decide)
  have g24 := fr 24 (by decide)
  have hem : envM τ n (costW u0 u1 u2 (σ.1 6 0) n) := by
    have := envM_mk (σ := τ) (n := n) (c := u0) (r := u1) (g := u2) (by rw [g20]; exact hn2) h6 (fun k _ => by rw [g21]; exact rL k) (by rw [g24]; exact e0) (by rw [g24]; exact e1) (by rw [g24]; exact e2) v0 v1 v2
    rw [g21, ← f6] at this
    exact this
  refine ⟨_, ok_X6_best hw τ a (by rw [g20]; exact hz) hem, fun r2 τ2 h2 => ?_⟩
  refine ⟨?_, ?_⟩
  · rcases h1 with ⟨y1, -, c1⟩ | ⟨y1, z1, -, c1⟩ | ⟨y1, z1, -, -, c1⟩ <;> rcases h2 with ⟨y2, -, c2⟩ | ⟨y2, z2, -, c2⟩ | ⟨y2, z2, -, c2⟩ <;> first | (rw [c1, c2]; done) | exact absurd y1 y2 | exact absurd y2 y1 | omega
  · rcases h2 with ⟨-, rfl, -⟩ | ⟨-, -, rfl, -⟩ | ⟨-, -, q1, -⟩
    · exact hs
    · exact hs
    · exact wSim.fr (fun g hg => q1.1 g (fun e => hg (by rw [e]; decide))) q1.2 hs
