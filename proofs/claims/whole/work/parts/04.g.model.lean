set_option maxHeartbeats 4000000 in
set_option maxRecDepth 100000 in
theorem ok_X6_home {w : wD} (hw : wOK w) (σ : wSt) (a b : Int32) (hz : σ.1 20 0 0 = 0) {l : Nat} (hl : σ.1 20 0 7 = nI l) (hl20 : l ≤ 20) {nm : Nat → Nat} (hH : ∀ i, i < 24 → σ.1 35 0 i = nI (nm i) ∧ nm i ≤ 6) (hP : ∀ i k, i < 24 → k < nm i → rng99 (σ.1 36 0 (6 * i + k))) : MI w yX6_home cX6_home 7 (some .int) 4 95 [.ref (w.2.2.2.1 20 0), .int a, .int b] σ (fun r τ => σ = τ ∧ ((¬ (inN (σ.1 20 0 7) a ∧ (b = 0 ∨ b = 1)) ∧ r = -1) ∨ ((inN (σ.1 20 0 7) a ∧ (b = 0 ∨ b = 1)) ∧ (b = 0 ∨ (homeU (fun q => mostU (fun s => fitU (fun k => σ.1 36 0 (6 * a.toNatClampNeg + k)) (fun k => σ.1 36 0 (120 + 6 * q + k)) (nm (20 + q)) s (nm a.toNatClampNeg))) 4).1 = -9) ∧ r = (homeU (fun q => mostU (fun s => fitU (fun k => σ.1 36 0 (6 * a.toNatClampNeg + k)) (fun k => σ.1 36 0 (120 + 6 * q + k)) (nm (20 + q)) s (nm a.toNatClampNeg))) 4).1) ∨ ((inN (σ.1 20 0 7) a ∧ (b = 0 ∨ b = 1)) ∧ ¬ b = 0 ∧ ¬ (homeU (fun q => mostU (fun s => fitU (fun k => σ.1 36 0 (6 * a.toNatClampNeg + k)) (fun k => σ.1 36 0 (120 + 6 * q + k)) (nm (20 + q)) s (nm a.toNatClampNeg))) 4).1 = -9 ∧ r = chanceU (fun q => mostU (fun s => fitU (fun k => σ.1 36 0 (6 * q + k)) (fun k => σ.1 36 0 (120 + 6 * ((homeU (fun q => mostU (fun s => fitU (fun k => σ.1 36 0 (6 * a.toNatClampNeg + k)) (fun k => σ.1 36 0 (120 + 6 * q + k)) (nm (20 + q)) s (nm a.toNatClampNeg))) 4).1).toNatClampNeg + k)) (nm (20 + ((homeU (fun q => mostU (fun s => fitU (fun k => σ.1 36 0 (6 * a.toNatClampNeg + k)) (fun k => σ.1 36 0 (120 + 6 * q + k)) (nm (20 + q)) s (nm a.toNatClampNeg))) 4).1).toNatClampNeg)) s (nm q))) a (homeU (fun q => mostU (fun s => fitU (fun k => σ.1 36 0 (6 * a.toNatClampNeg + k)) (fun k => σ.1 36 0 (120 + 6 * q + k)) (nm (20 + q)) s (nm a.toNatClampNeg))) 4).2 l))) := by
  refine MI.of hw (by decide +kernel) (Nat.le_of_ble_eq_true rfl) (fun x C hr => ?_)
  suffices key : ∀ Q, Q = QI w x (fun r τ => σ = τ ∧ ((¬ (inN (σ.1 20 0 7) a ∧ (b = 0 ∨ b = 1)) ∧ r = -1) ∨ ((inN (σ.1 20 0 7) a ∧ (b = 0 ∨ b = 1)) ∧ (b = 0 ∨ (homeU (fun q => mostU (fun s => fitU (fun k => σ.1 36 0 (6 * a.toNatClampNeg + k)) (fun k => σ.1 36 0 (120 + 6 * q + k)) (nm (20 + q)) s (nm a.toNatClampNeg))) 4).1 = -9) ∧ r = (homeU (fun q => mostU (fun s => fitU (fun k => σ.1 36 0 (6 * a.toNatClampNeg + k)) (fun k => σ.1 36 0 (120 + 6 * q + k)) (nm (20 + q)) s (nm a.toNatClampNeg))) 4).1) ∨ ((inN (σ.1 20 0 7) a ∧ (b = 0 ∨ b = 1)) ∧ ¬ b = 0 ∧ ¬ (homeU (fun q => mostU (fun s => fitU (fun k => σ.1 36 0 (6 * a.toNatClampNeg + k)) (fun k => σ.1 36 0 (120 + 6 * q + k)) (nm (20 + q)) s (nm a.toNatClampNeg))) 4).1 = -9 ∧ r = chanceU (fun q => mostU (fun s => fitU (fun k => σ.1 36 0 (6 * q + k)) (fun k => σ.1 36 0 (120 + 6 * ((homeU (fun q => mostU (fun s => fitU (fun k => σ.1 36 0 (6 * a.toNatClampNeg + k)) (fun k => σ.1 36 0 (120 + 6 * q + k)) (nm (20 + q)) s (nm a.toNatClampNeg))) 4).1).toNatClampNeg + k)) (nm (20 + ((homeU (fun q => mostU (fun s => fitU (fun k => σ.1 36 0 (6 * a.toNatClampNeg + k)) (fun k => σ.1 36 0 (120 + 6 * q + k)) (nm (20 + q)) s (nm a.toNatClampNeg))) 4).1).toNatClampNeg)) s (nm q))) a (homeU (fun q => mostU (fun s => fitU (fun k => σ.1 36 0 (6 * a.toNatClampNeg + k)) (fun k => σ.1 36 0 (120 + 6 * q + k)) (nm (20 + q)) s (nm a.toNatClampNeg))) 4).2 l))) → G w x 7 Q 0 [(0, .ref (w.2.2.2.1 20 0)), (1, .int a), (2, .int b)] [] σ from key _ rfl
  intro Q hQ
  refine G.aload_n C 0 dX6_home_0 rfl rfl ?_
  refine G.iconst (v := 0) C dX6_home_1 (by decide) ?_
  refine G.put (g := 20) (i := 0) C 0 none dX6_home_2 (by decide) rfl rfl uX_X6 tyX6 tyX6_ok nmX6 (by decide) uf_RX6_61 rfl rfl (by decide +kernel) (Nat.le_of_ble_eq_true rfl) w_up_20_0 ?_
  rw [wUp_id hz]
  refine G.aload_n C 0 dX6_home_5 rfl rfl ?_
  refine G.iload_n C 1 dX6_home_6 rfl rfl ?_
  have hM_0 := ok_X6_isLeaf hw σ a hl hl20
  refine G.callV C (g := 20) (i := 0) none hM_0 dX6_home_7 (by decide) rfl rfl rfl uv_X6_isLeaf ul_RX6_91 rfl rfl (by decide) (Nat.le_of_ble_eq_true rfl) (fun r_7 τ_7 h_7 => ?_)
  obtain ⟨h_7, e_7⟩ := h_7; subst h_7
  refine G.if_eq (tgt := 22) C dX6_home_10 (by decide) (fun c_10 => ?_) (fun c_10 => ?_)
  · have b_7 := wb_0 e_7 c_10
    refine G.iconst (v := -1) C dX6_home_22 (by decide) ?_
    subst hQ
    exact G.iret C hr dX6_home_23 (by
        refine ⟨rfl, Or.inl ⟨fun q => ?_, rfl⟩⟩
        first | exact b_7 q.1 | exact b_16 (w_le1.mpr q.2))
  · have b_7 := wb_1 e_7 c_10
    refine G.iload_n C 2 dX6_home_13 rfl rfl ?_
    refine G.iconst (v := 0) C dX6_home_14 (by decide) ?_
    refine G.iconst (v := 1) C dX6_home_15 (by decide) ?_
    have hM_1 := ok_X6_in hw σ b 0 1
    refine G.callS C none hM_1 dX6_home_16 us_X6_in ul_RX6_65 rfl rfl (by decide) (Nat.le_of_ble_eq_true rfl) (fun r_16 τ_16 h_16 => ?_)
    obtain ⟨h_16, e_16⟩ := h_16; subst h_16
    refine G.if_ne (tgt := 24) C dX6_home_19 (by decide) (fun c_19 => ?_) (fun c_19 => ?_)
    · have b_16 := wb_1 e_16 c_19
      refine G.bipush (v := -9) C dX6_home_24 (by decide) ?_
      refine G.istore_n (L1 := [(3, .int (-9)), (0, .ref (w.2.2.2.1 20 0)), (1, .int a), (2, .int b)]) C dX6_home_26 rfl (by decide) rfl ?_
      refine G.iconst (v := 1) C dX6_home_27 (by decide) ?_
      refine G.istore (L1 := [(4, .int 1), (3, .int (-9)), (0, .ref (w.2.2.2.1 20 0)), (1, .int a), (2, .int b)]) C dX6_home_28 (by decide) rfl ?_
      refine G.iconst (v := 0) C dX6_home_30 (by decide) ?_
      refine G.istore (L1 := [(5, .int 0), (4, .int 1), (3, .int (-9)), (0, .ref (w.2.2.2.1 20 0)), (1, .int a), (2, .int b)]) C dX6_home_31 (by decide) rfl ?_
      have cut_33 : ∀ (m9 : Nat) (j : Nat) (x5 x4 x3 : Int32), j ≤ 4 → 4 < j + m9 → x5 = nI j → x4 = (homeU (fun q => mostU (fun s => fitU (fun k => σ.1 36 0 (6 * a.toNatClampNeg + k)) (fun k => σ.1 36 0 (120 + 6 * q + k)) (nm (20 + q)) s (nm a.toNatClampNeg))) j).2 → x3 = (homeU (fun q => mostU (fun s => fitU (fun k => σ.1 36 0 (6 * a.toNatClampNeg + k)) (fun k => σ.1 36 0 (120 + 6 * q + k)) (nm (20 + q)) s (nm a.toNatClampNeg))) j).1 → G w x 7 Q 33 [(5, .int x5), (4, .int x4), (3, .int x3), (0, .ref (w.2.2.2.1 20 0)), (1, .int a), (2, .int b)] [] σ := by
        intro m9
        induction m9 with
        | zero =>
          intro j x5 x4 x3 hj hm hx5 hx4 hx3
          exfalso
          omega
        | succ m9 ih_33 =>
          intro j x5 x4 x3 hj hm hx5 hx4 hx3
          subst hx5
          subst hx4
          subst hx3
          refine G.iload C 0 dX6_home_33 rfl ?_
          refine G.iconst (v := 4) C dX6_home_35 (by decide) ?_
          refine G.icmp_ge (tgt := 68) C dX6_home_36 (by decide) (fun c_36 => ?_) (fun c_36 => ?_)
          · have hjn : j = 4 := by
              rw [show (4 : Int32) = nI 4 from rfl, nI_leI (by decide) (by omega)] at c_36; omega
            have cut_68 : ∀ (y4 y3 : Int32), y4 = (homeU (fun q => mostU (fun s => fitU (fun k => σ.1 36 0 (6 * a.toNatClampNeg + k)) (fun k => σ.1 36 0 (120 + 6 * q + k)) (nm (20 + q)) s (nm a.toNatClampNeg))) 4).2 → y3 = (homeU (fun q => mostU (fun s => fitU (fun k => σ.1 36 0 (6 * a.toNatClampNeg + k)) (fun k => σ.1 36 0 (120 + 6 * q + k)) (nm (20 + q)) s (nm a.toNatClampNeg))) 4).1 → G w x 7 Q 68 [(4, .int y4), (3, .int y3), (0, .ref (w.2.2.2.1 20 0)), (1, .int a), (2, .int b)] [] σ := by
              intro y4 y3 hy4 hy3
              subst hy4
              subst hy3
              refine G.iload_n C 1 dX6_home_68 rfl rfl ?_
              refine G.bipush (v := -9) C dX6_home_69 (by decide) ?_
              refine G.icmp_eq (tgt := 78) C dX6_home_71 (by decide) (fun c_71 => ?_) (fun c_71 => ?_)
              · refine G.iload_n C 1 dX6_home_78 rfl rfl ?_
                subst hQ
                exact G.iret C hr dX6_home_79 (by
                    exact ⟨rfl, Or.inr (Or.inl ⟨⟨b_7, w_le1.mp b_16⟩, Or.inr c_71, rfl⟩)⟩)
              · have hsrc := (homeU_src (M := (fun q => mostU (fun s => fitU (fun k => σ.1 36 0 (6 * a.toNatClampNeg + k)) (fun k => σ.1 36 0 (120 + 6 * q + k)) (nm (20 + q)) s (nm a.toNatClampNeg)))) 4).resolve_left (fun q => c_71 q.1)
                obtain ⟨j3, hj4, hj5, hj6⟩ := hsrc
                refine G.iload_n C 4 dX6_home_74 rfl rfl ?_
                refine G.if_ne (tgt := 80) C dX6_home_75 (by decide) (fun c_75 => ?_) (fun c_75 => ?_)
                · have c_75b := c_75
                  refine G.iconst (v := 0) C dX6_home_80 (by decide) ?_
                  refine G.istore (L1 := [(5, .int 0), (4, .int ((homeU (fun q => mostU (fun s => fitU (fun k => σ.1 36 0 (6 * a.toNatClampNeg + k)) (fun k => σ.1 36 0 (120 + 6 * q + k)) (nm (20 + q)) s (nm a.toNatClampNeg))) 4).2)), (3, .int ((homeU (fun q => mostU (fun s => fitU (fun k => σ.1 36 0 (6 * a.toNatClampNeg + k)) (fun k => σ.1 36 0 (120 + 6 * q + k)) (nm (20 + q)) s (nm a.toNatClampNeg))) 4).1)), (0, .ref (w.2.2.2.1 20 0)), (1, .int a), (2, .int b)]) C dX6_home_81 (by decide) rfl ?_
                  refine G.iconst (v := 0) C dX6_home_83 (by decide) ?_
                  refine G.istore (L1 := [(6, .int 0), (5, .int 0), (4, .int ((homeU (fun q => mostU (fun s => fitU (fun k => σ.1 36 0 (6 * a.toNatClampNeg + k)) (fun k => σ.1 36 0 (120 + 6 * q + k)) (nm (20 + q)) s (nm a.toNatClampNeg))) 4).2)), (3, .int ((homeU (fun q => mostU (fun s => fitU (fun k => σ.1 36 0 (6 * a.toNatClampNeg + k)) (fun k => σ.1 36 0 (120 + 6 * q + k)) (nm (20 + q)) s (nm a.toNatClampNeg))) 4).1)), (0, .ref (w.2.2.2.1 20 0)), (1, .int a), (2, .int b)]) C dX6_home_84 (by decide) rfl ?_
                  have cut_86 : ∀ (m9 : Nat) (j2 : Nat) (x6 x5 : Int32), j2 ≤ l → l < j2 + m9 → x6 = nI j2 → x5 = chanceU (fun q => mostU (fun s => fitU (fun k => σ.1 36 0 (6 * q + k)) (fun k => σ.1 36 0 (120 + 6 * ((homeU (fun q => mostU (fun s => fitU (fun k => σ.1 36 0 (6 * a.toNatClampNeg + k)) (fun k => σ.1 36 0 (120 + 6 * q + k)) (nm (20 + q)) s (nm a.toNatClampNeg))) 4).1).toNatClampNeg + k)) (nm (20 + ((homeU (fun q => mostU (fun s => fitU (fun k => σ.1 36 0 (6 * a.toNatClampNeg + k)) (fun k => σ.1 36 0 (120 + 6 * q + k)) (nm (20 + q)) s (nm a.toNatClampNeg))) 4).1).toNatClampNeg)) s (nm q))) a (homeU (fun q => mostU (fun s => fitU (fun k => σ.1 36 0 (6 * a.toNatClampNeg + k)) (fun k => σ.1 36 0 (120 + 6 * q + k)) (nm (20 + q)) s (nm a.toNatClampNeg))) 4).2 j2 → G w x 7 Q 86 [(6, .int x6), (5, .int x5), (4, .int ((homeU (fun q => mostU (fun s => fitU (fun k => σ.1 36 0 (6 * a.toNatClampNeg + k)) (fun k => σ.1 36 0 (120 + 6 * q + k)) (nm (20 + q)) s (nm a.toNatClampNeg))) 4).2)), (3, .int ((homeU (fun q => mostU (fun s => fitU (fun k => σ.1 36 0 (6 * a.toNatClampNeg + k)) (fun k => σ.1 36 0 (120 + 6 * q + k)) (nm (20 + q)) s (nm a.toNatClampNeg))) 4).1)), (0, .ref (w.2.2.2.1 20 0)), (1, .int a)] [] σ := by
                    intro m9
                    induction m9 with
                    | zero =>
                      intro j2 x6 x5 hj2 hm3 hx6 hx5
                      exfalso
                      omega
                    | succ m9 ih_86 =>
                      intro j2 x6 x5 hj2 hm3 hx6 hx5
                      subst hx6
                      subst hx5
                      refine G.iload C 0 dX6_home_86 rfl ?_
                      refine G.aload_n C 4 dX6_home_88 rfl rfl ?_
                      refine G.get (g := 20) (i := 0) C 7 none dX6_home_89 (by decide) rfl rfl uX_X6 (by decide) uf_RX6_88 rfl rfl ?_
                      refine G.icmp_ge (tgt := 129) C dX6_home_92 (by decide) (fun c_92 => ?_) (fun c_92 => ?_)
                      · have hj3 : j2 = l := by
                          rw [hl, nI_leI (by omega) (by omega)] at c_92; omega
                        refine G.iload C 1 dX6_home_129 rfl ?_
                        subst hQ
                        exact G.iret C hr dX6_home_131 (by
                            rw [hj3]
                            exact ⟨rfl, Or.inr (Or.inr ⟨⟨b_7, w_le1.mp b_16⟩, c_75, c_71, rfl⟩)⟩)
                      · have hj3 : j2 < l := by
                          rw [hl, nI_leI (by omega) (by omega)] at c_92; omega
                        refine G.iload C 1 dX6_home_95 rfl ?_
                        refine G.iload C 0 dX6_home_97 rfl ?_
                        refine G.iload_n C 5 dX6_home_99 rfl rfl ?_
                        refine G.icmp_eq (tgt := 119) C dX6_home_100 (by decide) (fun c_100 => ?_) (fun c_100 => ?_)
                        · refine G.iconst (v := 0) C dX6_home_119 (by decide) ?_
                          refine G.iadd C dX6_home_120 ?_
                          refine G.topi (fun x5_121 ex5_121 => ?_)
                          refine G.istore (L1 := [(5, .int x5_121), (6, .int (nI j2)), (4, .int ((homeU (fun q => mostU (fun s => fitU (fun k => σ.1 36 0 (6 * a.toNatClampNeg + k)) (fun k => σ.1 36 0 (120 + 6 * q + k)) (nm (20 + q)) s (nm a.toNatClampNeg))) 4).2)), (3, .int ((homeU (fun q => mostU (fun s => fitU (fun k => σ.1 36 0 (6 * a.toNatClampNeg + k)) (fun k => σ.1 36 0 (120 + 6 * q + k)) (nm (20 + q)) s (nm a.toNatClampNeg))) 4).1)), (0, .ref (w.2.2.2.1 20 0)), (1, .int a)]) C dX6_home_121 (by decide) rfl ?_
                          obtain ⟨x6_123, ex6_123⟩ : ∃ z : Int32, z = (nI j2) + 1 := ⟨_, rfl⟩
                          refine G.iinc (v := x6_123) (L1 := [(6, .int x6_123), (5, .int x5_121), (4, .int ((homeU (fun q => mostU (fun s => fitU (fun k => σ.1 36 0 (6 * a.toNatClampNeg + k)) (fun k => σ.1 36 0 (120 + 6 * q + k)) (nm (20 + q)) s (nm a.toNatClampNeg))) 4).2)), (3, .int ((homeU (fun q => mostU (fun s => fitU (fun k => σ.1 36 0 (6 * a.toNatClampNeg + k)) (fun k => σ.1 36 0 (120 + 6 * q + k)) (nm (20 + q)) s (nm a.toNatClampNeg))) 4).1)), (0, .ref (w.2.2.2.1 20 0)), (1, .int a)]) C 1 dX6_home_123 rfl (by rw [ex6_123]; rfl) (by decide) rfl ?_
                          refine G.goto (tgt := 86) C dX6_home_126 (by decide) ?_
                          refine ih_86  (j2 + 1) _ _ ?_ ?_ ?_ ?_
                          · omega
                          · omega
                          · rw [ex6_123]; exact nI_1 j2
                          · rw [ex5_121, i_add0, chanceU_f (fun q => q.1 c_100)]
                        · refine G.aload_n C 4 dX6_home_103 rfl rfl ?_
                          refine G.iload C 0 dX6_home_104 rfl ?_
                          refine G.iload_n C 3 dX6_home_106 rfl rfl ?_
                          have hM_2 := ok_X6_most hw σ (nI j2) ((homeU (fun q => mostU (fun s => fitU (fun k => σ.1 36 0 (6 * a.toNatClampNeg + k)) (fun k => σ.1 36 0 (120 + 6 * q + k)) (nm (20 + q)) s (nm a.toNatClampNeg))) 4).1) hH hP (vp_in_nI (by omega) (by decide)) (by rw [hj5]; exact vp_in_nI hj4 (by decide))
                          refine G.callV C (g := 20) (i := 0) none hM_2 dX6_home_107 (by decide) rfl rfl rfl uv_X6_most ul_RX6_134 rfl rfl (by decide) (Nat.le_of_ble_eq_true rfl) (fun r_107 τ_107 h_107 => ?_)
                          obtain ⟨h_107, e_107⟩ := h_107; subst h_107
                          refine G.iload C 2 dX6_home_110 rfl ?_
                          refine G.icmp_lt (tgt := 119) C dX6_home_112 (by decide) (fun c_112 => ?_) (fun c_112 => ?_)
                          · refine G.iconst (v := 0) C dX6_home_119 (by decide) ?_
                            refine G.iadd C dX6_home_120 ?_
                            refine G.topi (fun x5_121 ex5_121 => ?_)
                            refine G.istore (L1 := [(5, .int x5_121), (6, .int (nI j2)), (4, .int ((homeU (fun q => mostU (fun s => fitU (fun k => σ.1 36 0 (6 * a.toNatClampNeg + k)) (fun k => σ.1 36 0 (120 + 6 * q + k)) (nm (20 + q)) s (nm a.toNatClampNeg))) 4).2)), (3, .int ((homeU (fun q => mostU (fun s => fitU (fun k => σ.1 36 0 (6 * a.toNatClampNeg + k)) (fun k => σ.1 36 0 (120 + 6 * q + k)) (nm (20 + q)) s (nm a.toNatClampNeg))) 4).1)), (0, .ref (w.2.2.2.1 20 0)), (1, .int a)]) C dX6_home_121 (by decide) rfl ?_
                            obtain ⟨x6_123, ex6_123⟩ : ∃ z : Int32, z = (nI j2) + 1 := ⟨_, rfl⟩
                            refine G.iinc (v := x6_123) (L1 := [(6, .int x6_123), (5, .int x5_121), (4, .int ((homeU (fun q => mostU (fun s => fitU (fun k => σ.1 36 0 (6 * a.toNatClampNeg + k)) (fun k => σ.1 36 0 (120 + 6 * q + k)) (nm (20 + q)) s (nm a.toNatClampNeg))) 4).2)), (3, .int ((homeU (fun q => mostU (fun s => fitU (fun k => σ.1 36 0 (6 * a.toNatClampNeg + k)) (fun k => σ.1 36 0 (120 + 6 * q + k)) (nm (20 + q)) s (nm a.toNatClampNeg))) 4).1)), (0, .ref (w.2.2.2.1 20 0)), (1, .int a)]) C 1 dX6_home_123 rfl (by rw [ex6_123]; rfl) (by decide) rfl ?_
                            refine G.goto (tgt := 86) C dX6_home_126 (by decide) ?_
                            refine ih_86  (j2 + 1) _ _ ?_ ?_ ?_ ?_
                            · omega
                            · omega
                            · rw [ex6_123]; exact nI_1 j2
                            · rw [nI_clamp (show j2 < 2 ^ 31 by omega)] at e_107
                              rw [ex5_121, i_add0, chanceU_f (fun q => Int32.not_le.mpr c_112 (by rw [e_107]; exact q.2))]
                          · refine G.iconst (v := 1) C dX6_home_115 (by decide) ?_
                            refine G.goto (tgt := 120) C dX6_home_116 (by decide) ?_
                            refine G.iadd C dX6_home_120 ?_
                            refine G.topi (fun x5_121 ex5_121 => ?_)
                            refine G.istore (L1 := [(5, .int x5_121), (6, .int (nI j2)), (4, .int ((homeU (fun q => mostU (fun s => fitU (fun k => σ.1 36 0 (6 * a.toNatClampNeg + k)) (fun k => σ.1 36 0 (120 + 6 * q + k)) (nm (20 + q)) s (nm a.toNatClampNeg))) 4).2)), (3, .int ((homeU (fun q => mostU (fun s => fitU (fun k => σ.1 36 0 (6 * a.toNatClampNeg + k)) (fun k => σ.1 36 0 (120 + 6 * q + k)) (nm (20 + q)) s (nm a.toNatClampNeg))) 4).1)), (0, .ref (w.2.2.2.1 20 0)), (1, .int a)]) C dX6_home_121 (by decide) rfl ?_
                            obtain ⟨x6_123, ex6_123⟩ : ∃ z : Int32, z = (nI j2) + 1 := ⟨_, rfl⟩
                            refine G.iinc (v := x6_123) (L1 := [(6, .int x6_123), (5, .int x5_121), (4, .int ((homeU (fun q => mostU (fun s => fitU (fun k => σ.1 36 0 (6 * a.toNatClampNeg + k)) (fun k => σ.1 36 0 (120 + 6 * q + k)) (nm (20 + q)) s (nm a.toNatClampNeg))) 4).2)), (3, .int ((homeU (fun q => mostU (fun s => fitU (fun k => σ.1 36 0 (6 * a.toNatClampNeg + k)) (fun k => σ.1 36 0 (120 + 6 * q + k)) (nm (20 + q)) s (nm a.toNatClampNeg))) 4).1)), (0, .ref (w.2.2.2.1 20 0)), (1, .int a)]) C 1 dX6_home_123 rfl (by rw [ex6_123]; rfl) (by decide) rfl ?_
                            refine G.goto (tgt := 86) C dX6_home_126 (by decide) ?_
                            refine ih_86  (j2 + 1) _ _ ?_ ?_ ?_ ?_
                            · omega
                            · omega
                            · rw [ex6_123]; exact nI_1 j2
                            · rw [nI_clamp (show j2 < 2 ^ 31 by omega)] at e_107
                              rw [ex5_121, chanceU_t ⟨c_100, by rw [← e_107]; exact Int32.not_lt.mp c_112⟩]
                  refine G.sub (L1 := [(6, .int 0), (5, .int 0), (4, .int ((homeU (fun q => mostU (fun s => fitU (fun k => σ.1 36 0 (6 * a.toNatClampNeg + k)) (fun k => σ.1 36 0 (120 + 6 * q + k)) (nm (20 + q)) s (nm a.toNatClampNeg))) 4).2)), (3, .int ((homeU (fun q => mostU (fun s => fitU (fun k => σ.1 36 0 (6 * a.toNatClampNeg + k)) (fun k => σ.1 36 0 (120 + 6 * q + k)) (nm (20 + q)) s (nm a.toNatClampNeg))) 4).1)), (0, .ref (w.2.2.2.1 20 0)), (1, .int a)]) [0, 1, 2, 3, 4, 5] rfl ?_
                  refine cut_86 (l + 1) 0 _ _ ?_ ?_ ?_ ?_
                  · omega
                  · omega
                  · rfl
                  · rfl
                · refine G.iload_n C 1 dX6_home_78 rfl rfl ?_
                  subst hQ
                  exact G.iret C hr dX6_home_79 (by
                      exact ⟨rfl, Or.inr (Or.inl ⟨⟨b_7, w_le1.mp b_16⟩, Or.inl c_75, rfl⟩)⟩)
            refine G.sub (L1 := [(4, .int ((homeU (fun q => mostU (fun s => fitU (fun k => σ.1 36 0 (6 * a.toNatClampNeg + k)) (fun k => σ.1 36 0 (120 + 6 * q + k)) (nm (20 + q)) s (nm a.toNatClampNeg))) j).2)), (3, .int ((homeU (fun q => mostU (fun s => fitU (fun k => σ.1 36 0 (6 * a.toNatClampNeg + k)) (fun k => σ.1 36 0 (120 + 6 * q + k)) (nm (20 + q)) s (nm a.toNatClampNeg))) j).1)), (0, .ref (w.2.2.2.1 20 0)), (1, .int a), (2, .int b)]) [1, 2, 3, 4, 5] rfl ?_
            refine cut_68  _ _ ?_ ?_
            · rw [hjn]
            · rw [hjn]
          · have hjn : j < 4 := by
              rw [show (4 : Int32) = nI 4 from rfl, nI_leI (by decide) (by omega)] at c_36; omega
            refine G.aload_n C 3 dX6_home_39 rfl rfl ?_
            refine G.iload_n C 4 dX6_home_40 rfl rfl ?_
            refine G.iload C 0 dX6_home_41 rfl ?_
            have hM_3 := ok_X6_most hw σ a (nI j) hH hP (vp_ofc b_7 hl hl20 (by decide)) (vp_in_nI hjn (by decide))
            refine G.callV C (g := 20) (i := 0) none hM_3 dX6_home_43 (by decide) rfl rfl rfl uv_X6_most ul_RX6_134 rfl rfl (by decide) (Nat.le_of_ble_eq_true rfl) (fun r_43 τ_43 h_43 => ?_)
            obtain ⟨h_43, e_43⟩ := h_43; subst h_43
            rw [nI_clamp (show j < 2 ^ 31 by omega)] at e_43
            refine G.istore (L1 := [(6, .int r_43), (5, .int (nI j)), (4, .int ((homeU (fun q => mostU (fun s => fitU (fun k => σ.1 36 0 (6 * a.toNatClampNeg + k)) (fun k => σ.1 36 0 (120 + 6 * q + k)) (nm (20 + q)) s (nm a.toNatClampNeg))) j).2)), (3, .int ((homeU (fun q => mostU (fun s => fitU (fun k => σ.1 36 0 (6 * a.toNatClampNeg + k)) (fun k => σ.1 36 0 (120 + 6 * q + k)) (nm (20 + q)) s (nm a.toNatClampNeg))) j).1)), (0, .ref (w.2.2.2.1 20 0)), (1, .int a), (2, .int b)]) C dX6_home_46 (by decide) rfl ?_
            refine G.iload C 0 dX6_home_48 rfl ?_
            refine G.iload C 2 dX6_home_50 rfl ?_
            refine G.icmp_le (tgt := 62) C dX6_home_52 (by decide) (fun c_52 => ?_) (fun c_52 => ?_)
            · obtain ⟨x5_62, ex5_62⟩ : ∃ z : Int32, z = (nI j) + 1 := ⟨_, rfl⟩
              refine G.iinc (v := x5_62) (L1 := [(5, .int x5_62), (6, .int r_43), (4, .int ((homeU (fun q => mostU (fun s => fitU (fun k => σ.1 36 0 (6 * a.toNatClampNeg + k)) (fun k => σ.1 36 0 (120 + 6 * q + k)) (nm (20 + q)) s (nm a.toNatClampNeg))) j).2)), (3, .int ((homeU (fun q => mostU (fun s => fitU (fun k => σ.1 36 0 (6 * a.toNatClampNeg + k)) (fun k => σ.1 36 0 (120 + 6 * q + k)) (nm (20 + q)) s (nm a.toNatClampNeg))) j).1)), (0, .ref (w.2.2.2.1 20 0)), (1, .int a), (2, .int b)]) C 1 dX6_home_62 rfl (by rw [ex5_62]; rfl) (by decide) rfl ?_
              refine G.goto (tgt := 33) C dX6_home_65 (by decide) ?_
              refine G.sub (L1 := [(5, .int x5_62), (4, .int ((homeU (fun q => mostU (fun s => fitU (fun k => σ.1 36 0 (6 * a.toNatClampNeg + k)) (fun k => σ.1 36 0 (120 + 6 * q + k)) (nm (20 + q)) s (nm a.toNatClampNeg))) j).2)), (3, .int ((homeU (fun q => mostU (fun s => fitU (fun k => σ.1 36 0 (6 * a.toNatClampNeg + k)) (fun k => σ.1 36 0 (120 + 6 * q + k)) (nm (20 + q)) s (nm a.toNatClampNeg))) j).1)), (0, .ref (w.2.2.2.1 20 0)), (1, .int a), (2, .int b)]) [0, 2, 3, 4, 5, 6] rfl ?_
              refine ih_33  (j + 1) _ _ _ ?_ ?_ ?_ ?_ ?_
              · omega
              · omega
              · rw [ex5_62]; exact nI_1 j
              · rw [homeU_f (M := (fun q => mostU (fun s => fitU (fun k => σ.1 36 0 (6 * a.toNatClampNeg + k)) (fun k => σ.1 36 0 (120 + 6 * q + k)) (nm (20 + q)) s (nm a.toNatClampNeg)))) (fun q => Int32.not_le.mpr q (e_43 ▸ c_52))]
              · rw [homeU_f (M := (fun q => mostU (fun s => fitU (fun k => σ.1 36 0 (6 * a.toNatClampNeg + k)) (fun k => σ.1 36 0 (120 + 6 * q + k)) (nm (20 + q)) s (nm a.toNatClampNeg)))) (fun q => Int32.not_le.mpr q (e_43 ▸ c_52))]
            · refine G.iload C 0 dX6_home_55 rfl ?_
              refine G.istore (L1 := [(4, .int r_43), (6, .int r_43), (5, .int (nI j)), (3, .int ((homeU (fun q => mostU (fun s => fitU (fun k => σ.1 36 0 (6 * a.toNatClampNeg + k)) (fun k => σ.1 36 0 (120 + 6 * q + k)) (nm (20 + q)) s (nm a.toNatClampNeg))) j).1)), (0, .ref (w.2.2.2.1 20 0)), (1, .int a), (2, .int b)]) C dX6_home_57 (by decide) rfl ?_
              refine G.iload C 2 dX6_home_59 rfl ?_
              refine G.topi (fun x3_61 ex3_61 => ?_)
              refine G.istore_n (L1 := [(3, .int x3_61), (4, .int r_43), (6, .int r_43), (5, .int (nI j)), (0, .ref (w.2.2.2.1 20 0)), (1, .int a), (2, .int b)]) C dX6_home_61 rfl (by decide) rfl ?_
              obtain ⟨x5_62, ex5_62⟩ : ∃ z : Int32, z = (nI j) + 1 := ⟨_, rfl⟩
              refine G.iinc (v := x5_62) (L1 := [(5, .int x5_62), (3, .int x3_61), (4, .int r_43), (6, .int r_43), (0, .ref (w.2.2.2.1 20 0)), (1, .int a), (2, .int b)]) C 3 dX6_home_62 rfl (by rw [ex5_62]; rfl) (by decide) rfl ?_
              refine G.goto (tgt := 33) C dX6_home_65 (by decide) ?_
              refine G.sub (L1 := [(5, .int x5_62), (4, .int r_43), (3, .int x3_61), (0, .ref (w.2.2.2.1 20 0)), (1, .int a), (2, .int b)]) [0, 2, 1, 4, 5, 6] rfl ?_
              refine ih_33  (j + 1) _ _ _ ?_ ?_ ?_ ?_ ?_
              · omega
              · omega
              · rw [ex5_62]; exact nI_1 j
              · rw [homeU_t (M := (fun q => mostU (fun s => fitU (fun k => σ.1 36 0 (6 * a.toNatClampNeg + k)) (fun k => σ.1 36 0 (120 + 6 * q + k)) (nm (20 + q)) s (nm a.toNatClampNeg)))) (by rw [← e_43]; exact Int32.not_le.mp c_52)]
                exact e_43
              · rw [homeU_t (M := (fun q => mostU (fun s => fitU (fun k => σ.1 36 0 (6 * a.toNatClampNeg + k)) (fun k => σ.1 36 0 (120 + 6 * q + k)) (nm (20 + q)) s (nm a.toNatClampNeg)))) (by rw [← e_43]; exact Int32.not_le.mp c_52)]
                try assumption
      refine cut_33 5 0 _ _ _ ?_ ?_ ?_ ?_ ?_
      · omega
      · omega
      · rfl
      · rfl
      · rfl
    · have b_16 := wb_0 e_16 c_19
      refine G.iconst (v := -1) C dX6_home_22 (by decide) ?_
      subst hQ
      exact G.iret C hr dX6_home_23 (by
          refine ⟨rfl, Or.inl ⟨fun q => ?_, rfl⟩⟩
          first | exact b_7 q.1 | exact b_16 (w_le1.mpr q.2))
set_option maxHeartbeats 4000000 in
set_option maxRecDepth 100000 in
theorem ok_X6_count {w : wD} (hw : wOK w) (σ : wSt) (a : Int32) (hz : σ.1 20 0 0 = 0) {n : Nat} (hn : σ.1 20 0 2 = nI n) (h6 : n ≤ 6) {l : Nat} (hl : σ.1 20 0 7 = nI l) (hl20 : l ≤ 20) : MI w yX6_count cX6_count 6 (some .int) 1 23 [.ref (w.2.2.2.1 20 0), .int a] σ (fun r τ => σ = τ ∧ ((¬ (0 ≤ a ∧ a ≤ 5) ∧ r = -1) ∨ ((0 ≤ a ∧ a ≤ 5) ∧ r = if a = 0 then σ.1 20 0 2 else if a = 1 then σ.1 20 0 7 else if a = 2 then σ.1 20 0 14 else if a = 3 then σ.1 20 0 17 else if a = 4 then cntU (fun q => candU (σ.1 21 0) (σ.1 25 0 q) (σ.1 26 0 q) n) 0 l else cntU (fun q => candU (σ.1 21 0) (σ.1 25 0 q) (σ.1 26 0 q) n) 1 l))) := by
  refine MI.of hw (by decide +kernel) (Nat.le_of_ble_eq_true rfl) (fun x C hr => ?_)
  suffices key : ∀ Q, Q = QI w x (fun r τ => σ = τ ∧ ((¬ (0 ≤ a ∧ a ≤ 5) ∧ r = -1) ∨ ((0 ≤ a ∧ a ≤ 5) ∧ r = if a = 0 then σ.1 20 0 2 else if a = 1 then σ.1 20 0 7 else if a = 2 then σ.1 20 0 14 else if a = 3 then σ.1 20 0 17 else if a = 4 then cntU (fun q => candU (σ.1 21 0) (σ.1 25 0 q) (σ.1 26 0 q) n) 0 l else cntU (fun q => candU (σ.1 21 0) (σ.1 25 0 q) (σ.1 26 0 q) n) 1 l))) → G w x 6 Q 0 [(0, .ref (w.2.2.2.1 20 0)), (1, .int a)] [] σ from key _ rfl
  intro Q hQ
  refine G.aload_n C 0 dX6_count_0 rfl rfl ?_
  refine G.iconst (v := 0) C dX6_count_1 (by decide) ?_
  refine G.put (g := 20) (i := 0) C 0 none dX6_count_2 (by decide) rfl rfl uX_X6 tyX6 tyX6_ok nmX6 (by decide) uf_RX6_61 rfl rfl (by decide +kernel) (Nat.le_of_ble_eq_true rfl) w_up_20_0 ?_
  rw [wUp_id hz]
  refine G.iconst (v := 0) C dX6_count_5 (by decide) ?_
  refine G.istore_n (L1 := [(2, .int 0), (0, .ref (w.2.2.2.1 20 0)), (1, .int a)]) C dX6_count_6 rfl (by decide) rfl ?_
  refine G.iconst (v := 0) C dX6_count_7 (by decide) ?_
  refine G.istore_n (L1 := [(3, .int 0), (2, .int 0), (0, .ref (w.2.2.2.1 20 0)), (1, .int a)]) C dX6_count_8 rfl (by decide) rfl ?_
  refine G.iconst (v := 0) C dX6_count_9 (by decide) ?_
  refine G.istore (L1 := [(4, .int 0), (3, .int 0), (2, .int 0), (0, .ref (w.2.2.2.1 20 0)), (1, .int a)]) C dX6_count_10 (by decide) rfl ?_
  have cut_12 : ∀ (m9 : Nat) (j : Nat) (x4 x3 x2 : Int32), j ≤ l → l < j + m9 → x4 = nI j → x3 = cntU (fun q => candU (σ.1 21 0) (σ.1 25 0 q) (σ.1 26 0 q) n) 1 j → x2 = cntU (fun q => candU (σ.1 21 0) (σ.1 25 0 q) (σ.1 26 0 q) n) 0 j → G w x 6 Q 12 [(4, .int x4), (3, .int x3), (2, .int x2), (0, .ref (w.2.2.2.1 20 0)), (1, .int a)] [] σ := by
    intro m9
    induction m9 with
    | zero =>
      intro j x4 x3 x2 hj hm hx4 hx3 hx2
      exfalso
      omega
    | succ m9 ih_12 =>
      intro j x4 x3 x2 hj hm hx4 hx3 hx2
      subst hx4
      subst hx3
      subst hx2
      refine G.iload C 0 dX6_count_12 rfl ?_
      refine G.aload_n C 3 dX6_count_14 rfl rfl ?_
      refine G.get (g := 20) (i := 0) C 7 none dX6_count_15 (by decide) rfl rfl uX_X6 (by decide) uf_RX6_88 rfl rfl ?_
      refine G.icmp_ge (tgt := 65) C dX6_count_18 (by decide) (fun c_18 => ?_) (fun c_18 => ?_)
      · have hjn : j = l := by
          rw [hl, nI_leI (by omega) (by omega)] at c_18; omega
        refine G.iload_n C 4 dX6_count_65 rfl rfl ?_
        refine G.table C dX6_count_66 (fun j off hj hb ho => ?_) (by decide) (fun hj => ?_)
        · have hj9 : j < 6 := by have := (Array.getElem?_eq_some_iff.mp ho).1; simpa using this
          rcases (show j = 0 ∨ j = 1 ∨ j = 2 ∨ j = 3 ∨ j = 4 ∨ j = 5 by omega) with rfl | rfl | rfl | rfl | rfl | rfl
          · cases ho
            refine ⟨104, by decide, ?_⟩
            have c_66 : a = 0 := w_ofInt (by simpa using hj)
            refine G.aload_n C 3 dX6_count_104 rfl rfl ?_
            refine G.get (g := 20) (i := 0) C 2 none dX6_count_105 (by decide) rfl rfl uX_X6 (by decide) uf_RX6_73 rfl rfl ?_
            subst hQ
            exact G.iret C hr dX6_count_108 (by
                subst c_66
                exact ⟨rfl, Or.inr ⟨by decide, rfl⟩⟩)
          · cases ho
            refine ⟨109, by decide, ?_⟩
            have c_66 : a = 1 := w_ofInt (by simpa using hj)
            refine G.aload_n C 3 dX6_count_109 rfl rfl ?_
            refine G.get (g := 20) (i := 0) C 7 none dX6_count_110 (by decide) rfl rfl uX_X6 (by decide) uf_RX6_88 rfl rfl ?_
            subst hQ
            exact G.iret C hr dX6_count_113 (by
                subst c_66
                exact ⟨rfl, Or.inr ⟨by decide, rfl⟩⟩)
          · cases ho
            refine ⟨114, by decide, ?_⟩
            have c_66 : a = 2 := w_ofInt (by simpa using hj)
            refine G.aload_n C 3 dX6_count_114 rfl rfl ?_
            refine G.get (g := 20) (i := 0) C 14 none dX6_count_115 (by decide) rfl rfl uX_X6 (by decide) uf_RX6_97 rfl rfl ?_
            subst hQ
            exact G.iret C hr dX6_count_118 (by
                subst c_66
                exact ⟨rfl, Or.inr ⟨by decide, rfl⟩⟩)
          · cases ho
            refine ⟨119, by decide, ?_⟩
            have c_66 : a = 3 := w_ofInt (by simpa using hj)
            refine G.aload_n C 3 dX6_count_119 rfl rfl ?_
            refine G.get (g := 20) (i := 0) C 17 none dX6_count_120 (by decide) rfl rfl uX_X6 (by decide) uf_RX6_108 rfl rfl ?_
            subst hQ
            exact G.iret C hr dX6_count_123 (by
                subst c_66
                exact ⟨rfl, Or.inr ⟨by decide, rfl⟩⟩)
          · cases ho
            refine ⟨124, by decide, ?_⟩
            have c_66 : a = 4 := w_ofInt (by simpa using hj)
            refine G.iload_n C 2 dX6_count_124 rfl rfl ?_
            subst hQ
            exact G.iret C hr dX6_count_125 (by
                subst c_66
                rw [hjn]
                exact ⟨rfl, Or.inr ⟨by decide, rfl⟩⟩)
          · cases ho
            refine ⟨126, by decide, ?_⟩
            have c_66 : a = 5 := w_ofInt (by simpa using hj)
            refine G.iload_n C 1 dX6_count_126 rfl rfl ?_
            subst hQ
            exact G.iret C hr dX6_count_127 (by
                subst c_66
                rw [hjn]
                exact ⟨rfl, Or.inr ⟨by decide, rfl⟩⟩)
        · refine ⟨128, by decide, ?_⟩
          have c_66 := hj
          refine G.iconst (v := -1) C dX6_count_128 (by decide) ?_
          subst hQ
          exact G.iret C hr dX6_count_129 (by
              refine ⟨rfl, Or.inl ⟨fun q => ?_, rfl⟩⟩
              exact w_out (k := 5) c_66 q.1 q.2)
      · have hjn : j < l := by
          rw [hl, nI_leI (by omega) (by omega)] at c_18; omega
        refine G.aload_n C 3 dX6_count_21 rfl rfl ?_
        refine G.iload C 0 dX6_count_22 rfl ?_
        have hM_0 := ok_X6_candidatesOf hw σ (nI j) hn h6 (vp_in_nI (by omega) (by decide))
        refine G.callV C (g := 20) (i := 0) none hM_0 dX6_count_24 (by decide) rfl rfl rfl uv_X6_candidatesOf ul_RX6_94 rfl rfl (by decide) (Nat.le_of_ble_eq_true rfl) (fun r_24 τ_24 h_24 => ?_)
        obtain ⟨h_24, e_24⟩ := h_24; subst h_24
        rw [nI_clamp (show j < 2 ^ 31 by omega)] at e_24
        have hM_1 := ok_X6_bits hw σ r_24
        refine G.callS C none hM_1 dX6_count_27 us_X6_bits ul_RX6_76 rfl rfl (by decide) (Nat.le_of_ble_eq_true rfl) (fun r_27 τ_27 h_27 => ?_)
        obtain ⟨h_27, e_27⟩ := h_27; subst h_27
        refine G.istore (L1 := [(5, .int r_27), (4, .int (nI j)), (3, .int (cntU (fun q => candU (σ.1 21 0) (σ.1 25 0 q) (σ.1 26 0 q) n) 1 j)), (2, .int (cntU (fun q => candU (σ.1 21 0) (σ.1 25 0 q) (σ.1 26 0 q) n) 0 j)), (0, .ref (w.2.2.2.1 20 0)), (1, .int a)]) C dX6_count_30 (by decide) rfl ?_
        refine G.iload_n C 3 dX6_count_32 rfl rfl ?_
        refine G.iload C 0 dX6_count_33 rfl ?_
        refine G.if_ne (tgt := 42) C dX6_count_35 (by decide) (fun c_35 => ?_) (fun c_35 => ?_)
        · refine G.iconst (v := 0) C dX6_count_42 (by decide) ?_
          refine G.iadd C dX6_count_43 ?_
          refine G.topi (fun x2_44 ex2_44 => ?_)
          refine G.istore_n (L1 := [(2, .int x2_44), (5, .int r_27), (4, .int (nI j)), (3, .int (cntU (fun q => candU (σ.1 21 0) (σ.1 25 0 q) (σ.1 26 0 q) n) 1 j)), (0, .ref (w.2.2.2.1 20 0)), (1, .int a)]) C dX6_count_44 rfl (by decide) rfl ?_
          refine G.iload_n C 3 dX6_count_45 rfl rfl ?_
          refine G.iload C 1 dX6_count_46 rfl ?_
          refine G.iconst (v := 1) C dX6_count_48 (by decide) ?_
          refine G.icmp_ne (tgt := 56) C dX6_count_49 (by decide) (fun c_49 => ?_) (fun c_49 => ?_)
          · refine G.iconst (v := 0) C dX6_count_56 (by decide) ?_
            refine G.iadd C dX6_count_57 ?_
            refine G.topi (fun x3_58 ex3_58 => ?_)
            refine G.istore_n (L1 := [(3, .int x3_58), (2, .int x2_44), (5, .int r_27), (4, .int (nI j)), (0, .ref (w.2.2.2.1 20 0)), (1, .int a)]) C dX6_count_58 rfl (by decide) rfl ?_
            obtain ⟨x4_59, ex4_59⟩ : ∃ z : Int32, z = (nI j) + 1 := ⟨_, rfl⟩
            refine G.iinc (v := x4_59) (L1 := [(4, .int x4_59), (3, .int x3_58), (2, .int x2_44), (5, .int r_27), (0, .ref (w.2.2.2.1 20 0)), (1, .int a)]) C 3 dX6_count_59 rfl (by rw [ex4_59]; rfl) (by decide) rfl ?_
            refine G.goto (tgt := 12) C dX6_count_62 (by decide) ?_
            refine G.sub (L1 := [(4, .int x4_59), (3, .int x3_58), (2, .int x2_44), (0, .ref (w.2.2.2.1 20 0)), (1, .int a)]) [0, 1, 2, 4, 5] rfl ?_
            refine ih_12  (j + 1) _ _ _ ?_ ?_ ?_ ?_ ?_
            · omega
            · omega
            · rw [ex4_59]; exact nI_1 j
            · rw [e_27, e_24] at c_49
              rw [ex3_58, i_add0, cntU_f (c := fun q => candU (σ.1 21 0) (σ.1 25 0 q) (σ.1 26 0 q) n) (k := j) c_49]
            · rw [e_27, e_24] at c_35
              rw [ex2_44, i_add0, cntU_f (c := fun q => candU (σ.1 21 0) (σ.1 25 0 q) (σ.1 26 0 q) n) (k := j) c_35]
          · refine G.iconst (v := 1) C dX6_count_52 (by decide) ?_
            refine G.goto (tgt := 57) C dX6_count_53 (by decide) ?_
            refine G.iadd C dX6_count_57 ?_
            refine G.topi (fun x3_58 ex3_58 => ?_)
            refine G.istore_n (L1 := [(3, .int x3_58), (2, .int x2_44), (5, .int r_27), (4, .int (nI j)), (0, .ref (w.2.2.2.1 20 0)), (1, .int a)]) C dX6_count_58 rfl (by decide) rfl ?_
            obtain ⟨x4_59, ex4_59⟩ : ∃ z : Int32, z = (nI j) + 1 := ⟨_, rfl⟩
            refine G.iinc (v := x4_59) (L1 := [(4, .int x4_59), (3, .int x3_58), (2, .int x2_44), (5, .int r_27), (0, .ref (w.2.2.2.1 20 0)), (1, .int a)]) C 3 dX6_count_59 rfl (by rw [ex4_59]; rfl) (by decide) rfl ?_
            refine G.goto (tgt := 12) C dX6_count_62 (by decide) ?_
            refine G.sub (L1 := [(4, .int x4_59), (3, .int x3_58), (2, .int x2_44), (0, .ref (w.2.2.2.1 20 0)), (1, .int a)]) [0, 1, 2, 4, 5] rfl ?_
            refine ih_12  (j + 1) _ _ _ ?_ ?_ ?_ ?_ ?_
            · omega
            · omega
            · rw [ex4_59]; exact nI_1 j
            · rw [e_27, e_24] at c_49
              rw [ex3_58, cntU_t (c := fun q => candU (σ.1 21 0) (σ.1 25 0 q) (σ.1 26 0 q) n) (k := j) c_49]
            · rw [e_27, e_24] at c_35
              rw [ex2_44, i_add0, cntU_f (c := fun q => candU (σ.1 21 0) (σ.1 25 0 q) (σ.1 26 0 q) n) (k := j) c_35]
        · refine G.iconst (v := 1) C dX6_count_38 (by decide) ?_
          refine G.goto (tgt := 43) C dX6_count_39 (by decide) ?_
          refine G.iadd C dX6_count_43 ?_
          refine G.topi (fun x2_44 ex2_44 => ?_)
          refine G.istore_n (L1 := [(2, .int x2_44), (5, .int r_27), (4, .int (nI j)), (3, .int (cntU (fun q => candU (σ.1 21 0) (σ.1 25 0 q) (σ.1 26 0 q) n) 1 j)), (0, .ref (w.2.2.2.1 20 0)), (1, .int a)]) C dX6_count_44 rfl (by decide) rfl ?_
          refine G.iload_n C 3 dX6_count_45 rfl rfl ?_
          refine G.iload C 1 dX6_count_46 rfl ?_
          refine G.iconst (v := 1) C dX6_count_48 (by decide) ?_
          refine G.icmp_ne (tgt := 56) C dX6_count_49 (by decide) (fun c_49 => ?_) (fun c_49 => ?_)
          · refine G.iconst (v := 0) C dX6_count_56 (by decide) ?_
            refine G.iadd C dX6_count_57 ?_
            refine G.topi (fun x3_58 ex3_58 => ?_)
            refine G.istore_n (L1 := [(3, .int x3_58), (2, .int x2_44), (5, .int r_27), (4, .int (nI j)), (0, .ref (w.2.2.2.1 20 0)), (1, .int a)]) C dX6_count_58 rfl (by decide) rfl ?_
            obtain ⟨x4_59, ex4_59⟩ : ∃ z : Int32, z = (nI j) + 1 := ⟨_, rfl⟩
            refine G.iinc (v := x4_59) (L1 := [(4, .int x4_59), (3, .int x3_58), (2, .int x2_44), (5, .int r_27), (0, .ref (w.2.2.2.1 20 0)), (1, .int a)]) C 3 dX6_count_59 rfl (by rw [ex4_59]; rfl) (by decide) rfl ?_
            refine G.goto (tgt := 12) C dX6_count_62 (by decide) ?_
            refine G.sub (L1 := [(4, .int x4_59), (3, .int x3_58), (2, .int x2_44), (0, .ref (w.2.2.2.1 20 0)), (1, .int a)]) [0, 1, 2, 4, 5] rfl ?_
            refine ih_12  (j + 1) _ _ _ ?_ ?_ ?_ ?_ ?_
            · omega
            · omega
            · rw [ex4_59]; exact nI_1 j
            · rw [e_27, e_24] at c_49
              rw [ex3_58, i_add0, cntU_f (c := fun q => candU (σ.1 21 0) (σ.1 25 0 q) (σ.1 26 0 q) n) (k := j) c_49]
            · rw [e_27, e_24] at c_35
              rw [ex2_44, cntU_t (c := fun q => candU (σ.1 21 0) (σ.1 25 0 q) (σ.1 26 0 q) n) (k := j) c_35]
          · refine G.iconst (v := 1) C dX6_count_52 (by decide) ?_
            refine G.goto (tgt := 57) C dX6_count_53 (by decide) ?_
            refine G.iadd C dX6_count_57 ?_
            refine G.topi (fun x3_58 ex3_58 => ?_)
            refine G.istore_n (L1 := [(3, .int x3_58), (2, .int x2_44), (5, .int r_27), (4, .int (nI j)), (0, .ref (w.2.2.2.1 20 0)), (1, .int a)]) C dX6_count_58 rfl (by decide) rfl ?_
            obtain ⟨x4_59, ex4_59⟩ : ∃ z : Int32, z = (nI j) + 1 := ⟨_, rfl⟩
            refine G.iinc (v := x4_59) (L1 := [(4, .int x4_59), (3, .int x3_58), (2, .int x2_44), (5, .int r_27), (0, .ref (w.2.2.2.1 20 0)), (1, .int a)]) C 3 dX6_count_59 rfl (by rw [ex4_59]; rfl) (by decide) rfl ?_
            refine G.goto (tgt := 12) C dX6_count_62 (by decide) ?_
            refine G.sub (L1 := [(4, .int x4_59), (3, .int x3_58), (2, .int x2_44), (0, .ref (w.2.2.2.1 20 0)), (1, .int a)]) [0, 1, 2, 4, 5] rfl ?_
            refine ih_12  (j + 1) _ _ _ ?_ ?_ ?_ ?_ ?_
            · omega
            · omega
            · rw [ex4_59]; exact nI_1 j
            · rw [e_27, e_24] at c_49
              rw [ex3_58, cntU_t (c := fun q => candU (σ.1 21 0) (σ.1 25 0 q) (σ.1 26 0 q) n) (k := j) c_49]
            · rw [e_27, e_24] at c_35
              rw [ex2_44, cntU_t (c := fun q => candU (σ.1 21 0) (σ.1 25 0 q) (σ.1 26 0 q) n) (k := j) c_35]
  refine cut_12 (l + 1) 0 _ _ _ ?_ ?_ ?_ ?_ ?_
  · omega
  · omega
  · rfl
  · rfl
  · rfl
set_option maxHeartbeats 4000000 in
set_option maxRecDepth 100000 in
theorem ok_X6_trace {w : wD} (hw : wOK w) (σ : wSt)  (hz : σ.1 20 0 0 = 0) : ML w yX6_trace cX6_trace 1 (some .long) 0 0 [.ref (w.2.2.2.1 20 0)] σ (fun r τ => σ = τ ∧ r = σ.2 1) := by
  refine ML.of hw (by decide +kernel) (Nat.le_of_ble_eq_true rfl) (fun x C hr => ?_)
  suffices key : ∀ Q, Q = QL w x (fun r τ => σ = τ ∧ r = σ.2 1) → G w x 1 Q 0 [(0, .ref (w.2.2.2.1 20 0))] [] σ from key _ rfl
  intro Q hQ
  refine G.aload_n C 0 dX6_trace_0 rfl rfl ?_
  refine G.iconst (v := 0) C dX6_trace_1 (by decide) ?_
  refine G.put (g := 20) (i := 0) C 0 none dX6_trace_2 (by decide) rfl rfl uX_X6 tyX6 tyX6_ok nmX6 (by decide) uf_RX6_61 rfl rfl (by decide +kernel) (Nat.le_of_ble_eq_true rfl) w_up_20_0 ?_
  rw [wUp_id hz]
  refine G.aload_n C 0 dX6_trace_5 rfl rfl ?_
  refine G.get (g := 20) (i := 0) C 1 none dX6_trace_6 (by decide) rfl rfl uX_X6 (by decide) uf_RX6_100 rfl rfl ?_
  subst hQ
  exact G.lret C hr dX6_trace_9 (by
      exact ⟨rfl, rfl⟩)
set_option maxHeartbeats 4000000 in
set_option maxRecDepth 100000 in
theorem ok_X6_price {w : wD} (hw : wOK w) (σ : wSt) (a b : Int32) (hz : σ.1 20 0 0 = 0) {n : Nat} (hn : σ.1 20 0 2 = nI n) (h6 : n ≤ 6) {l : Nat} (hl : σ.1 20 0 7 = nI l) (hl20 : l ≤ 20) : MI w yX6_price cX6_price 5 (some .int) 2 43 [.ref (w.2.2.2.1 20 0), .int a, .int b] σ (fun r τ => (¬ (inN (σ.1 20 0 7) b ∧ 0 ≤ a ∧ a ≤ 2) ∧ σ = τ ∧ r = -1) ∨ ((inN (σ.1 20 0 7) b ∧ 0 ≤ a ∧ a ≤ 2) ∧ a = 0 ∧ wUpL σ 1 (σ.2 1 + 1) = τ ∧ r = plainF (pop (candU (σ.1 21 0) (σ.1 25 0 b.toNatClampNeg) (σ.1 26 0 b.toNatClampNeg) n)) (σ.1 27 0 b.toNatClampNeg)) ∨ ((inN (σ.1 20 0 7) b ∧ 0 ≤ a ∧ a ≤ 2) ∧ a = 1 ∧ wUpL σ 1 (σ.2 1 + 11) = τ ∧ r = colF (plainF (pop (candU (σ.1 21 0) (σ.1 25 0 b.toNatClampNeg) (σ.1 26 0 b.toNatClampNeg) n)) (σ.1 27 0 b.toNatClampNeg)) (σ.1 28 0 b.toNatClampNeg)) ∨ ((inN (σ.1 20 0 7) b ∧ 0 ≤ a ∧ a ≤ 2) ∧ a = 2 ∧ wUpL σ 1 (σ.2 1 + 111) = τ ∧ r = jmax 0 (colF (plainF (pop (candU (σ.1 21 0) (σ.1 25 0 b.toNatClampNeg) (σ.1 26 0 b.toNatClampNeg) n)) (σ.1 27 0 b.toNatClampNeg)) (σ.1 28 0 b.toNatClampNeg) - 3 * σ.1 35 0 b.toNatClampNeg))) := by
  refine MI.of hw (by decide +kernel) (Nat.le_of_ble_eq_true rfl) (fun x C hr => ?_)
  suffices key : ∀ PV : Int32 → wSt → Prop, PV = (fun r τ => (¬ (inN (σ.1 20 0 7) b ∧ 0 ≤ a ∧ a ≤ 2) ∧ σ = τ ∧ r = -1) ∨ ((inN (σ.1 20 0 7) b ∧ 0 ≤ a ∧ a ≤ 2) ∧ a = 0 ∧ wUpL σ 1 (σ.2 1 + 1) = τ ∧ r = plainF (pop (candU (σ.1 21 0) (σ.1 25 0 b.toNatClampNeg) (σ.1 26 0 b.toNatClampNeg) n)) (σ.1 27 0 b.toNatClampNeg)) ∨ ((inN (σ.1 20 0 7) b ∧ 0 ≤ a ∧ a ≤ 2) ∧ a = 1 ∧ wUpL σ 1 (σ.2 1 + 11) = τ ∧ r = colF (plainF (pop (candU (σ.1 21 0) (σ.1 25 0 b.toNatClampNeg) (σ.1 26 0 b.toNatClampNeg) n)) (σ.1 27 0 b.toNatClampNeg)) (σ.1 28 0 b.toNatClampNeg)) ∨ ((inN (σ.1 20 0 7) b ∧ 0 ≤ a ∧ a ≤ 2) ∧ a = 2 ∧ wUpL σ 1 (σ.2 1 + 111) = τ ∧ r = jmax 0 (colF (plainF (pop (candU (σ.1 21 0) (σ.1 25 0 b.toNatClampNeg) (σ.1 26 0 b.toNatClampNeg) n)) (σ.1 27 0 b.toNatClampNeg)) (σ.1 28 0 b.toNatClampNeg) - 3 * σ.1 35 0 b.toNatClampNeg))) → ∀ Q, Q = QI w x PV → G w x 5 Q 0 [(0, .ref (w.2.2.2.1 20 0)), (1, .int a), (2, .int b)] [] σ from key _ rfl _ rfl
  intro PV hPV Q hQ
  refine G.aload_n C 0 dX6_price_0 rfl rfl ?_
  refine G.iconst (v := 0) C dX6_price_1 (by decide) ?_
  refine G.put (g := 20) (i := 0) C 0 none dX6_price_2 (by decide) rfl rfl uX_X6 tyX6 tyX6_ok nmX6 (by decide) uf_RX6_61 rfl rfl (by decide +kernel) (Nat.le_of_ble_eq_true rfl) w_up_20_0 ?_
  rw [wUp_id hz]
  refine G.iload_n C 1 dX6_price_5 rfl rfl ?_
  refine G.iconst (v := 0) C dX6_price_6 (by decide) ?_
  refine G.iconst (v := 2) C dX6_price_7 (by decide) ?_
  have hM_0 := ok_X6_in hw σ a 0 2
  refine G.callS C none hM_0 dX6_price_8 us_X6_in ul_RX6_65 rfl rfl (by decide) (Nat.le_of_ble_eq_true rfl) (fun r_8 τ_8 h_8 => ?_)
  obtain ⟨h_8, e_8⟩ := h_8; subst h_8
  refine G.if_eq (tgt := 22) C dX6_price_11 (by decide) (fun c_11 => ?_) (fun c_11 => ?_)
  · have b_8 := wb_0 e_8 c_11
    refine G.iconst (v := -1) C dX6_price_22 (by decide) ?_
    subst hQ
    exact G.iret C hr dX6_price_23 (by
        subst hPV
        refine Or.inl ⟨fun q => ?_, rfl, rfl⟩
        first | exact b_8 q.2 | exact b_16 q.1)
  · have b_8 := wb_1 e_8 c_11
    refine G.aload_n C 0 dX6_price_14 rfl rfl ?_
    refine G.iload_n C 2 dX6_price_15 rfl rfl ?_
    have hM_1 := ok_X6_isLeaf hw σ b hl hl20
    refine G.callV C (g := 20) (i := 0) none hM_1 dX6_price_16 (by decide) rfl rfl rfl uv_X6_isLeaf ul_RX6_91 rfl rfl (by decide) (Nat.le_of_ble_eq_true rfl) (fun r_16 τ_16 h_16 => ?_)
    obtain ⟨h_16, e_16⟩ := h_16; subst h_16
    refine G.if_ne (tgt := 24) C dX6_price_19 (by decide) (fun c_19 => ?_) (fun c_19 => ?_)
    · have b_16 := wb_1 e_16 c_19
      refine G.aload_n C 0 dX6_price_24 rfl rfl ?_
      refine G.dup C dX6_price_25 rfl ?_
      refine G.get (g := 20) (i := 0) C 1 none dX6_price_26 (by decide) rfl rfl uX_X6 (by decide) uf_RX6_100 rfl rfl ?_
      refine G.iload_n C 1 dX6_price_29 rfl rfl ?_
      refine G.if_ne (tgt := 37) C dX6_price_30 (by decide) (fun c_30 => ?_) (fun c_30 => ?_)
      · refine G.iload_n C 1 dX6_price_37 rfl rfl ?_
        refine G.iconst (v := 1) C dX6_price_38 (by decide) ?_
        refine G.icmp_ne (tgt := 48) C dX6_price_39 (by decide) (fun c_39 => ?_) (fun c_39 => ?_)
        · have ha2 : a = 2 := ((w_012 b_8).resolve_left c_30).resolve_left c_39
          subst ha2
          refine G.ldc2 C uk_RX6_106 dX6_price_48 ?_
          refine G.ladd C dX6_price_51 ?_
          refine G.putL (g := 20) (i := 0) (j := 1) C 1 none dX6_price_52 (by decide) (by decide) rfl rfl uX_X6 tyX6 tyX6_ok nmX6 (by decide) uf_RX6_100 rfl rfl (by decide +kernel) (Nat.le_of_ble_eq_true rfl) w_up_20_1 ?_
          refine G.aload_n C 0 dX6_price_55 rfl rfl ?_
          refine G.iload_n C 2 dX6_price_56 rfl rfl ?_
          have hM_2 := ok_X6_candidatesOf hw (wUpL σ 1 ((σ.2 1) + 111)) b hn h6 (vp_ofc b_16 hl hl20 (by decide))
          refine G.callV C (g := 20) (i := 0) none hM_2 dX6_price_57 (by decide) rfl rfl rfl uv_X6_candidatesOf ul_RX6_94 rfl rfl (by decide) (Nat.le_of_ble_eq_true rfl) (fun r_57 τ_57 h_57 => ?_)
          obtain ⟨h_57, e_57⟩ := h_57; subst h_57
          have hM_3 := ok_X6_bits hw (wUpL σ 1 ((σ.2 1) + 111)) r_57
          refine G.callS C none hM_3 dX6_price_60 us_X6_bits ul_RX6_76 rfl rfl (by decide) (Nat.le_of_ble_eq_true rfl) (fun r_60 τ_60 h_60 => ?_)
          obtain ⟨h_60, e_60⟩ := h_60; subst h_60
          refine G.istore_n (L1 := [(3, .int r_60), (0, .ref (w.2.2.2.1 20 0)), (1, .int 2), (2, .int b)]) C dX6_price_63 rfl (by decide) rfl ?_
          refine G.iload_n C 0 dX6_price_64 rfl rfl ?_
          refine G.if_ne (tgt := 72) C dX6_price_65 (by decide) (fun c_65 => ?_) (fun c_65 => ?_)
          · refine G.aload_n C 1 dX6_price_72 rfl rfl ?_
            refine G.get (g := 20) (i := 0) C 10 none dX6_price_73 (by decide) rfl rfl uX_X6 (by decide) uf_RX6_28 rfl rfl ?_
            refine G.iload_n C 3 dX6_price_76 rfl rfl ?_
            have hin_77 : vp_in b 20 := by
              exact vp_ofc b_16 hl hl20 (by decide)
            refine G.iald (g := 27) (i := 0) (n := 20) C dX6_price_77 (by decide) rfl hin_77 ?_
            refine G.iload_n C 0 dX6_price_78 rfl rfl ?_
            refine G.idiv C dX6_price_79 (c_65) ?_
            refine G.topi (fun x4_80 ex4_80 => ?_)
            refine G.istore (L1 := [(4, .int x4_80), (3, .int r_60), (0, .ref (w.2.2.2.1 20 0)), (1, .int 2), (2, .int b)]) C dX6_price_80 (by decide) rfl ?_
            refine G.iload_n C 3 dX6_price_82 rfl rfl ?_
            refine G.if_le (tgt := 132) C dX6_price_83 (by decide) (fun c_83 => absurd c_83 (by decide)) (fun c_83 => ?_)
            refine G.aload_n C 2 dX6_price_86 rfl rfl ?_
            refine G.get (g := 20) (i := 0) C 11 none dX6_price_87 (by decide) rfl rfl uX_X6 (by decide) uf_RX6_31 rfl rfl ?_
            refine G.iload_n C 4 dX6_price_90 rfl rfl ?_
            have hin_91 : vp_in b 20 := by
              exact vp_ofc b_16 hl hl20 (by decide)
            refine G.iald (g := 28) (i := 0) (n := 20) C dX6_price_91 (by decide) rfl hin_91 ?_
            refine G.iconst (v := 1) C dX6_price_92 (by decide) ?_
            refine G.icmp_ne (tgt := 106) C dX6_price_93 (by decide) (fun c_93 => ?_) (fun c_93 => ?_)
            · refine G.aload_n C 2 dX6_price_106 rfl rfl ?_
              refine G.get (g := 20) (i := 0) C 11 none dX6_price_107 (by decide) rfl rfl uX_X6 (by decide) uf_RX6_31 rfl rfl ?_
              refine G.iload_n C 4 dX6_price_110 rfl rfl ?_
              have hin_111 : vp_in b 20 := by
                exact vp_ofc b_16 hl hl20 (by decide)
              refine G.iald (g := 28) (i := 0) (n := 20) C dX6_price_111 (by decide) rfl hin_111 ?_
              refine G.iconst (v := 2) C dX6_price_112 (by decide) ?_
              refine G.icmp_ne (tgt := 128) C dX6_price_113 (by decide) (fun c_113 => ?_) (fun c_113 => ?_)
              · refine G.iload C 0 dX6_price_128 rfl ?_
                refine G.istore (L1 := [(4, .int x4_80), (3, .int r_60), (0, .ref (w.2.2.2.1 20 0)), (1, .int 2), (2, .int b)]) C dX6_price_130 (by decide) rfl ?_
                refine G.iload_n C 3 dX6_price_132 rfl rfl ?_
                refine G.iconst (v := 1) C dX6_price_133 (by decide) ?_
                refine G.icmp_le (tgt := 163) C dX6_price_134 (by decide) (fun c_134 => absurd c_134 (by decide)) (fun c_134 => ?_)
                refine G.iload C 0 dX6_price_137 rfl ?_
                refine G.iconst (v := 3) C dX6_price_139 (by decide) ?_
                refine G.aload_n C 2 dX6_price_140 rfl rfl ?_
                refine G.get (g := 20) (i := 0) C 20 none dX6_price_141 (by decide) rfl rfl uX_X6 (by decide) uf_RX6_52 rfl rfl ?_
                refine G.iload_n C 4 dX6_price_144 rfl rfl ?_
                have hin_145 : vp_in b 24 := by
                  exact vp_ofc b_16 hl (by omega) (by decide)
                refine G.iald (g := 35) (i := 0) (n := 24) C dX6_price_145 (by decide) rfl hin_145 ?_
                refine G.imul C dX6_price_146 ?_
                refine G.isub C dX6_price_147 ?_
                refine G.topi (fun x4_148 ex4_148 => ?_)
                refine G.istore (L1 := [(4, .int x4_148), (3, .int r_60), (0, .ref (w.2.2.2.1 20 0)), (1, .int 2), (2, .int b)]) C dX6_price_148 (by decide) rfl ?_
                refine G.iload C 0 dX6_price_150 rfl ?_
                refine G.if_ge (tgt := 159) C dX6_price_152 (by decide) (fun c_152 => ?_) (fun c_152 => ?_)
                · refine G.iload C 0 dX6_price_159 rfl ?_
                  refine G.istore (L1 := [(4, .int x4_148), (3, .int r_60), (0, .ref (w.2.2.2.1 20 0)), (1, .int 2), (2, .int b)]) C dX6_price_161 (by decide) rfl ?_
                  refine G.iload C 0 dX6_price_163 rfl ?_
                  subst hQ
                  exact G.iret C hr dX6_price_165 (by
                      subst hPV
                      rw [e_57] at e_60
                      first | refine Or.inr (Or.inl ⟨⟨b_16, by decide, by decide⟩, rfl, rfl, ?_⟩) | refine Or.inr (Or.inr (Or.inl ⟨⟨b_16, by decide, by decide⟩, rfl, rfl, ?_⟩)) | refine Or.inr (Or.inr (Or.inr ⟨⟨b_16, by decide, by decide⟩, rfl, rfl, ?_⟩))
                      all_goals subst_vars
                      all_goals simp only [wUpL_1] at *
                      all_goals (try rw [jmax0])
                      all_goals (first | (simp [plainF, colF, *]; done) | (simp [plainF, colF, *]; intro h9; exact absurd h9 (Int32.not_lt.mpr c_152)) | (simp [plainF, colF, *]; intro h9; exact absurd (by simpa using h9) c_152)))
                · refine G.iconst (v := 0) C dX6_price_155 (by decide) ?_
                  refine G.goto (tgt := 161) C dX6_price_156 (by decide) ?_
                  refine G.istore (L1 := [(4, .int 0), (3, .int r_60), (0, .ref (w.2.2.2.1 20 0)), (1, .int 2), (2, .int b)]) C dX6_price_161 (by decide) rfl ?_
                  refine G.iload C 0 dX6_price_163 rfl ?_
                  subst hQ
                  exact G.iret C hr dX6_price_165 (by
                      subst hPV
                      rw [e_57] at e_60
                      first | refine Or.inr (Or.inl ⟨⟨b_16, by decide, by decide⟩, rfl, rfl, ?_⟩) | refine Or.inr (Or.inr (Or.inl ⟨⟨b_16, by decide, by decide⟩, rfl, rfl, ?_⟩)) | refine Or.inr (Or.inr (Or.inr ⟨⟨b_16, by decide, by decide⟩, rfl, rfl, ?_⟩))
                      all_goals subst_vars
                      all_goals simp only [wUpL_1] at *
                      all_goals (try rw [jmax0])
                      all_goals (first | (simp [plainF, colF, *]; done) | (simp [plainF, colF, *]; intro h9; exact absurd h9 (Int32.not_lt.mpr c_152)) | (simp [plainF, colF, *]; intro h9; exact absurd (by simpa using h9) c_152)))
              · refine G.iload C 0 dX6_price_116 rfl ?_
                refine G.iload C 0 dX6_price_118 rfl ?_
                refine G.iconst (v := 3) C dX6_price_120 (by decide) ?_
                refine G.iadd C dX6_price_121 ?_
                refine G.iconst (v := 4) C dX6_price_122 (by decide) ?_
                refine G.idiv C dX6_price_123 (by decide) ?_
                refine G.isub C dX6_price_124 ?_
                refine G.goto (tgt := 130) C dX6_price_125 (by decide) ?_
                refine G.topi (fun x4_130 ex4_130 => ?_)
                refine G.istore (L1 := [(4, .int x4_130), (3, .int r_60), (0, .ref (w.2.2.2.1 20 0)), (1, .int 2), (2, .int b)]) C dX6_price_130 (by decide) rfl ?_
                refine G.iload_n C 3 dX6_price_132 rfl rfl ?_
                refine G.iconst (v := 1) C dX6_price_133 (by decide) ?_
                refine G.icmp_le (tgt := 163) C dX6_price_134 (by decide) (fun c_134 => absurd c_134 (by decide)) (fun c_134 => ?_)
                refine G.iload C 0 dX6_price_137 rfl ?_
                refine G.iconst (v := 3) C dX6_price_139 (by decide) ?_
                refine G.aload_n C 2 dX6_price_140 rfl rfl ?_
                refine G.get (g := 20) (i := 0) C 20 none dX6_price_141 (by decide) rfl rfl uX_X6 (by decide) uf_RX6_52 rfl rfl ?_
                refine G.iload_n C 4 dX6_price_144 rfl rfl ?_
                have hin_145 : vp_in b 24 := by
                  exact vp_ofc b_16 hl (by omega) (by decide)
                refine G.iald (g := 35) (i := 0) (n := 24) C dX6_price_145 (by decide) rfl hin_145 ?_
                refine G.imul C dX6_price_146 ?_
                refine G.isub C dX6_price_147 ?_
                refine G.topi (fun x4_148 ex4_148 => ?_)
                refine G.istore (L1 := [(4, .int x4_148), (3, .int r_60), (0, .ref (w.2.2.2.1 20 0)), (1, .int 2), (2, .int b)]) C dX6_price_148 (by decide) rfl ?_
                refine G.iload C 0 dX6_price_150 rfl ?_
                refine G.if_ge (tgt := 159) C dX6_price_152 (by decide) (fun c_152 => ?_) (fun c_152 => ?_)
                · refine G.iload C 0 dX6_price_159 rfl ?_
                  refine G.istore (L1 := [(4, .int x4_148), (3, .int r_60), (0, .ref (w.2.2.2.1 20 0)), (1, .int 2), (2, .int b)]) C dX6_price_161 (by decide) rfl ?_
                  refine G.iload C 0 dX6_price_163 rfl ?_
                  subst hQ
                  exact G.iret C hr dX6_price_165 (by
                      subst hPV
                      rw [e_57] at e_60
                      first | refine Or.inr (Or.inl ⟨⟨b_16, by decide, by decide⟩, rfl, rfl, ?_⟩) | refine Or.inr (Or.inr (Or.inl ⟨⟨b_16, by decide, by decide⟩, rfl, rfl, ?_⟩)) | refine Or.inr (Or.inr (Or.inr ⟨⟨b_16, by decide, by decide⟩, rfl, rfl, ?_⟩))
                      all_goals subst_vars
                      all_goals simp only [wUpL_1] at *
                      all_goals (try rw [jmax0])
                      all_goals (first | (simp [plainF, colF, *]; done) | (simp [plainF, colF, *]; intro h9; exact absurd h9 (Int32.not_lt.mpr c_152)) | (simp [plainF, colF, *]; intro h9; exact absurd (by simpa using h9) c_152)))
                · refine G.iconst (v := 0) C dX6_price_155 (by decide) ?_
                  refine G.goto (tgt := 161) C dX6_price_156 (by decide) ?_
                  refine G.istore (L1 := [(4, .int 0), (3, .int r_60), (0, .ref (w.2.2.2.1 20 0)), (1, .int 2), (2, .int b)]) C dX6_price_161 (by decide) rfl ?_
                  refine G.iload C 0 dX6_price_163 rfl ?_
                  subst hQ
                  exact G.iret C hr dX6_price_165 (by
                      subst hPV
                      rw [e_57] at e_60
                      first | refine Or.inr (Or.inl ⟨⟨b_16, by decide, by decide⟩, rfl, rfl, ?_⟩) | refine Or.inr (Or.inr (Or.inl ⟨⟨b_16, by decide, by decide⟩, rfl, rfl, ?_⟩)) | refine Or.inr (Or.inr (Or.inr ⟨⟨b_16, by decide, by decide⟩, rfl, rfl, ?_⟩))
                      all_goals subst_vars
                      all_goals simp only [wUpL_1] at *
                      all_goals (try rw [jmax0])
                      all_goals (first | (simp [plainF, colF, *]; done) | (simp [plainF, colF, *]; intro h9; exact absurd h9 (Int32.not_lt.mpr c_152)) | (simp [plainF, colF, *]; intro h9; exact absurd (by simpa using h9) c_152)))
            · refine G.iload C 0 dX6_price_96 rfl ?_
              refine G.iload C 0 dX6_price_98 rfl ?_
              refine G.iconst (v := 2) C dX6_price_100 (by decide) ?_
              refine G.idiv C dX6_price_101 (by decide) ?_
              refine G.iadd C dX6_price_102 ?_
              refine G.goto (tgt := 130) C dX6_price_103 (by decide) ?_
              refine G.topi (fun x4_130 ex4_130 => ?_)
              refine G.istore (L1 := [(4, .int x4_130), (3, .int r_60), (0, .ref (w.2.2.2.1 20 0)), (1, .int 2), (2, .int b)]) C dX6_price_130 (by decide) rfl ?_
              refine G.iload_n C 3 dX6_price_132 rfl rfl ?_
              refine G.iconst (v := 1) C dX6_price_133 (by decide) ?_
              refine G.icmp_le (tgt := 163) C dX6_price_134 (by decide) (fun c_134 => absurd c_134 (by decide)) (fun c_134 => ?_)
              refine G.iload C 0 dX6_price_137 rfl ?_
              refine G.iconst (v := 3) C dX6_price_139 (by decide) ?_
              refine G.aload_n C 2 dX6_price_140 rfl rfl ?_
              refine G.get (g := 20) (i := 0) C 20 none dX6_price_141 (by decide) rfl rfl uX_X6 (by decide) uf_RX6_52 rfl rfl ?_
              refine G.iload_n C 4 dX6_price_144 rfl rfl ?_
              have hin_145 : vp_in b 24 := by
                exact vp_ofc b_16 hl (by omega) (by decide)
              refine G.iald (g := 35) (i := 0) (n := 24) C dX6_price_145 (by decide) rfl hin_145 ?_
              refine G.imul C dX6_price_146 ?_
              refine G.isub C dX6_price_147 ?_
              refine G.topi (fun x4_148 ex4_148 => ?_)
              refine G.istore (L1 := [(4, .int x4_148), (3, .int r_60), (0, .ref (w.2.2.2.1 20 0)), (1, .int 2), (2, .int b)]) C dX6_price_148 (by decide) rfl ?_
              refine G.iload C 0 dX6_price_150 rfl ?_
              refine G.if_ge (tgt := 159) C dX6_price_152 (by decide) (fun c_152 => ?_) (fun c_152 => ?_)
              · refine G.iload C 0 dX6_price_159 rfl ?_
                refine G.istore (L1 := [(4, .int x4_148), (3, .int r_60), (0, .ref (w.2.2.2.1 20 0)), (1, .int 2), (2, .int b)]) C dX6_price_161 (by decide) rfl ?_
                refine G.iload C 0 dX6_price_163 rfl ?_
                subst hQ
                exact G.iret C hr dX6_price_165 (by
                    subst hPV
                    rw [e_57] at e_60
                    first | refine Or.inr (Or.inl ⟨⟨b_16, by decide, by decide⟩, rfl, rfl, ?_⟩) | refine Or.inr (Or.inr (Or.inl ⟨⟨b_16, by decide, by decide⟩, rfl, rfl, ?_⟩)) | refine Or.inr (Or.inr (Or.inr ⟨⟨b_16, by decide, by decide⟩, rfl, rfl, ?_⟩))
                    all_goals subst_vars
                    all_goals simp only [wUpL_1] at *
                    all_goals (try rw [jmax0])
                    all_goals (first | (simp [plainF, colF, *]; done) | (simp [plainF, colF, *]; intro h9; exact absurd h9 (Int32.not_lt.mpr c_152)) | (simp [plainF, colF, *]; intro h9; exact absurd (by simpa using h9) c_152)))
              · refine G.iconst (v := 0) C dX6_price_155 (by decide) ?_
                refine G.goto (tgt := 161) C dX6_price_156 (by decide) ?_
                refine G.istore (L1 := [(4, .int 0), (3, .int r_60), (0, .ref (w.2.2.2.1 20 0)), (1, .int 2), (2, .int b)]) C dX6_price_161 (by decide) rfl ?_
                refine G.iload C 0 dX6_price_163 rfl ?_
                subst hQ
                exact G.iret C hr dX6_price_165 (by
                    subst hPV
                    rw [e_57] at e_60
                    first | refine Or.inr (Or.inl ⟨⟨b_16, by decide, by decide⟩, rfl, rfl, ?_⟩) | refine Or.inr (Or.inr (Or.inl ⟨⟨b_16, by decide, by decide⟩, rfl, rfl, ?_⟩)) | refine Or.inr (Or.inr (Or.inr ⟨⟨b_16, by decide, by decide⟩, rfl, rfl, ?_⟩))
                    all_goals subst_vars
                    all_goals simp only [wUpL_1] at *
                    all_goals (try rw [jmax0])
                    all_goals (first | (simp [plainF, colF, *]; done) | (simp [plainF, colF, *]; intro h9; exact absurd h9 (Int32.not_lt.mpr c_152)) | (simp [plainF, colF, *]; intro h9; exact absurd (by simpa using h9) c_152)))
          · refine G.iconst (v := 0) C dX6_price_68 (by decide) ?_
            refine G.goto (tgt := 80) C dX6_price_69 (by decide) ?_
            refine G.istore (L1 := [(4, .int 0), (3, .int r_60), (0, .ref (w.2.2.2.1 20 0)), (1, .int 2), (2, .int b)]) C dX6_price_80 (by decide) rfl ?_
            refine G.iload_n C 3 dX6_price_82 rfl rfl ?_
            refine G.if_le (tgt := 132) C dX6_price_83 (by decide) (fun c_83 => absurd c_83 (by decide)) (fun c_83 => ?_)
            refine G.aload_n C 2 dX6_price_86 rfl rfl ?_
            refine G.get (g := 20) (i := 0) C 11 none dX6_price_87 (by decide) rfl rfl uX_X6 (by decide) uf_RX6_31 rfl rfl ?_
            refine G.iload_n C 4 dX6_price_90 rfl rfl ?_
            have hin_91 : vp_in b 20 := by
              exact vp_ofc b_16 hl hl20 (by decide)
            refine G.iald (g := 28) (i := 0) (n := 20) C dX6_price_91 (by decide) rfl hin_91 ?_
            refine G.iconst (v := 1) C dX6_price_92 (by decide) ?_
            refine G.icmp_ne (tgt := 106) C dX6_price_93 (by decide) (fun c_93 => ?_) (fun c_93 => ?_)
            · refine G.aload_n C 2 dX6_price_106 rfl rfl ?_
              refine G.get (g := 20) (i := 0) C 11 none dX6_price_107 (by decide) rfl rfl uX_X6 (by decide) uf_RX6_31 rfl rfl ?_
              refine G.iload_n C 4 dX6_price_110 rfl rfl ?_
              have hin_111 : vp_in b 20 := by
                exact vp_ofc b_16 hl hl20 (by decide)
              refine G.iald (g := 28) (i := 0) (n := 20) C dX6_price_111 (by decide) rfl hin_111 ?_
              refine G.iconst (v := 2) C dX6_price_112 (by decide) ?_
              refine G.icmp_ne (tgt := 128) C dX6_price_113 (by decide) (fun c_113 => ?_) (fun c_113 => ?_)
              · refine G.iload C 0 dX6_price_128 rfl ?_
                refine G.istore (L1 := [(4, .int 0), (3, .int r_60), (0, .ref (w.2.2.2.1 20 0)), (1, .int 2), (2, .int b)]) C dX6_price_130 (by decide) rfl ?_
                refine G.iload_n C 3 dX6_price_132 rfl rfl ?_
                refine G.iconst (v := 1) C dX6_price_133 (by decide) ?_
                refine G.icmp_le (tgt := 163) C dX6_price_134 (by decide) (fun c_134 => absurd c_134 (by decide)) (fun c_134 => ?_)
                refine G.iload C 0 dX6_price_137 rfl ?_
                refine G.iconst (v := 3) C dX6_price_139 (by decide) ?_
                refine G.aload_n C 2 dX6_price_140 rfl rfl ?_
                refine G.get (g := 20) (i := 0) C 20 none dX6_price_141 (by decide) rfl rfl uX_X6 (by decide) uf_RX6_52 rfl rfl ?_
                refine G.iload_n C 4 dX6_price_144 rfl rfl ?_
                have hin_145 : vp_in b 24 := by
                  exact vp_ofc b_16 hl (by omega) (by decide)
                refine G.iald (g := 35) (i := 0) (n := 24) C dX6_price_145 (by decide) rfl hin_145 ?_
                refine G.imul C dX6_price_146 ?_
                refine G.isub C dX6_price_147 ?_
                refine G.topi (fun x4_148 ex4_148 => ?_)
                refine G.istore (L1 := [(4, .int x4_148), (3, .int r_60), (0, .ref (w.2.2.2.1 20 0)), (1, .int 2), (2, .int b)]) C dX6_price_148 (by decide) rfl ?_
                refine G.iload C 0 dX6_price_150 rfl ?_
                refine G.if_ge (tgt := 159) C dX6_price_152 (by decide) (fun c_152 => ?_) (fun c_152 => ?_)
                · refine G.iload C 0 dX6_price_159 rfl ?_
                  refine G.istore (L1 := [(4, .int x4_148), (3, .int r_60), (0, .ref (w.2.2.2.1 20 0)), (1, .int 2), (2, .int b)]) C dX6_price_161 (by decide) rfl ?_
                  refine G.iload C 0 dX6_price_163 rfl ?_
                  subst hQ
                  exact G.iret C hr dX6_price_165 (by
                      subst hPV
                      rw [e_57] at e_60
                      first | refine Or.inr (Or.inl ⟨⟨b_16, by decide, by decide⟩, rfl, rfl, ?_⟩) | refine Or.inr (Or.inr (Or.inl ⟨⟨b_16, by decide, by decide⟩, rfl, rfl, ?_⟩)) | refine Or.inr (Or.inr (Or.inr ⟨⟨b_16, by decide, by decide⟩, rfl, rfl, ?_⟩))
                      all_goals subst_vars
                      all_goals simp only [wUpL_1] at *
                      all_goals (try rw [jmax0])
                      all_goals (first | (simp [plainF, colF, *]; done) | (simp [plainF, colF, *]; intro h9; exact absurd h9 (Int32.not_lt.mpr c_152)) | (simp [plainF, colF, *]; intro h9; exact absurd (by simpa using h9) c_152)))
                · refine G.iconst (v := 0) C dX6_price_155 (by decide) ?_
                  refine G.goto (tgt := 161) C dX6_price_156 (by decide) ?_
                  refine G.istore (L1 := [(4, .int 0), (3, .int r_60), (0, .ref (w.2.2.2.1 20 0)), (1, .int 2), (2, .int b)]) C dX6_price_161 (by decide) rfl ?_
                  refine G.iload C 0 dX6_price_163 rfl ?_
                  subst hQ
                  exact G.iret C hr dX6_price_165 (by
                      subst hPV
                      rw [e_57] at e_60
                      first | refine Or.inr (Or.inl ⟨⟨b_16, by decide, by decide⟩, rfl, rfl, ?_⟩) | refine Or.inr (Or.inr (Or.inl ⟨⟨b_16, by decide, by decide⟩, rfl, rfl, ?_⟩)) | refine Or.inr (Or.inr (Or.inr ⟨⟨b_16, by decide, by decide⟩, rfl, rfl, ?_⟩))
                      all_goals subst_vars
                      all_goals simp only [wUpL_1] at *
                      all_goals (try rw [jmax0])
                      all_goals (first | (simp [plainF, colF, *]; done) | (simp [plainF, colF, *]; intro h9; exact absurd h9 (Int32.not_lt.mpr c_152)) | (simp [plainF, colF, *]; intro h9; exact absurd (by simpa using h9) c_152)))
              · refine G.iload C 0 dX6_price_116 rfl ?_
                refine G.iload C 0 dX6_price_118 rfl ?_
                refine G.iconst (v := 3) C dX6_price_120 (by decide) ?_
                refine G.iadd C dX6_price_121 ?_
                refine G.iconst (v := 4) C dX6_price_122 (by decide) ?_
                refine G.idiv C dX6_price_123 (by decide) ?_
                refine G.isub C dX6_price_124 ?_
                refine G.goto (tgt := 130) C dX6_price_125 (by decide) ?_
                refine G.topi (fun x4_130 ex4_130 => ?_)
                refine G.istore (L1 := [(4, .int x4_130), (3, .int r_60), (0, .ref (w.2.2.2.1 20 0)), (1, .int 2), (2, .int b)]) C dX6_price_130 (by decide) rfl ?_
                refine G.iload_n C 3 dX6_price_132 rfl rfl ?_
                refine G.iconst (v := 1) C dX6_price_133 (by decide) ?_
                refine G.icmp_le (tgt := 163) C dX6_price_134 (by decide) (fun c_134 => absurd c_134 (by decide)) (fun c_134 => ?_)
                refine G.iload C 0 dX6_price_137 rfl ?_
                refine G.iconst (v := 3) C dX6_price_139 (by decide) ?_
                refine G.aload_n C 2 dX6_price_140 rfl rfl ?_
                refine G.get (g := 20) (i := 0) C 20 none dX6_price_141 (by decide) rfl rfl uX_X6 (by decide) uf_RX6_52 rfl rfl ?_
                refine G.iload_n C 4 dX6_price_144 rfl rfl ?_
                have hin_145 : vp_in b 24 := by
                  exact vp_ofc b_16 hl (by omega) (by decide)
                refine G.iald (g := 35) (i := 0) (n := 24) C dX6_price_145 (by decide) rfl hin_145 ?_
                refine G.imul C dX6_price_146 ?_
                refine G.isub C dX6_price_147 ?_
                refine G.topi (fun x4_148 ex4_148 => ?_)
                refine G.istore (L1 := [(4, .int x4_148), (3, .int r_60), (0, .ref (w.2.2.2.1 20 0)), (1, .int 2), (2, .int b)]) C dX6_price_148 (by decide) rfl ?_
                refine G.iload C 0 dX6_price_150 rfl ?_
                refine G.if_ge (tgt := 159) C dX6_price_152 (by decide) (fun c_152 => ?_) (fun c_152 => ?_)
                · refine G.iload C 0 dX6_price_159 rfl ?_
                  refine G.istore (L1 := [(4, .int x4_148), (3, .int r_60), (0, .ref (w.2.2.2.1 20 0)), (1, .int 2), (2, .int b)]) C dX6_price_161 (by decide) rfl ?_
                  refine G.iload C 0 dX6_price_163 rfl ?_
                  subst hQ
                  exact G.iret C hr dX6_price_165 (by
                      subst hPV
                      rw [e_57] at e_60
                      first | refine Or.inr (Or.inl ⟨⟨b_16, by decide, by decide⟩, rfl, rfl, ?_⟩) | refine Or.inr (Or.inr (Or.inl ⟨⟨b_16, by decide, by decide⟩, rfl, rfl, ?_⟩)) | refine Or.inr (Or.inr (Or.inr ⟨⟨b_16, by decide, by decide⟩, rfl, rfl, ?_⟩))
                      all_goals subst_vars
                      all_goals simp only [wUpL_1] at *
                      all_goals (try rw [jmax0])
                      all_goals (first | (simp [plainF, colF, *]; done) | (simp [plainF, colF, *]; intro h9; exact absurd h9 (Int32.not_lt.mpr c_152)) | (simp [plainF, colF, *]; intro h9; exact absurd (by simpa using h9) c_152)))
                · refine G.iconst (v := 0) C dX6_price_155 (by decide) ?_
                  refine G.goto (tgt := 161) C dX6_price_156 (by decide) ?_
                  refine G.istore (L1 := [(4, .int 0), (3, .int r_60), (0, .ref (w.2.2.2.1 20 0)), (1, .int 2), (2, .int b)]) C dX6_price_161 (by decide) rfl ?_
                  refine G.iload C 0 dX6_price_163 rfl ?_
                  subst hQ
                  exact G.iret C hr dX6_price_165 (by
                      subst hPV
                      rw [e_57] at e_60
                      first | refine Or.inr (Or.inl ⟨⟨b_16, by decide, by decide⟩, rfl, rfl, ?_⟩) | refine Or.inr (Or.inr (Or.inl ⟨⟨b_16, by decide, by decide⟩, rfl, rfl, ?_⟩)) | refine Or.inr (Or.inr (Or.inr ⟨⟨b_16, by decide, by decide⟩, rfl, rfl, ?_⟩))
                      all_goals subst_vars
                      all_goals simp only [wUpL_1] at *
                      all_goals (try rw [jmax0])
                      all_goals (first | (simp [plainF, colF, *]; done) | (simp [plainF, colF, *]; intro h9; exact absurd h9 (Int32.not_lt.mpr c_152)) | (simp [plainF, colF, *]; intro h9; exact absurd (by simpa using h9) c_152)))
            · refine G.iload C 0 dX6_price_96 rfl ?_
              refine G.iload C 0 dX6_price_98 rfl ?_
              refine G.iconst (v := 2) C dX6_price_100 (by decide) ?_
              refine G.idiv C dX6_price_101 (by decide) ?_
              refine G.iadd C dX6_price_102 ?_
              refine G.goto (tgt := 130) C dX6_price_103 (by decide) ?_
              refine G.topi (fun x4_130 ex4_130 => ?_)
              refine G.istore (L1 := [(4, .int x4_130), (3, .int r_60), (0, .ref (w.2.2.2.1 20 0)), (1, .int 2), (2, .int b)]) C dX6_price_130 (by decide) rfl ?_
              refine G.iload_n C 3 dX6_price_132 rfl rfl ?_
              refine G.iconst (v := 1) C dX6_price_133 (by decide) ?_
              refine G.icmp_le (tgt := 163) C dX6_price_134 (by decide) (fun c_134 => absurd c_134 (by decide)) (fun c_134 => ?_)
              refine G.iload C 0 dX6_price_137 rfl ?_
              refine G.iconst (v := 3) C dX6_price_139 (by decide) ?_
              refine G.aload_n C 2 dX6_price_140 rfl rfl ?_
              refine G.get (g := 20) (i := 0) C 20 none dX6_price_141 (by decide) rfl rfl uX_X6 (by decide) uf_RX6_52 rfl rfl ?_
              refine G.iload_n C 4 dX6_price_144 rfl rfl ?_
              have hin_145 : vp_in b 24 := by
                exact vp_ofc b_16 hl (by omega) (by decide)
              refine G.iald (g := 35) (i := 0) (n := 24) C dX6_price_145 (by decide) rfl hin_145 ?_
              refine G.imul C dX6_price_146 ?_
              refine G.isub C dX6_price_147 ?_
              refine G.topi (fun x4_148 ex4_148 => ?_)
              refine G.istore (L1 := [(4, .int x4_148), (3, .int r_60), (0, .ref (w.2.2.2.1 20 0)), (1, .int 2), (2, .int b)]) C dX6_price_148 (by decide) rfl ?_
              refine G.iload C 0 dX6_price_150 rfl ?_
              refine G.if_ge (tgt := 159) C dX6_price_152 (by decide) (fun c_152 => ?_) (fun c_152 => ?_)
              · refine G.iload C 0 dX6_price_159 rfl ?_
                refine G.istore (L1 := [(4, .int x4_148), (3, .int r_60), (0, .ref (w.2.2.2.1 20 0)), (1, .int 2), (2, .int b)]) C dX6_price_161 (by decide) rfl ?_
                refine G.iload C 0 dX6_price_163 rfl ?_
                subst hQ
                exact G.iret C hr dX6_price_165 (by
                    subst hPV
                    rw [e_57] at e_60
                    first | refine Or.inr (Or.inl ⟨⟨b_16, by decide, by decide⟩, rfl, rfl, ?_⟩) | refine Or.inr (Or.inr (Or.inl ⟨⟨b_16, by decide, by decide⟩, rfl, rfl, ?_⟩)) | refine Or.inr (Or.inr (Or.inr ⟨⟨b_16, by decide, by decide⟩, rfl, rfl, ?_⟩))
                    all_goals subst_vars
                    all_goals simp only [wUpL_1] at *
                    all_goals (try rw [jmax0])
                    all_goals (first | (simp [plainF, colF, *]; done) | (simp [plainF, colF, *]; intro h9; exact absurd h9 (Int32.not_lt.mpr c_152)) | (simp [plainF, colF, *]; intro h9; exact absurd (by simpa using h9) c_152)))
              · refine G.iconst (v := 0) C dX6_price_155 (by decide) ?_
                refine G.goto (tgt := 161) C dX6_price_156 (by decide) ?_
                refine G.istore (L1 := [(4, .int 0), (3, .int r_60), (0, .ref (w.2.2.2.1 20 0)), (1, .int 2), (2, .int b)]) C dX6_price_161 (by decide) rfl ?_
                refine G.iload C 0 dX6_price_163 rfl ?_
                subst hQ
                exact G.iret C hr dX6_price_165 (by
                    subst hPV
                    rw [e_57] at e_60
                    first | refine Or.inr (Or.inl ⟨⟨b_16, by decide, by decide⟩, rfl, rfl, ?_⟩) | refine Or.inr (Or.inr (Or.inl ⟨⟨b_16, by decide, by decide⟩, rfl, rfl, ?_⟩)) | refine Or.inr (Or.inr (Or.inr ⟨⟨b_16, by decide, by decide⟩, rfl, rfl, ?_⟩))
                    all_goals subst_vars
                    all_goals simp only [wUpL_1] at *
                    all_goals (try rw [jmax0])
                    all_goals (first | (simp [plainF, colF, *]; done) | (simp [plainF, colF, *]; intro h9; exact absurd h9 (Int32.not_lt.mpr c_152)) | (simp [plainF, colF, *]; intro h9; exact absurd (by simpa using h9) c_152)))
        · subst c_39
          refine G.ldc2 C uk_RX6_104 dX6_price_42 ?_
          refine G.goto (tgt := 51) C dX6_price_45 (by decide) ?_
          refine G.ladd C dX6_price_51 ?_
          refine G.putL (g := 20) (i := 0) (j := 1) C 1 none dX6_price_52 (by decide) (by decide) rfl rfl uX_X6 tyX6 tyX6_ok nmX6 (by decide) uf_RX6_100 rfl rfl (by decide +kernel) (Nat.le_of_ble_eq_true rfl) w_up_20_1 ?_
          refine G.aload_n C 0 dX6_price_55 rfl rfl ?_
          refine G.iload_n C 2 dX6_price_56 rfl rfl ?_
          have hM_4 := ok_X6_candidatesOf hw (wUpL σ 1 ((σ.2 1) + 11)) b hn h6 (vp_ofc b_16 hl hl20 (by decide))
          refine G.callV C (g := 20) (i := 0) none hM_4 dX6_price_57 (by decide) rfl rfl rfl uv_X6_candidatesOf ul_RX6_94 rfl rfl (by decide) (Nat.le_of_ble_eq_true rfl) (fun r_57 τ_57 h_57 => ?_)
          obtain ⟨h_57, e_57⟩ := h_57; subst h_57
          have hM_5 := ok_X6_bits hw (wUpL σ 1 ((σ.2 1) + 11)) r_57
          refine G.callS C none hM_5 dX6_price_60 us_X6_bits ul_RX6_76 rfl rfl (by decide) (Nat.le_of_ble_eq_true rfl) (fun r_60 τ_60 h_60 => ?_)
          obtain ⟨h_60, e_60⟩ := h_60; subst h_60
          refine G.istore_n (L1 := [(3, .int r_60), (0, .ref (w.2.2.2.1 20 0)), (1, .int 1), (2, .int b)]) C dX6_price_63 rfl (by decide) rfl ?_
          refine G.iload_n C 0 dX6_price_64 rfl rfl ?_
          refine G.if_ne (tgt := 72) C dX6_price_65 (by decide) (fun c_65 => ?_) (fun c_65 => ?_)
          · refine G.aload_n C 1 dX6_price_72 rfl rfl ?_
            refine G.get (g := 20) (i := 0) C 10 none dX6_price_73 (by decide) rfl rfl uX_X6 (by decide) uf_RX6_28 rfl rfl ?_
            refine G.iload_n C 3 dX6_price_76 rfl rfl ?_
            have hin_77 : vp_in b 20 := by
              exact vp_ofc b_16 hl hl20 (by decide)
            refine G.iald (g := 27) (i := 0) (n := 20) C dX6_price_77 (by decide) rfl hin_77 ?_
            refine G.iload_n C 0 dX6_price_78 rfl rfl ?_
            refine G.idiv C dX6_price_79 (c_65) ?_
            refine G.topi (fun x4_80 ex4_80 => ?_)
            refine G.istore (L1 := [(4, .int x4_80), (3, .int r_60), (0, .ref (w.2.2.2.1 20 0)), (1, .int 1), (2, .int b)]) C dX6_price_80 (by decide) rfl ?_
            refine G.iload_n C 3 dX6_price_82 rfl rfl ?_
            refine G.if_le (tgt := 132) C dX6_price_83 (by decide) (fun c_83 => absurd c_83 (by decide)) (fun c_83 => ?_)
            refine G.aload_n C 2 dX6_price_86 rfl rfl ?_
            refine G.get (g := 20) (i := 0) C 11 none dX6_price_87 (by decide) rfl rfl uX_X6 (by decide) uf_RX6_31 rfl rfl ?_
            refine G.iload_n C 4 dX6_price_90 rfl rfl ?_
            have hin_91 : vp_in b 20 := by
              exact vp_ofc b_16 hl hl20 (by decide)
            refine G.iald (g := 28) (i := 0) (n := 20) C dX6_price_91 (by decide) rfl hin_91 ?_
            refine G.iconst (v := 1) C dX6_price_92 (by decide) ?_
            refine G.icmp_ne (tgt := 106) C dX6_price_93 (by decide) (fun c_93 => ?_) (fun c_93 => ?_)
            · refine G.aload_n C 2 dX6_price_106 rfl rfl ?_
              refine G.get (g := 20) (i := 0) C 11 none dX6_price_107 (by decide) rfl rfl uX_X6 (by decide) uf_RX6_31 rfl rfl ?_
              refine G.iload_n C 4 dX6_price_110 rfl rfl ?_
              have hin_111 : vp_in b 20 := by
                exact vp_ofc b_16 hl hl20 (by decide)
              refine G.iald (g := 28) (i := 0) (n := 20) C dX6_price_111 (by decide) rfl hin_111 ?_
              refine G.iconst (v := 2) C dX6_price_112 (by decide) ?_
              refine G.icmp_ne (tgt := 128) C dX6_price_113 (by decide) (fun c_113 => ?_) (fun c_113 => ?_)
              · refine G.iload C 0 dX6_price_128 rfl ?_
                refine G.istore (L1 := [(4, .int x4_80), (3, .int r_60), (0, .ref (w.2.2.2.1 20 0)), (1, .int 1), (2, .int b)]) C dX6_price_130 (by decide) rfl ?_
                refine G.iload_n C 3 dX6_price_132 rfl rfl ?_
                refine G.iconst (v := 1) C dX6_price_133 (by decide) ?_
                refine G.icmp_le (tgt := 163) C dX6_price_134 (by decide) (fun c_134 => ?_) (fun c_134 => absurd (by decide) c_134)
                refine G.iload C 0 dX6_price_163 rfl ?_
                subst hQ
                exact G.iret C hr dX6_price_165 (by
                    subst hPV
                    rw [e_57] at e_60
                    first | refine Or.inr (Or.inl ⟨⟨b_16, by decide, by decide⟩, rfl, rfl, ?_⟩) | refine Or.inr (Or.inr (Or.inl ⟨⟨b_16, by decide, by decide⟩, rfl, rfl, ?_⟩)) | refine Or.inr (Or.inr (Or.inr ⟨⟨b_16, by decide, by decide⟩, rfl, rfl, ?_⟩))
                    all_goals subst_vars
                    all_goals simp only [wUpL_1] at *
                    all_goals (try rw [jmax0])
                    all_goals (first | (simp [plainF, colF, *]; done) | (simp [plainF, colF, *]; intro h9; exact absurd h9 (Int32.not_lt.mpr c_152)) | (simp [plainF, colF, *]; intro h9; exact absurd (by simpa using h9) c_152)))
              · refine G.iload C 0 dX6_price_116 rfl ?_
                refine G.iload C 0 dX6_price_118 rfl ?_
                refine G.iconst (v := 3) C dX6_price_120 (by decide) ?_
                refine G.iadd C dX6_price_121 ?_
                refine G.iconst (v := 4) C dX6_price_122 (by decide) ?_
                refine G.idiv C dX6_price_123 (by decide) ?_
                refine G.isub C dX6_price_124 ?_
                refine G.goto (tgt := 130) C dX6_price_125 (by decide) ?_
                refine G.topi (fun x4_130 ex4_130 => ?_)
                refine G.istore (L1 := [(4, .int x4_130), (3, .int r_60), (0, .ref (w.2.2.2.1 20 0)), (1, .int 1), (2, .int b)]) C dX6_price_130 (by decide) rfl ?_
                refine G.iload_n C 3 dX6_price_132 rfl rfl ?_
                refine G.iconst (v := 1) C dX6_price_133 (by decide) ?_
                refine G.icmp_le (tgt := 163) C dX6_price_134 (by decide) (fun c_134 => ?_) (fun c_134 => absurd (by decide) c_134)
                refine G.iload C 0 dX6_price_163 rfl ?_
                subst hQ
                exact G.iret C hr dX6_price_165 (by
                    subst hPV
                    rw [e_57] at e_60
                    first | refine Or.inr (Or.inl ⟨⟨b_16, by decide, by decide⟩, rfl, rfl, ?_⟩) | refine Or.inr (Or.inr (Or.inl ⟨⟨b_16, by decide, by decide⟩, rfl, rfl, ?_⟩)) | refine Or.inr (Or.inr (Or.inr ⟨⟨b_16, by decide, by decide⟩, rfl, rfl, ?_⟩))
                    all_goals subst_vars
                    all_goals simp only [wUpL_1] at *
                    all_goals (try rw [jmax0])
                    all_goals (first | (simp [plainF, colF, *]; done) | (simp [plainF, colF, *]; intro h9; exact absurd h9 (Int32.not_lt.mpr c_152)) | (simp [plainF, colF, *]; intro h9; exact absurd (by simpa using h9) c_152)))
            · refine G.iload C 0 dX6_price_96 rfl ?_
              refine G.iload C 0 dX6_price_98 rfl ?_
              refine G.iconst (v := 2) C dX6_price_100 (by decide) ?_
              refine G.idiv C dX6_price_101 (by decide) ?_
              refine G.iadd C dX6_price_102 ?_
              refine G.goto (tgt := 130) C dX6_price_103 (by decide) ?_
              refine G.topi (fun x4_130 ex4_130 => ?_)
              refine G.istore (L1 := [(4, .int x4_130), (3, .int r_60), (0, .ref (w.2.2.2.1 20 0)), (1, .int 1), (2, .int b)]) C dX6_price_130 (by decide) rfl ?_
              refine G.iload_n C 3 dX6_price_132 rfl rfl ?_
              refine G.iconst (v := 1) C dX6_price_133 (by decide) ?_
              refine G.icmp_le (tgt := 163) C dX6_price_134 (by decide) (fun c_134 => ?_) (fun c_134 => absurd (by decide) c_134)
              refine G.iload C 0 dX6_price_163 rfl ?_
              subst hQ
              exact G.iret C hr dX6_price_165 (by
                  subst hPV
                  rw [e_57] at e_60
                  first | refine Or.inr (Or.inl ⟨⟨b_16, by decide, by decide⟩, rfl, rfl, ?_⟩) | refine Or.inr (Or.inr (Or.inl ⟨⟨b_16, by decide, by decide⟩, rfl, rfl, ?_⟩)) | refine Or.inr (Or.inr (Or.inr ⟨⟨b_16, by decide, by decide⟩, rfl, rfl, ?_⟩))
                  all_goals subst_vars
                  all_goals simp only [wUpL_1] at *
                  all_goals (try rw [jmax0])
                  all_goals (first | (simp [plainF, colF, *]; done) | (simp [plainF, colF, *]; intro h9; exact absurd h9 (Int32.not_lt.mpr c_152)) | (simp [plainF, colF, *]; intro h9; exact absurd (by simpa using h9) c_152)))
          · refine G.iconst (v := 0) C dX6_price_68 (by decide) ?_
            refine G.goto (tgt := 80) C dX6_price_69 (by decide) ?_
            refine G.istore (L1 := [(4, .int 0), (3, .int r_60), (0, .ref (w.2.2.2.1 20 0)), (1, .int 1), (2, .int b)]) C dX6_price_80 (by decide) rfl ?_
            refine G.iload_n C 3 dX6_price_82 rfl rfl ?_
            refine G.if_le (tgt := 132) C dX6_price_83 (by decide) (fun c_83 => absurd c_83 (by decide)) (fun c_83 => ?_)
            refine G.aload_n C 2 dX6_price_86 rfl rfl ?_
            refine G.get (g := 20) (i := 0) C 11 none dX6_price_87 (by decide) rfl rfl uX_X6 (by decide) uf_RX6_31 rfl rfl ?_
            refine G.iload_n C 4 dX6_price_90 rfl rfl ?_
            have hin_91 : vp_in b 20 := by
              exact vp_ofc b_16 hl hl20 (by decide)
            refine G.iald (g := 28) (i := 0) (n := 20) C dX6_price_91 (by decide) rfl hin_91 ?_
            refine G.iconst (v := 1) C dX6_price_92 (by decide) ?_
            refine G.icmp_ne (tgt := 106) C dX6_price_93 (by decide) (fun c_93 => ?_) (fun c_93 => ?_)
            · refine G.aload_n C 2 dX6_price_106 rfl rfl ?_
              refine G.get (g := 20) (i := 0) C 11 none dX6_price_107 (by decide) rfl rfl uX_X6 (by decide) uf_RX6_31 rfl rfl ?_
              refine G.iload_n C 4 dX6_price_110 rfl rfl ?_
              have hin_111 : vp_in b 20 := by
                exact vp_ofc b_16 hl hl20 (by decide)
              refine G.iald (g := 28) (i := 0) (n := 20) C dX6_price_111 (by decide) rfl hin_111 ?_
              refine G.iconst (v := 2) C dX6_price_112 (by decide) ?_
              refine G.icmp_ne (tgt := 128) C dX6_price_113 (by decide) (fun c_113 => ?_) (fun c_113 => ?_)
              · refine G.iload C 0 dX6_price_128 rfl ?_
                refine G.istore (L1 := [(4, .int 0), (3, .int r_60), (0, .ref (w.2.2.2.1 20 0)), (1, .int 1), (2, .int b)]) C dX6_price_130 (by decide) rfl ?_
                refine G.iload_n C 3 dX6_price_132 rfl rfl ?_
                refine G.iconst (v := 1) C dX6_price_133 (by decide) ?_
                refine G.icmp_le (tgt := 163) C dX6_price_134 (by decide) (fun c_134 => ?_) (fun c_134 => absurd (by decide) c_134)
                refine G.iload C 0 dX6_price_163 rfl ?_
                subst hQ
                exact G.iret C hr dX6_price_165 (by
                    subst hPV
                    rw [e_57] at e_60
                    first | refine Or.inr (Or.inl ⟨⟨b_16, by decide, by decide⟩, rfl, rfl, ?_⟩) | refine Or.inr (Or.inr (Or.inl ⟨⟨b_16, by decide, by decide⟩, rfl, rfl, ?_⟩)) | refine Or.inr (Or.inr (Or.inr ⟨⟨b_16, by decide, by decide⟩, rfl, rfl, ?_⟩))
                    all_goals subst_vars
                    all_goals simp only [wUpL_1] at *
                    all_goals (try rw [jmax0])
                    all_goals (first | (simp [plainF, colF, *]; done) | (simp [plainF, colF, *]; intro h9; exact absurd h9 (Int32.not_lt.mpr c_152)) | (simp [plainF, colF, *]; intro h9; exact absurd (by simpa using h9) c_152)))
              · refine G.iload C 0 dX6_price_116 rfl ?_
                refine G.iload C 0 dX6_price_118 rfl ?_
                refine G.iconst (v := 3) C dX6_price_120 (by decide) ?_
                refine G.iadd C dX6_price_121 ?_
                refine G.iconst (v := 4) C dX6_price_122 (by decide) ?_
                refine G.idiv C dX6_price_123 (by decide) ?_
                refine G.isub C dX6_price_124 ?_
                refine G.goto (tgt := 130) C dX6_price_125 (by decide) ?_
                refine G.topi (fun x4_130 ex4_130 => ?_)
                refine G.istore (L1 := [(4, .int x4_130), (3, .int r_60), (0, .ref (w.2.2.2.1 20 0)), (1, .int 1), (2, .int b)]) C dX6_price_130 (by decide) rfl ?_
                refine G.iload_n C 3 dX6_price_132 rfl rfl ?_
                refine G.iconst (v := 1) C dX6_price_133 (by decide) ?_
                refine G.icmp_le (tgt := 163) C dX6_price_134 (by decide) (fun c_134 => ?_) (fun c_134 => absurd (by decide) c_134)
                refine G.iload C 0 dX6_price_163 rfl ?_
                subst hQ
                exact G.iret C hr dX6_price_165 (by
                    subst hPV
                    rw [e_57] at e_60
                    first | refine Or.inr (Or.inl ⟨⟨b_16, by decide, by decide⟩, rfl, rfl, ?_⟩) | refine Or.inr (Or.inr (Or.inl ⟨⟨b_16, by decide, by decide⟩, rfl, rfl, ?_⟩)) | refine Or.inr (Or.inr (Or.inr ⟨⟨b_16, by decide, by decide⟩, rfl, rfl, ?_⟩))
                    all_goals subst_vars
                    all_goals simp only [wUpL_1] at *
                    all_goals (try rw [jmax0])
                    all_goals (first | (simp [plainF, colF, *]; done) | (simp [plainF, colF, *]; intro h9; exact absurd h9 (Int32.not_lt.mpr c_152)) | (simp [plainF, colF, *]; intro h9; exact absurd (by simpa using h9) c_152)))
            · refine G.iload C 0 dX6_price_96 rfl ?_
              refine G.iload C 0 dX6_price_98 rfl ?_
              refine G.iconst (v := 2) C dX6_price_100 (by decide) ?_
              refine G.idiv C dX6_price_101 (by decide) ?_
              refine G.iadd C dX6_price_102 ?_
              refine G.goto (tgt := 130) C dX6_price_103 (by decide) ?_
              refine G.topi (fun x4_130 ex4_130 => ?_)
              refine G.istore (L1 := [(4, .int x4_130), (3, .int r_60), (0, .ref (w.2.2.2.1 20 0)), (1, .int 1), (2, .int b)]) C dX6_price_130 (by decide) rfl ?_
              refine G.iload_n C 3 dX6_price_132 rfl rfl ?_
              refine G.iconst (v := 1) C dX6_price_133 (by decide) ?_
              refine G.icmp_le (tgt := 163) C dX6_price_134 (by decide) (fun c_134 => ?_) (fun c_134 => absurd (by decide) c_134)
              refine G.iload C 0 dX6_price_163 rfl ?_
              subst hQ
              exact G.iret C hr dX6_price_165 (by
                  subst hPV
                  rw [e_57] at e_60
                  first | refine Or.inr (Or.inl ⟨⟨b_16, by decide, by decide⟩, rfl, rfl, ?_⟩) | refine Or.inr (Or.inr (Or.inl ⟨⟨b_16, by decide, by decide⟩, rfl, rfl, ?_⟩)) | refine Or.inr (Or.inr (Or.inr ⟨⟨b_16, by decide, by decide⟩, rfl, rfl, ?_⟩))
                  all_goals subst_vars
                  all_goals simp only [wUpL_1] at *
                  all_goals (try rw [jmax0])
                  all_goals (first | (simp [plainF, colF, *]; done) | (simp [plainF, colF, *]; intro h9; exact absurd h9 (Int32.not_lt.mpr c_152)) | (simp [plainF, colF, *]; intro h9; exact absurd (by simpa using h9) c_152)))
      · subst c_30
        refine G.lconst (v := 1) C dX6_price_33 (by decide) ?_
        refine G.goto (tgt := 51) C dX6_price_34 (by decide) ?_
        refine G.ladd C dX6_price_51 ?_
        refine G.putL (g := 20) (i := 0) (j := 1) C 1 none dX6_price_52 (by decide) (by decide) rfl rfl uX_X6 tyX6 tyX6_ok nmX6 (by decide) uf_RX6_100 rfl rfl (by decide +kernel) (Nat.le_of_ble_eq_true rfl) w_up_20_1 ?_
        refine G.aload_n C 0 dX6_price_55 rfl rfl ?_
        refine G.iload_n C 2 dX6_price_56 rfl rfl ?_
        have hM_6 := ok_X6_candidatesOf hw (wUpL σ 1 ((σ.2 1) + 1)) b hn h6 (vp_ofc b_16 hl hl20 (by decide))
        refine G.callV C (g := 20) (i := 0) none hM_6 dX6_price_57 (by decide) rfl rfl rfl uv_X6_candidatesOf ul_RX6_94 rfl rfl (by decide) (Nat.le_of_ble_eq_true rfl) (fun r_57 τ_57 h_57 => ?_)
        obtain ⟨h_57, e_57⟩ := h_57; subst h_57
        have hM_7 := ok_X6_bits hw (wUpL σ 1 ((σ.2 1) + 1)) r_57
        refine G.callS C none hM_7 dX6_price_60 us_X6_bits ul_RX6_76 rfl rfl (by decide) (Nat.le_of_ble_eq_true rfl) (fun r_60 τ_60 h_60 => ?_)
        obtain ⟨h_60, e_60⟩ := h_60; subst h_60
        refine G.istore_n (L1 := [(3, .int r_60), (0, .ref (w.2.2.2.1 20 0)), (1, .int 0), (2, .int b)]) C dX6_price_63 rfl (by decide) rfl ?_
        refine G.iload_n C 0 dX6_price_64 rfl rfl ?_
        refine G.if_ne (tgt := 72) C dX6_price_65 (by decide) (fun c_65 => ?_) (fun c_65 => ?_)
        · refine G.aload_n C 1 dX6_price_72 rfl rfl ?_
          refine G.get (g := 20) (i := 0) C 10 none dX6_price_73 (by decide) rfl rfl uX_X6 (by decide) uf_RX6_28 rfl rfl ?_
          refine G.iload_n C 3 dX6_price_76 rfl rfl ?_
          have hin_77 : vp_in b 20 := by
            exact vp_ofc b_16 hl hl20 (by decide)
          refine G.iald (g := 27) (i := 0) (n := 20) C dX6_price_77 (by decide) rfl hin_77 ?_
          refine G.iload_n C 0 dX6_price_78 rfl rfl ?_
          refine G.idiv C dX6_price_79 (c_65) ?_
          refine G.topi (fun x4_80 ex4_80 => ?_)
          refine G.istore (L1 := [(4, .int x4_80), (3, .int r_60), (0, .ref (w.2.2.2.1 20 0)), (1, .int 0), (2, .int b)]) C dX6_price_80 (by decide) rfl ?_
          refine G.iload_n C 3 dX6_price_82 rfl rfl ?_
          refine G.if_le (tgt := 132) C dX6_price_83 (by decide) (fun c_83 => ?_) (fun c_83 => absurd (by decide) c_83)
          refine G.iload_n C 3 dX6_price_132 rfl rfl ?_
          refine G.iconst (v := 1) C dX6_price_133 (by decide) ?_
          refine G.icmp_le (tgt := 163) C dX6_price_134 (by decide) (fun c_134 => ?_) (fun c_134 => absurd (by decide) c_134)
          refine G.iload C 0 dX6_price_163 rfl ?_
          subst hQ
          exact G.iret C hr dX6_price_165 (by
              subst hPV
              rw [e_57] at e_60
              first | refine Or.inr (Or.inl ⟨⟨b_16, by decide, by decide⟩, rfl, rfl, ?_⟩) | refine Or.inr (Or.inr (Or.inl ⟨⟨b_16, by decide, by decide⟩, rfl, rfl, ?_⟩)) | refine Or.inr (Or.inr (Or.inr ⟨⟨b_16, by decide, by decide⟩, rfl, rfl, ?_⟩))
              all_goals subst_vars
              all_goals simp only [wUpL_1] at *
              all_goals (try rw [jmax0])
              all_goals (first | (simp [plainF, colF, *]; done) | (simp [plainF, colF, *]; intro h9; exact absurd h9 (Int32.not_lt.mpr c_152)) | (simp [plainF, colF, *]; intro h9; exact absurd (by simpa using h9) c_152)))
        · refine G.iconst (v := 0) C dX6_price_68 (by decide) ?_
          refine G.goto (tgt := 80) C dX6_price_69 (by decide) ?_
          refine G.istore (L1 := [(4, .int 0), (3, .int r_60), (0, .ref (w.2.2.2.1 20 0)), (1, .int 0), (2, .int b)]) C dX6_price_80 (by decide) rfl ?_
          refine G.iload_n C 3 dX6_price_82 rfl rfl ?_
          refine G.if_le (tgt := 132) C dX6_price_83 (by decide) (fun c_83 => ?_) (fun c_83 => absurd (by decide) c_83)
          refine G.iload_n C 3 dX6_price_132 rfl rfl ?_
          refine G.iconst (v := 1) C dX6_price_133 (by decide) ?_
          refine G.icmp_le (tgt := 163) C dX6_price_134 (by decide) (fun c_134 => ?_) (fun c_134 => absurd (by decide) c_134)
          refine G.iload C 0 dX6_price_163 rfl ?_
          subst hQ
          exact G.iret C hr dX6_price_165 (by
              subst hPV
              rw [e_57] at e_60
              first | refine Or.inr (Or.inl ⟨⟨b_16, by decide, by decide⟩, rfl, rfl, ?_⟩) | refine Or.inr (Or.inr (Or.inl ⟨⟨b_16, by decide, by decide⟩, rfl, rfl, ?_⟩)) | refine Or.inr (Or.inr (Or.inr ⟨⟨b_16, by decide, by decide⟩, rfl, rfl, ?_⟩))
              all_goals subst_vars
              all_goals simp only [wUpL_1] at *
              all_goals (try rw [jmax0])
              all_goals (first | (simp [plainF, colF, *]; done) | (simp [plainF, colF, *]; intro h9; exact absurd h9 (Int32.not_lt.mpr c_152)) | (simp [plainF, colF, *]; intro h9; exact absurd (by simpa using h9) c_152)))
    · have b_16 := wb_0 e_16 c_19
      refine G.iconst (v := -1) C dX6_price_22 (by decide) ?_
      subst hQ
      exact G.iret C hr dX6_price_23 (by
          subst hPV
          refine Or.inl ⟨fun q => ?_, rfl, rfl⟩
          first | exact b_8 q.2 | exact b_16 q.1)
