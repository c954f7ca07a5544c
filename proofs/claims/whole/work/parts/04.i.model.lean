set_option maxHeartbeats 4000000 in
set_option maxRecDepth 100000 in
theorem ok_X6_span {w : wD} (hw : wOK w) (σ : wSt) (a b : Int32) (hz : σ.1 20 0 0 = 0) {n : Nat} (hn : σ.1 20 0 2 = nI n) (h6 : n ≤ 6) {l : Nat} (hl : σ.1 20 0 7 = nI l) (hl20 : l ≤ 20) {m : Nat} (hm8 : m ≤ 8) (hpap : ∀ i, i < l → σ.1 29 0 i = -9 ∨ inN (nI m) (σ.1 29 0 i)) : MI w yX6_span cX6_span 8 (some .int) 2 43 [.ref (w.2.2.2.1 20 0), .int a, .int b] σ (fun r τ => σ = τ ∧ ((¬ (inN (σ.1 20 0 7) a ∧ (b = 0 ∨ b = 1)) ∧ r = -1) ∨ ((inN (σ.1 20 0 7) a ∧ (b = 0 ∨ b = 1)) ∧ r = if b = 0 then (yrU (yrB (candU (σ.1 21 0) (σ.1 25 0 a.toNatClampNeg) (σ.1 26 0 a.toNatClampNeg) n) (σ.1 22 0) (σ.1 23 0) n (σ.1 29 0 a.toNatClampNeg) (σ.1 31 0) (σ.1 32 0) (σ.1 30 0 a.toNatClampNeg)) 401).1 else (yrU (yrB (candU (σ.1 21 0) (σ.1 25 0 a.toNatClampNeg) (σ.1 26 0 a.toNatClampNeg) n) (σ.1 22 0) (σ.1 23 0) n (σ.1 29 0 a.toNatClampNeg) (σ.1 31 0) (σ.1 32 0) (σ.1 30 0 a.toNatClampNeg)) 401).2))) := by
  refine MI.of hw (by decide +kernel) (Nat.le_of_ble_eq_true rfl) (fun x C hr => ?_)
  suffices key : ∀ Q, Q = QI w x (fun r τ => σ = τ ∧ ((¬ (inN (σ.1 20 0 7) a ∧ (b = 0 ∨ b = 1)) ∧ r = -1) ∨ ((inN (σ.1 20 0 7) a ∧ (b = 0 ∨ b = 1)) ∧ r = if b = 0 then (yrU (yrB (candU (σ.1 21 0) (σ.1 25 0 a.toNatClampNeg) (σ.1 26 0 a.toNatClampNeg) n) (σ.1 22 0) (σ.1 23 0) n (σ.1 29 0 a.toNatClampNeg) (σ.1 31 0) (σ.1 32 0) (σ.1 30 0 a.toNatClampNeg)) 401).1 else (yrU (yrB (candU (σ.1 21 0) (σ.1 25 0 a.toNatClampNeg) (σ.1 26 0 a.toNatClampNeg) n) (σ.1 22 0) (σ.1 23 0) n (σ.1 29 0 a.toNatClampNeg) (σ.1 31 0) (σ.1 32 0) (σ.1 30 0 a.toNatClampNeg)) 401).2))) → G w x 8 Q 0 [(0, .ref (w.2.2.2.1 20 0)), (1, .int a), (2, .int b)] [] σ from key _ rfl
  intro Q hQ
  refine G.aload_n C 0 dX6_span_0 rfl rfl ?_
  refine G.iconst (v := 0) C dX6_span_1 (by decide) ?_
  refine G.put (g := 20) (i := 0) C 0 none dX6_span_2 (by decide) rfl rfl uX_X6 tyX6 tyX6_ok nmX6 (by decide) uf_RX6_61 rfl rfl (by decide +kernel) (Nat.le_of_ble_eq_true rfl) w_up_20_0 ?_
  rw [wUp_id hz]
  refine G.aload_n C 0 dX6_span_5 rfl rfl ?_
  refine G.iload_n C 1 dX6_span_6 rfl rfl ?_
  have hM_0 := ok_X6_isLeaf hw σ a hl hl20
  refine G.callV C (g := 20) (i := 0) none hM_0 dX6_span_7 (by decide) rfl rfl rfl uv_X6_isLeaf ul_RX6_91 rfl rfl (by decide) (Nat.le_of_ble_eq_true rfl) (fun r_7 τ_7 h_7 => ?_)
  obtain ⟨h_7, e_7⟩ := h_7; subst h_7
  refine G.if_eq (tgt := 22) C dX6_span_10 (by decide) (fun c_10 => ?_) (fun c_10 => ?_)
  · have b_7 := wb_0 e_7 c_10
    refine G.iconst (v := -1) C dX6_span_22 (by decide) ?_
    subst hQ
    exact G.iret C hr dX6_span_23 (by
        refine ⟨rfl, Or.inl ⟨fun q => ?_, rfl⟩⟩
        first | exact b_7 q.1 | exact b_16 (w_le1.mpr q.2))
  · have b_7 := wb_1 e_7 c_10
    refine G.iload_n C 2 dX6_span_13 rfl rfl ?_
    refine G.iconst (v := 0) C dX6_span_14 (by decide) ?_
    refine G.iconst (v := 1) C dX6_span_15 (by decide) ?_
    have hM_1 := ok_X6_in hw σ b 0 1
    refine G.callS C none hM_1 dX6_span_16 us_X6_in ul_RX6_65 rfl rfl (by decide) (Nat.le_of_ble_eq_true rfl) (fun r_16 τ_16 h_16 => ?_)
    obtain ⟨h_16, e_16⟩ := h_16; subst h_16
    refine G.if_ne (tgt := 24) C dX6_span_19 (by decide) (fun c_19 => ?_) (fun c_19 => ?_)
    · have b_16 := wb_1 e_16 c_19
      refine G.bipush (v := -9) C dX6_span_24 (by decide) ?_
      refine G.istore_n (L1 := [(3, .int (-9)), (0, .ref (w.2.2.2.1 20 0)), (1, .int a), (2, .int b)]) C dX6_span_26 rfl (by decide) rfl ?_
      refine G.bipush (v := -9) C dX6_span_27 (by decide) ?_
      refine G.istore (L1 := [(4, .int (-9)), (3, .int (-9)), (0, .ref (w.2.2.2.1 20 0)), (1, .int a), (2, .int b)]) C dX6_span_29 (by decide) rfl ?_
      refine G.sipush (v := 1500) C dX6_span_31 (by decide) ?_
      refine G.istore (L1 := [(5, .int 1500), (4, .int (-9)), (3, .int (-9)), (0, .ref (w.2.2.2.1 20 0)), (1, .int a), (2, .int b)]) C dX6_span_34 (by decide) rfl ?_
      have cut_36 : ∀ (m9 : Nat) (j : Nat) (x5 x4 x3 : Int32), j ≤ 401 → 401 < j + m9 → x5 = nI (1500 + j) → x4 = (yrU (yrB (candU (σ.1 21 0) (σ.1 25 0 a.toNatClampNeg) (σ.1 26 0 a.toNatClampNeg) n) (σ.1 22 0) (σ.1 23 0) n (σ.1 29 0 a.toNatClampNeg) (σ.1 31 0) (σ.1 32 0) (σ.1 30 0 a.toNatClampNeg)) j).2 → x3 = (yrU (yrB (candU (σ.1 21 0) (σ.1 25 0 a.toNatClampNeg) (σ.1 26 0 a.toNatClampNeg) n) (σ.1 22 0) (σ.1 23 0) n (σ.1 29 0 a.toNatClampNeg) (σ.1 31 0) (σ.1 32 0) (σ.1 30 0 a.toNatClampNeg)) j).1 → G w x 8 Q 36 [(5, .int x5), (4, .int x4), (3, .int x3), (0, .ref (w.2.2.2.1 20 0)), (1, .int a), (2, .int b)] [] σ := by
        intro m9
        induction m9 with
        | zero =>
          intro j x5 x4 x3 hj hm hx5 hx4 hx3
          exfalso
          omega
        | succ m9 ih_36 =>
          intro j x5 x4 x3 hj hm hx5 hx4 hx3
          subst hx5
          subst hx4
          subst hx3
          refine G.iload C 0 dX6_span_36 rfl ?_
          refine G.sipush (v := 1900) C dX6_span_38 (by decide) ?_
          refine G.icmp_gt (tgt := 232) C dX6_span_41 (by decide) (fun c_41 => ?_) (fun c_41 => ?_)
          · have hjn : j = 401 := by
              rw [show (1900 : Int32) = nI 1900 from rfl, nI_ltI (by decide) (by omega)] at c_41; omega
            refine G.iload_n C 5 dX6_span_232 rfl rfl ?_
            refine G.if_ne (tgt := 240) C dX6_span_233 (by decide) (fun c_233 => ?_) (fun c_233 => ?_)
            · refine G.iload C 1 dX6_span_240 rfl ?_
              subst hQ
              exact G.iret C hr dX6_span_242 (by
                  refine ⟨rfl, Or.inr ⟨⟨b_7, w_le1.mp b_16⟩, ?_⟩⟩
                  rw [if_neg c_233, hjn])
            · refine G.iload_n C 2 dX6_span_236 rfl rfl ?_
              refine G.goto (tgt := 242) C dX6_span_237 (by decide) ?_
              subst hQ
              exact G.iret C hr dX6_span_242 (by
                  refine ⟨rfl, Or.inr ⟨⟨b_7, w_le1.mp b_16⟩, ?_⟩⟩
                  rw [if_pos c_233, hjn])
          · have hjn : j < 401 := by
              rw [show (1900 : Int32) = nI 1900 from rfl, nI_ltI (by decide) (by omega)] at c_41; omega
            refine G.iconst (v := 0) C dX6_span_44 (by decide) ?_
            refine G.istore (L1 := [(6, .int 0), (5, .int (nI (1500 + j))), (4, .int ((yrU (yrB (candU (σ.1 21 0) (σ.1 25 0 a.toNatClampNeg) (σ.1 26 0 a.toNatClampNeg) n) (σ.1 22 0) (σ.1 23 0) n (σ.1 29 0 a.toNatClampNeg) (σ.1 31 0) (σ.1 32 0) (σ.1 30 0 a.toNatClampNeg)) j).2)), (3, .int ((yrU (yrB (candU (σ.1 21 0) (σ.1 25 0 a.toNatClampNeg) (σ.1 26 0 a.toNatClampNeg) n) (σ.1 22 0) (σ.1 23 0) n (σ.1 29 0 a.toNatClampNeg) (σ.1 31 0) (σ.1 32 0) (σ.1 30 0 a.toNatClampNeg)) j).1)), (0, .ref (w.2.2.2.1 20 0)), (1, .int a), (2, .int b)]) C dX6_span_45 (by decide) rfl ?_
            refine G.iconst (v := 0) C dX6_span_47 (by decide) ?_
            refine G.istore (L1 := [(7, .int 0), (6, .int 0), (5, .int (nI (1500 + j))), (4, .int ((yrU (yrB (candU (σ.1 21 0) (σ.1 25 0 a.toNatClampNeg) (σ.1 26 0 a.toNatClampNeg) n) (σ.1 22 0) (σ.1 23 0) n (σ.1 29 0 a.toNatClampNeg) (σ.1 31 0) (σ.1 32 0) (σ.1 30 0 a.toNatClampNeg)) j).2)), (3, .int ((yrU (yrB (candU (σ.1 21 0) (σ.1 25 0 a.toNatClampNeg) (σ.1 26 0 a.toNatClampNeg) n) (σ.1 22 0) (σ.1 23 0) n (σ.1 29 0 a.toNatClampNeg) (σ.1 31 0) (σ.1 32 0) (σ.1 30 0 a.toNatClampNeg)) j).1)), (0, .ref (w.2.2.2.1 20 0)), (1, .int a), (2, .int b)]) C dX6_span_48 (by decide) rfl ?_
            have cut_50 : ∀ (m9 : Nat) (q : Nat) (x7 x6 : Int32), q ≤ n → n < q + m9 → x7 = nI q → x6 = wb (anyU (candU (σ.1 21 0) (σ.1 25 0 a.toNatClampNeg) (σ.1 26 0 a.toNatClampNeg) n) (σ.1 22 0) (σ.1 23 0) (nI (1500 + j)) q = true) → G w x 8 Q 50 [(7, .int x7), (6, .int x6), (5, .int (nI (1500 + j))), (4, .int ((yrU (yrB (candU (σ.1 21 0) (σ.1 25 0 a.toNatClampNeg) (σ.1 26 0 a.toNatClampNeg) n) (σ.1 22 0) (σ.1 23 0) n (σ.1 29 0 a.toNatClampNeg) (σ.1 31 0) (σ.1 32 0) (σ.1 30 0 a.toNatClampNeg)) j).2)), (3, .int ((yrU (yrB (candU (σ.1 21 0) (σ.1 25 0 a.toNatClampNeg) (σ.1 26 0 a.toNatClampNeg) n) (σ.1 22 0) (σ.1 23 0) n (σ.1 29 0 a.toNatClampNeg) (σ.1 31 0) (σ.1 32 0) (σ.1 30 0 a.toNatClampNeg)) j).1)), (0, .ref (w.2.2.2.1 20 0)), (1, .int a), (2, .int b)] [] σ := by
              intro m9
              induction m9 with
              | zero =>
                intro q x7 x6 hq hm2 hx7 hx6
                exfalso
                omega
              | succ m9 ih_50 =>
                intro q x7 x6 hq hm2 hx7 hx6
                subst hx7
                subst hx6
                refine G.iload C 0 dX6_span_50 rfl ?_
                refine G.aload_n C 5 dX6_span_52 rfl rfl ?_
                refine G.get (g := 20) (i := 0) C 2 none dX6_span_53 (by decide) rfl rfl uX_X6 (by decide) uf_RX6_73 rfl rfl ?_
                refine G.icmp_ge (tgt := 111) C dX6_span_56 (by decide) (fun c_56 => ?_) (fun c_56 => ?_)
                · have hqn : q = n := by
                    rw [hn, nI_leI (by omega) (by omega)] at c_56; omega
                  refine G.iload C 1 dX6_span_111 rfl ?_
                  refine G.aload_n C 5 dX6_span_113 rfl rfl ?_
                  refine G.get (g := 20) (i := 0) C 12 none dX6_span_114 (by decide) rfl rfl uX_X6 (by decide) uf_RX6_34 rfl rfl ?_
                  refine G.iload_n C 6 dX6_span_117 rfl rfl ?_
                  have hin_118 : vp_in a 20 := by
                    exact vp_ofc b_7 hl hl20 (by decide)
                  refine G.iald (g := 29) (i := 0) (n := 20) C dX6_span_118 (by decide) rfl hin_118 ?_
                  refine G.bipush (v := -9) C dX6_span_119 (by decide) ?_
                  have cut_162 : ∀ (y6 : Int32), y6 = wb (anyU (candU (σ.1 21 0) (σ.1 25 0 a.toNatClampNeg) (σ.1 26 0 a.toNatClampNeg) n) (σ.1 22 0) (σ.1 23 0) (nI (1500 + j)) n = true ∧ ((σ.1 29 0 a.toNatClampNeg) = -9 ∨ (σ.1 31 0 (σ.1 29 0 a.toNatClampNeg).toNatClampNeg ≤ nI (1500 + j) ∧ nI (1500 + j) ≤ σ.1 32 0 (σ.1 29 0 a.toNatClampNeg).toNatClampNeg))) → G w x 8 Q 162 [(6, .int y6), (5, .int (nI (1500 + j))), (4, .int ((yrU (yrB (candU (σ.1 21 0) (σ.1 25 0 a.toNatClampNeg) (σ.1 26 0 a.toNatClampNeg) n) (σ.1 22 0) (σ.1 23 0) n (σ.1 29 0 a.toNatClampNeg) (σ.1 31 0) (σ.1 32 0) (σ.1 30 0 a.toNatClampNeg)) j).2)), (3, .int ((yrU (yrB (candU (σ.1 21 0) (σ.1 25 0 a.toNatClampNeg) (σ.1 26 0 a.toNatClampNeg) n) (σ.1 22 0) (σ.1 23 0) n (σ.1 29 0 a.toNatClampNeg) (σ.1 31 0) (σ.1 32 0) (σ.1 30 0 a.toNatClampNeg)) j).1)), (0, .ref (w.2.2.2.1 20 0)), (1, .int a), (2, .int b)] [] σ := by
                    intro y6 hy6
                    subst hy6
                    refine G.iload C 0 dX6_span_162 rfl ?_
                    refine G.aload_n C 4 dX6_span_164 rfl rfl ?_
                    refine G.get (g := 20) (i := 0) C 13 none dX6_span_165 (by decide) rfl rfl uX_X6 (by decide) uf_RX6_37 rfl rfl ?_
                    refine G.iload_n C 5 dX6_span_168 rfl rfl ?_
                    have hin_169 : vp_in a 20 := by
                      exact vp_ofc b_7 hl hl20 (by decide)
                    refine G.iald (g := 30) (i := 0) (n := 20) C dX6_span_169 (by decide) rfl hin_169 ?_
                    refine G.bipush (v := -9) C dX6_span_170 (by decide) ?_
                    have cut_194 : ∀ (z6 : Int32), z6 = wb (yrB (candU (σ.1 21 0) (σ.1 25 0 a.toNatClampNeg) (σ.1 26 0 a.toNatClampNeg) n) (σ.1 22 0) (σ.1 23 0) n (σ.1 29 0 a.toNatClampNeg) (σ.1 31 0) (σ.1 32 0) (σ.1 30 0 a.toNatClampNeg) (nI (1500 + j)) = true) → G w x 8 Q 194 [(6, .int z6), (5, .int (nI (1500 + j))), (4, .int ((yrU (yrB (candU (σ.1 21 0) (σ.1 25 0 a.toNatClampNeg) (σ.1 26 0 a.toNatClampNeg) n) (σ.1 22 0) (σ.1 23 0) n (σ.1 29 0 a.toNatClampNeg) (σ.1 31 0) (σ.1 32 0) (σ.1 30 0 a.toNatClampNeg)) j).2)), (3, .int ((yrU (yrB (candU (σ.1 21 0) (σ.1 25 0 a.toNatClampNeg) (σ.1 26 0 a.toNatClampNeg) n) (σ.1 22 0) (σ.1 23 0) n (σ.1 29 0 a.toNatClampNeg) (σ.1 31 0) (σ.1 32 0) (σ.1 30 0 a.toNatClampNeg)) j).1)), (0, .ref (w.2.2.2.1 20 0)), (1, .int a), (2, .int b)] [] σ := by
                      intro z6 hz6
                      refine G.iload C 0 dX6_span_194 rfl ?_
                      refine G.if_eq (tgt := 210) C dX6_span_196 (by decide) (fun c_196 => ?_) (fun c_196 => ?_)
                      · refine G.iload_n C 3 dX6_span_210 rfl rfl ?_
                        refine G.topi (fun x3_211 ex3_211 => ?_)
                        refine G.istore_n (L1 := [(3, .int x3_211), (6, .int z6), (5, .int (nI (1500 + j))), (4, .int ((yrU (yrB (candU (σ.1 21 0) (σ.1 25 0 a.toNatClampNeg) (σ.1 26 0 a.toNatClampNeg) n) (σ.1 22 0) (σ.1 23 0) n (σ.1 29 0 a.toNatClampNeg) (σ.1 31 0) (σ.1 32 0) (σ.1 30 0 a.toNatClampNeg)) j).2)), (0, .ref (w.2.2.2.1 20 0)), (1, .int a), (2, .int b)]) C dX6_span_211 rfl (by decide) rfl ?_
                        refine G.iload C 1 dX6_span_212 rfl ?_
                        refine G.if_eq (tgt := 222) C dX6_span_214 (by decide) (fun c_214 => ?_) (fun c_214 => ?_)
                        · refine G.iload C 3 dX6_span_222 rfl ?_
                          refine G.topi (fun x4_224 ex4_224 => ?_)
                          refine G.istore (L1 := [(4, .int x4_224), (3, .int x3_211), (6, .int z6), (5, .int (nI (1500 + j))), (0, .ref (w.2.2.2.1 20 0)), (1, .int a), (2, .int b)]) C dX6_span_224 (by decide) rfl ?_
                          obtain ⟨x5_226, ex5_226⟩ : ∃ z : Int32, z = (nI (1500 + j)) + 1 := ⟨_, rfl⟩
                          refine G.iinc (v := x5_226) (L1 := [(5, .int x5_226), (4, .int x4_224), (3, .int x3_211), (6, .int z6), (0, .ref (w.2.2.2.1 20 0)), (1, .int a), (2, .int b)]) C 3 dX6_span_226 rfl (by rw [ex5_226]; rfl) (by decide) rfl ?_
                          refine G.goto (tgt := 36) C dX6_span_229 (by decide) ?_
                          refine G.sub (L1 := [(5, .int x5_226), (4, .int x4_224), (3, .int x3_211), (0, .ref (w.2.2.2.1 20 0)), (1, .int a), (2, .int b)]) [0, 1, 2, 4, 5, 6] rfl ?_
                          refine ih_36  (j + 1) _ _ _ ?_ ?_ ?_ ?_ ?_
                          · omega
                          · omega
                          · rw [ex5_226]; exact nI_1 (1500 + j)
                          · rw [hz6] at c_196
                            rw [yrU_f (P := yrB (candU (σ.1 21 0) (σ.1 25 0 a.toNatClampNeg) (σ.1 26 0 a.toNatClampNeg) n) (σ.1 22 0) (σ.1 23 0) n (σ.1 29 0 a.toNatClampNeg) (σ.1 31 0) (σ.1 32 0) (σ.1 30 0 a.toNatClampNeg)) (wb_eq0 c_196)]
                            try assumption
                          · rw [hz6] at c_196
                            rw [yrU_f (P := yrB (candU (σ.1 21 0) (σ.1 25 0 a.toNatClampNeg) (σ.1 26 0 a.toNatClampNeg) n) (σ.1 22 0) (σ.1 23 0) n (σ.1 29 0 a.toNatClampNeg) (σ.1 31 0) (σ.1 32 0) (σ.1 30 0 a.toNatClampNeg)) (wb_eq0 c_196)]
                            try assumption
                        · refine G.iload C 2 dX6_span_217 rfl ?_
                          refine G.goto (tgt := 224) C dX6_span_219 (by decide) ?_
                          refine G.topi (fun x4_224 ex4_224 => ?_)
                          refine G.istore (L1 := [(4, .int x4_224), (3, .int x3_211), (6, .int z6), (5, .int (nI (1500 + j))), (0, .ref (w.2.2.2.1 20 0)), (1, .int a), (2, .int b)]) C dX6_span_224 (by decide) rfl ?_
                          obtain ⟨x5_226, ex5_226⟩ : ∃ z : Int32, z = (nI (1500 + j)) + 1 := ⟨_, rfl⟩
                          refine G.iinc (v := x5_226) (L1 := [(5, .int x5_226), (4, .int x4_224), (3, .int x3_211), (6, .int z6), (0, .ref (w.2.2.2.1 20 0)), (1, .int a), (2, .int b)]) C 3 dX6_span_226 rfl (by rw [ex5_226]; rfl) (by decide) rfl ?_
                          refine G.goto (tgt := 36) C dX6_span_229 (by decide) ?_
                          refine G.sub (L1 := [(5, .int x5_226), (4, .int x4_224), (3, .int x3_211), (0, .ref (w.2.2.2.1 20 0)), (1, .int a), (2, .int b)]) [0, 1, 2, 4, 5, 6] rfl ?_
                          refine ih_36  (j + 1) _ _ _ ?_ ?_ ?_ ?_ ?_
                          · omega
                          · omega
                          · rw [ex5_226]; exact nI_1 (1500 + j)
                          · exact absurd c_196 c_214
                          · exact absurd c_196 c_214
                      · refine G.iload_n C 3 dX6_span_199 rfl rfl ?_
                        refine G.bipush (v := -9) C dX6_span_200 (by decide) ?_
                        refine G.icmp_ne (tgt := 210) C dX6_span_202 (by decide) (fun c_202 => ?_) (fun c_202 => ?_)
                        · refine G.iload_n C 3 dX6_span_210 rfl rfl ?_
                          refine G.topi (fun x3_211 ex3_211 => ?_)
                          refine G.istore_n (L1 := [(3, .int x3_211), (6, .int z6), (5, .int (nI (1500 + j))), (4, .int ((yrU (yrB (candU (σ.1 21 0) (σ.1 25 0 a.toNatClampNeg) (σ.1 26 0 a.toNatClampNeg) n) (σ.1 22 0) (σ.1 23 0) n (σ.1 29 0 a.toNatClampNeg) (σ.1 31 0) (σ.1 32 0) (σ.1 30 0 a.toNatClampNeg)) j).2)), (0, .ref (w.2.2.2.1 20 0)), (1, .int a), (2, .int b)]) C dX6_span_211 rfl (by decide) rfl ?_
                          refine G.iload C 1 dX6_span_212 rfl ?_
                          refine G.if_eq (tgt := 222) C dX6_span_214 (by decide) (fun c_214 => ?_) (fun c_214 => ?_)
                          · refine G.iload C 3 dX6_span_222 rfl ?_
                            refine G.topi (fun x4_224 ex4_224 => ?_)
                            refine G.istore (L1 := [(4, .int x4_224), (3, .int x3_211), (6, .int z6), (5, .int (nI (1500 + j))), (0, .ref (w.2.2.2.1 20 0)), (1, .int a), (2, .int b)]) C dX6_span_224 (by decide) rfl ?_
                            obtain ⟨x5_226, ex5_226⟩ : ∃ z : Int32, z = (nI (1500 + j)) + 1 := ⟨_, rfl⟩
                            refine G.iinc (v := x5_226) (L1 := [(5, .int x5_226), (4, .int x4_224), (3, .int x3_211), (6, .int z6), (0, .ref (w.2.2.2.1 20 0)), (1, .int a), (2, .int b)]) C 3 dX6_span_226 rfl (by rw [ex5_226]; rfl) (by decide) rfl ?_
                            refine G.goto (tgt := 36) C dX6_span_229 (by decide) ?_
                            refine G.sub (L1 := [(5, .int x5_226), (4, .int x4_224), (3, .int x3_211), (0, .ref (w.2.2.2.1 20 0)), (1, .int a), (2, .int b)]) [0, 1, 2, 4, 5, 6] rfl ?_
                            refine ih_36  (j + 1) _ _ _ ?_ ?_ ?_ ?_ ?_
                            · omega
                            · omega
                            · rw [ex5_226]; exact nI_1 (1500 + j)
                            · exact absurd c_214 c_196
                            · exact absurd c_214 c_196
                          · refine G.iload C 2 dX6_span_217 rfl ?_
                            refine G.goto (tgt := 224) C dX6_span_219 (by decide) ?_
                            refine G.topi (fun x4_224 ex4_224 => ?_)
                            refine G.istore (L1 := [(4, .int x4_224), (3, .int x3_211), (6, .int z6), (5, .int (nI (1500 + j))), (0, .ref (w.2.2.2.1 20 0)), (1, .int a), (2, .int b)]) C dX6_span_224 (by decide) rfl ?_
                            obtain ⟨x5_226, ex5_226⟩ : ∃ z : Int32, z = (nI (1500 + j)) + 1 := ⟨_, rfl⟩
                            refine G.iinc (v := x5_226) (L1 := [(5, .int x5_226), (4, .int x4_224), (3, .int x3_211), (6, .int z6), (0, .ref (w.2.2.2.1 20 0)), (1, .int a), (2, .int b)]) C 3 dX6_span_226 rfl (by rw [ex5_226]; rfl) (by decide) rfl ?_
                            refine G.goto (tgt := 36) C dX6_span_229 (by decide) ?_
                            refine G.sub (L1 := [(5, .int x5_226), (4, .int x4_224), (3, .int x3_211), (0, .ref (w.2.2.2.1 20 0)), (1, .int a), (2, .int b)]) [0, 1, 2, 4, 5, 6] rfl ?_
                            refine ih_36  (j + 1) _ _ _ ?_ ?_ ?_ ?_ ?_
                            · omega
                            · omega
                            · rw [ex5_226]; exact nI_1 (1500 + j)
                            · rw [hz6] at c_196
                              rw [yrU_t (P := yrB (candU (σ.1 21 0) (σ.1 25 0 a.toNatClampNeg) (σ.1 26 0 a.toNatClampNeg) n) (σ.1 22 0) (σ.1 23 0) n (σ.1 29 0 a.toNatClampNeg) (σ.1 31 0) (σ.1 32 0) (σ.1 30 0 a.toNatClampNeg)) (wb_ne0 c_196)]
                              try first | rfl | assumption
                            · rw [hz6] at c_196
                              rw [yrU_t (P := yrB (candU (σ.1 21 0) (σ.1 25 0 a.toNatClampNeg) (σ.1 26 0 a.toNatClampNeg) n) (σ.1 22 0) (σ.1 23 0) n (σ.1 29 0 a.toNatClampNeg) (σ.1 31 0) (σ.1 32 0) (σ.1 30 0 a.toNatClampNeg)) (wb_ne0 c_196)]
                              show _ = ite _ _ _
                              rw [if_neg c_202]
                              try first | rfl | assumption
                        · refine G.iload C 1 dX6_span_205 rfl ?_
                          refine G.goto (tgt := 211) C dX6_span_207 (by decide) ?_
                          refine G.topi (fun x3_211 ex3_211 => ?_)
                          refine G.istore_n (L1 := [(3, .int x3_211), (6, .int z6), (5, .int (nI (1500 + j))), (4, .int ((yrU (yrB (candU (σ.1 21 0) (σ.1 25 0 a.toNatClampNeg) (σ.1 26 0 a.toNatClampNeg) n) (σ.1 22 0) (σ.1 23 0) n (σ.1 29 0 a.toNatClampNeg) (σ.1 31 0) (σ.1 32 0) (σ.1 30 0 a.toNatClampNeg)) j).2)), (0, .ref (w.2.2.2.1 20 0)), (1, .int a), (2, .int b)]) C dX6_span_211 rfl (by decide) rfl ?_
                          refine G.iload C 1 dX6_span_212 rfl ?_
                          refine G.if_eq (tgt := 222) C dX6_span_214 (by decide) (fun c_214 => ?_) (fun c_214 => ?_)
                          · refine G.iload C 3 dX6_span_222 rfl ?_
                            refine G.topi (fun x4_224 ex4_224 => ?_)
                            refine G.istore (L1 := [(4, .int x4_224), (3, .int x3_211), (6, .int z6), (5, .int (nI (1500 + j))), (0, .ref (w.2.2.2.1 20 0)), (1, .int a), (2, .int b)]) C dX6_span_224 (by decide) rfl ?_
                            obtain ⟨x5_226, ex5_226⟩ : ∃ z : Int32, z = (nI (1500 + j)) + 1 := ⟨_, rfl⟩
                            refine G.iinc (v := x5_226) (L1 := [(5, .int x5_226), (4, .int x4_224), (3, .int x3_211), (6, .int z6), (0, .ref (w.2.2.2.1 20 0)), (1, .int a), (2, .int b)]) C 3 dX6_span_226 rfl (by rw [ex5_226]; rfl) (by decide) rfl ?_
                            refine G.goto (tgt := 36) C dX6_span_229 (by decide) ?_
                            refine G.sub (L1 := [(5, .int x5_226), (4, .int x4_224), (3, .int x3_211), (0, .ref (w.2.2.2.1 20 0)), (1, .int a), (2, .int b)]) [0, 1, 2, 4, 5, 6] rfl ?_
                            refine ih_36  (j + 1) _ _ _ ?_ ?_ ?_ ?_ ?_
                            · omega
                            · omega
                            · rw [ex5_226]; exact nI_1 (1500 + j)
                            · exact absurd c_214 c_196
                            · exact absurd c_214 c_196
                          · refine G.iload C 2 dX6_span_217 rfl ?_
                            refine G.goto (tgt := 224) C dX6_span_219 (by decide) ?_
                            refine G.topi (fun x4_224 ex4_224 => ?_)
                            refine G.istore (L1 := [(4, .int x4_224), (3, .int x3_211), (6, .int z6), (5, .int (nI (1500 + j))), (0, .ref (w.2.2.2.1 20 0)), (1, .int a), (2, .int b)]) C dX6_span_224 (by decide) rfl ?_
                            obtain ⟨x5_226, ex5_226⟩ : ∃ z : Int32, z = (nI (1500 + j)) + 1 := ⟨_, rfl⟩
                            refine G.iinc (v := x5_226) (L1 := [(5, .int x5_226), (4, .int x4_224), (3, .int x3_211), (6, .int z6), (0, .ref (w.2.2.2.1 20 0)), (1, .int a), (2, .int b)]) C 3 dX6_span_226 rfl (by rw [ex5_226]; rfl) (by decide) rfl ?_
                            refine G.goto (tgt := 36) C dX6_span_229 (by decide) ?_
                            refine G.sub (L1 := [(5, .int x5_226), (4, .int x4_224), (3, .int x3_211), (0, .ref (w.2.2.2.1 20 0)), (1, .int a), (2, .int b)]) [0, 1, 2, 4, 5, 6] rfl ?_
                            refine ih_36  (j + 1) _ _ _ ?_ ?_ ?_ ?_ ?_
                            · omega
                            · omega
                            · rw [ex5_226]; exact nI_1 (1500 + j)
                            · rw [hz6] at c_196
                              rw [yrU_t (P := yrB (candU (σ.1 21 0) (σ.1 25 0 a.toNatClampNeg) (σ.1 26 0 a.toNatClampNeg) n) (σ.1 22 0) (σ.1 23 0) n (σ.1 29 0 a.toNatClampNeg) (σ.1 31 0) (σ.1 32 0) (σ.1 30 0 a.toNatClampNeg)) (wb_ne0 c_196)]
                              try first | rfl | assumption
                            · rw [hz6] at c_196
                              rw [yrU_t (P := yrB (candU (σ.1 21 0) (σ.1 25 0 a.toNatClampNeg) (σ.1 26 0 a.toNatClampNeg) n) (σ.1 22 0) (σ.1 23 0) n (σ.1 29 0 a.toNatClampNeg) (σ.1 31 0) (σ.1 32 0) (σ.1 30 0 a.toNatClampNeg)) (wb_ne0 c_196)]
                              show _ = ite _ _ _
                              rw [if_pos c_202]
                              try first | rfl | assumption
                    refine G.icmp_eq (tgt := 186) C dX6_span_172 (by decide) (fun c_172 => ?_) (fun c_172 => ?_)
                    · refine G.iconst (v := 1) C dX6_span_186 (by decide) ?_
                      refine G.goto (tgt := 191) C dX6_span_187 (by decide) ?_
                      refine G.iand C dX6_span_191 ?_
                      refine G.topi (fun x6_192 ex6_192 => ?_)
                      refine G.istore (L1 := [(6, .int x6_192), (5, .int (nI (1500 + j))), (4, .int ((yrU (yrB (candU (σ.1 21 0) (σ.1 25 0 a.toNatClampNeg) (σ.1 26 0 a.toNatClampNeg) n) (σ.1 22 0) (σ.1 23 0) n (σ.1 29 0 a.toNatClampNeg) (σ.1 31 0) (σ.1 32 0) (σ.1 30 0 a.toNatClampNeg)) j).2)), (3, .int ((yrU (yrB (candU (σ.1 21 0) (σ.1 25 0 a.toNatClampNeg) (σ.1 26 0 a.toNatClampNeg) n) (σ.1 22 0) (σ.1 23 0) n (σ.1 29 0 a.toNatClampNeg) (σ.1 31 0) (σ.1 32 0) (σ.1 30 0 a.toNatClampNeg)) j).1)), (0, .ref (w.2.2.2.1 20 0)), (1, .int a), (2, .int b)]) C dX6_span_192 (by decide) rfl ?_
                      refine cut_194  _ ?_
                      · rw [ex6_192]
                        rw [wb_andt (R := ((σ.1 30 0 a.toNatClampNeg) = -9 ∨ (σ.1 30 0 a.toNatClampNeg) ≤ nI (1500 + j))) (Or.inl c_172)]
                        exact wb_iff yr_iff
                    · refine G.iload C 1 dX6_span_175 rfl ?_
                      refine G.aload_n C 4 dX6_span_177 rfl rfl ?_
                      refine G.get (g := 20) (i := 0) C 13 none dX6_span_178 (by decide) rfl rfl uX_X6 (by decide) uf_RX6_37 rfl rfl ?_
                      refine G.iload_n C 5 dX6_span_181 rfl rfl ?_
                      have hin_182 : vp_in a 20 := by
                        exact vp_ofc b_7 hl hl20 (by decide)
                      refine G.iald (g := 30) (i := 0) (n := 20) C dX6_span_182 (by decide) rfl hin_182 ?_
                      refine G.icmp_lt (tgt := 190) C dX6_span_183 (by decide) (fun c_183 => ?_) (fun c_183 => ?_)
                      · refine G.iconst (v := 0) C dX6_span_190 (by decide) ?_
                        refine G.iand C dX6_span_191 ?_
                        refine G.topi (fun x6_192 ex6_192 => ?_)
                        refine G.istore (L1 := [(6, .int x6_192), (5, .int (nI (1500 + j))), (4, .int ((yrU (yrB (candU (σ.1 21 0) (σ.1 25 0 a.toNatClampNeg) (σ.1 26 0 a.toNatClampNeg) n) (σ.1 22 0) (σ.1 23 0) n (σ.1 29 0 a.toNatClampNeg) (σ.1 31 0) (σ.1 32 0) (σ.1 30 0 a.toNatClampNeg)) j).2)), (3, .int ((yrU (yrB (candU (σ.1 21 0) (σ.1 25 0 a.toNatClampNeg) (σ.1 26 0 a.toNatClampNeg) n) (σ.1 22 0) (σ.1 23 0) n (σ.1 29 0 a.toNatClampNeg) (σ.1 31 0) (σ.1 32 0) (σ.1 30 0 a.toNatClampNeg)) j).1)), (0, .ref (w.2.2.2.1 20 0)), (1, .int a), (2, .int b)]) C dX6_span_192 (by decide) rfl ?_
                        refine cut_194  _ ?_
                        · rw [ex6_192]
                          rw [wb_andf (R := ((σ.1 30 0 a.toNatClampNeg) = -9 ∨ (σ.1 30 0 a.toNatClampNeg) ≤ nI (1500 + j))) (fun z => z.elim c_172 (fun z => Int32.not_le.mpr c_183 z))]
                          exact wb_iff yr_iff
                      · refine G.iconst (v := 1) C dX6_span_186 (by decide) ?_
                        refine G.goto (tgt := 191) C dX6_span_187 (by decide) ?_
                        refine G.iand C dX6_span_191 ?_
                        refine G.topi (fun x6_192 ex6_192 => ?_)
                        refine G.istore (L1 := [(6, .int x6_192), (5, .int (nI (1500 + j))), (4, .int ((yrU (yrB (candU (σ.1 21 0) (σ.1 25 0 a.toNatClampNeg) (σ.1 26 0 a.toNatClampNeg) n) (σ.1 22 0) (σ.1 23 0) n (σ.1 29 0 a.toNatClampNeg) (σ.1 31 0) (σ.1 32 0) (σ.1 30 0 a.toNatClampNeg)) j).2)), (3, .int ((yrU (yrB (candU (σ.1 21 0) (σ.1 25 0 a.toNatClampNeg) (σ.1 26 0 a.toNatClampNeg) n) (σ.1 22 0) (σ.1 23 0) n (σ.1 29 0 a.toNatClampNeg) (σ.1 31 0) (σ.1 32 0) (σ.1 30 0 a.toNatClampNeg)) j).1)), (0, .ref (w.2.2.2.1 20 0)), (1, .int a), (2, .int b)]) C dX6_span_192 (by decide) rfl ?_
                        refine cut_194  _ ?_
                        · rw [ex6_192]
                          rw [wb_andt (R := ((σ.1 30 0 a.toNatClampNeg) = -9 ∨ (σ.1 30 0 a.toNatClampNeg) ≤ nI (1500 + j))) (Or.inr (Int32.not_lt.mp c_183))]
                          exact wb_iff yr_iff
                  refine G.icmp_eq (tgt := 154) C dX6_span_121 (by decide) (fun c_121 => ?_) (fun c_121 => ?_)
                  · refine G.iconst (v := 1) C dX6_span_154 (by decide) ?_
                    refine G.goto (tgt := 159) C dX6_span_155 (by decide) ?_
                    refine G.iand C dX6_span_159 ?_
                    refine G.topi (fun x6_160 ex6_160 => ?_)
                    refine G.istore (L1 := [(6, .int x6_160), (7, .int (nI q)), (5, .int (nI (1500 + j))), (4, .int ((yrU (yrB (candU (σ.1 21 0) (σ.1 25 0 a.toNatClampNeg) (σ.1 26 0 a.toNatClampNeg) n) (σ.1 22 0) (σ.1 23 0) n (σ.1 29 0 a.toNatClampNeg) (σ.1 31 0) (σ.1 32 0) (σ.1 30 0 a.toNatClampNeg)) j).2)), (3, .int ((yrU (yrB (candU (σ.1 21 0) (σ.1 25 0 a.toNatClampNeg) (σ.1 26 0 a.toNatClampNeg) n) (σ.1 22 0) (σ.1 23 0) n (σ.1 29 0 a.toNatClampNeg) (σ.1 31 0) (σ.1 32 0) (σ.1 30 0 a.toNatClampNeg)) j).1)), (0, .ref (w.2.2.2.1 20 0)), (1, .int a), (2, .int b)]) C dX6_span_160 (by decide) rfl ?_
                    refine G.sub (L1 := [(6, .int x6_160), (5, .int (nI (1500 + j))), (4, .int ((yrU (yrB (candU (σ.1 21 0) (σ.1 25 0 a.toNatClampNeg) (σ.1 26 0 a.toNatClampNeg) n) (σ.1 22 0) (σ.1 23 0) n (σ.1 29 0 a.toNatClampNeg) (σ.1 31 0) (σ.1 32 0) (σ.1 30 0 a.toNatClampNeg)) j).2)), (3, .int ((yrU (yrB (candU (σ.1 21 0) (σ.1 25 0 a.toNatClampNeg) (σ.1 26 0 a.toNatClampNeg) n) (σ.1 22 0) (σ.1 23 0) n (σ.1 29 0 a.toNatClampNeg) (σ.1 31 0) (σ.1 32 0) (σ.1 30 0 a.toNatClampNeg)) j).1)), (0, .ref (w.2.2.2.1 20 0)), (1, .int a), (2, .int b)]) [0, 2, 3, 4, 5, 6, 7] rfl ?_
                    refine cut_162  _ ?_
                    · rw [ex6_160, hqn]
                      exact wb_andt (Or.inl c_121)
                  · refine G.iload C 2 dX6_span_124 rfl ?_
                    refine G.aload_n C 5 dX6_span_126 rfl rfl ?_
                    refine G.get (g := 20) (i := 0) C 15 none dX6_span_127 (by decide) rfl rfl uX_X6 (by decide) uf_RX6_40 rfl rfl ?_
                    refine G.aload_n C 5 dX6_span_130 rfl rfl ?_
                    refine G.get (g := 20) (i := 0) C 12 none dX6_span_131 (by decide) rfl rfl uX_X6 (by decide) uf_RX6_34 rfl rfl ?_
                    refine G.iload_n C 6 dX6_span_134 rfl rfl ?_
                    have hin_135 : vp_in a 20 := by
                      exact vp_ofc b_7 hl hl20 (by decide)
                    refine G.iald (g := 29) (i := 0) (n := 20) C dX6_span_135 (by decide) rfl hin_135 ?_
                    have hin_136 : vp_in (σ.1 29 0 a.toNatClampNeg) 8 := by
                      exact vp_ofc ((hpap _ (vp_ofl (hl ▸ b_7) (by omega))).resolve_left c_121) rfl hm8 (by decide)
                    refine G.iald (g := 31) (i := 0) (n := 8) C dX6_span_136 (by decide) rfl hin_136 ?_
                    refine G.aload_n C 5 dX6_span_137 rfl rfl ?_
                    refine G.get (g := 20) (i := 0) C 16 none dX6_span_138 (by decide) rfl rfl uX_X6 (by decide) uf_RX6_43 rfl rfl ?_
                    refine G.aload_n C 5 dX6_span_141 rfl rfl ?_
                    refine G.get (g := 20) (i := 0) C 12 none dX6_span_142 (by decide) rfl rfl uX_X6 (by decide) uf_RX6_34 rfl rfl ?_
                    refine G.iload_n C 6 dX6_span_145 rfl rfl ?_
                    have hin_146 : vp_in a 20 := by
                      exact vp_ofc b_7 hl hl20 (by decide)
                    refine G.iald (g := 29) (i := 0) (n := 20) C dX6_span_146 (by decide) rfl hin_146 ?_
                    have hin_147 : vp_in (σ.1 29 0 a.toNatClampNeg) 8 := by
                      exact vp_ofc ((hpap _ (vp_ofl (hl ▸ b_7) (by omega))).resolve_left c_121) rfl hm8 (by decide)
                    refine G.iald (g := 32) (i := 0) (n := 8) C dX6_span_147 (by decide) rfl hin_147 ?_
                    have hM_2 := ok_X6_in hw σ (nI (1500 + j)) (σ.1 31 0 (σ.1 29 0 a.toNatClampNeg).toNatClampNeg) (σ.1 32 0 (σ.1 29 0 a.toNatClampNeg).toNatClampNeg)
                    refine G.callS C none hM_2 dX6_span_148 us_X6_in ul_RX6_65 rfl rfl (by decide) (Nat.le_of_ble_eq_true rfl) (fun r_148 τ_148 h_148 => ?_)
                    obtain ⟨h_148, e_148⟩ := h_148; subst h_148
                    refine G.if_eq (tgt := 158) C dX6_span_151 (by decide) (fun c_151 => ?_) (fun c_151 => ?_)
                    · have b_148 := wb_0 e_148 c_151
                      refine G.iconst (v := 0) C dX6_span_158 (by decide) ?_
                      refine G.iand C dX6_span_159 ?_
                      refine G.topi (fun x6_160 ex6_160 => ?_)
                      refine G.istore (L1 := [(6, .int x6_160), (7, .int (nI q)), (5, .int (nI (1500 + j))), (4, .int ((yrU (yrB (candU (σ.1 21 0) (σ.1 25 0 a.toNatClampNeg) (σ.1 26 0 a.toNatClampNeg) n) (σ.1 22 0) (σ.1 23 0) n (σ.1 29 0 a.toNatClampNeg) (σ.1 31 0) (σ.1 32 0) (σ.1 30 0 a.toNatClampNeg)) j).2)), (3, .int ((yrU (yrB (candU (σ.1 21 0) (σ.1 25 0 a.toNatClampNeg) (σ.1 26 0 a.toNatClampNeg) n) (σ.1 22 0) (σ.1 23 0) n (σ.1 29 0 a.toNatClampNeg) (σ.1 31 0) (σ.1 32 0) (σ.1 30 0 a.toNatClampNeg)) j).1)), (0, .ref (w.2.2.2.1 20 0)), (1, .int a), (2, .int b)]) C dX6_span_160 (by decide) rfl ?_
                      refine G.sub (L1 := [(6, .int x6_160), (5, .int (nI (1500 + j))), (4, .int ((yrU (yrB (candU (σ.1 21 0) (σ.1 25 0 a.toNatClampNeg) (σ.1 26 0 a.toNatClampNeg) n) (σ.1 22 0) (σ.1 23 0) n (σ.1 29 0 a.toNatClampNeg) (σ.1 31 0) (σ.1 32 0) (σ.1 30 0 a.toNatClampNeg)) j).2)), (3, .int ((yrU (yrB (candU (σ.1 21 0) (σ.1 25 0 a.toNatClampNeg) (σ.1 26 0 a.toNatClampNeg) n) (σ.1 22 0) (σ.1 23 0) n (σ.1 29 0 a.toNatClampNeg) (σ.1 31 0) (σ.1 32 0) (σ.1 30 0 a.toNatClampNeg)) j).1)), (0, .ref (w.2.2.2.1 20 0)), (1, .int a), (2, .int b)]) [0, 2, 3, 4, 5, 6, 7] rfl ?_
                      refine cut_162  _ ?_
                      · rw [ex6_160, hqn]
                        exact wb_andf (fun z => z.elim c_121 b_148)
                    · have b_148 := wb_1 e_148 c_151
                      refine G.iconst (v := 1) C dX6_span_154 (by decide) ?_
                      refine G.goto (tgt := 159) C dX6_span_155 (by decide) ?_
                      refine G.iand C dX6_span_159 ?_
                      refine G.topi (fun x6_160 ex6_160 => ?_)
                      refine G.istore (L1 := [(6, .int x6_160), (7, .int (nI q)), (5, .int (nI (1500 + j))), (4, .int ((yrU (yrB (candU (σ.1 21 0) (σ.1 25 0 a.toNatClampNeg) (σ.1 26 0 a.toNatClampNeg) n) (σ.1 22 0) (σ.1 23 0) n (σ.1 29 0 a.toNatClampNeg) (σ.1 31 0) (σ.1 32 0) (σ.1 30 0 a.toNatClampNeg)) j).2)), (3, .int ((yrU (yrB (candU (σ.1 21 0) (σ.1 25 0 a.toNatClampNeg) (σ.1 26 0 a.toNatClampNeg) n) (σ.1 22 0) (σ.1 23 0) n (σ.1 29 0 a.toNatClampNeg) (σ.1 31 0) (σ.1 32 0) (σ.1 30 0 a.toNatClampNeg)) j).1)), (0, .ref (w.2.2.2.1 20 0)), (1, .int a), (2, .int b)]) C dX6_span_160 (by decide) rfl ?_
                      refine G.sub (L1 := [(6, .int x6_160), (5, .int (nI (1500 + j))), (4, .int ((yrU (yrB (candU (σ.1 21 0) (σ.1 25 0 a.toNatClampNeg) (σ.1 26 0 a.toNatClampNeg) n) (σ.1 22 0) (σ.1 23 0) n (σ.1 29 0 a.toNatClampNeg) (σ.1 31 0) (σ.1 32 0) (σ.1 30 0 a.toNatClampNeg)) j).2)), (3, .int ((yrU (yrB (candU (σ.1 21 0) (σ.1 25 0 a.toNatClampNeg) (σ.1 26 0 a.toNatClampNeg) n) (σ.1 22 0) (σ.1 23 0) n (σ.1 29 0 a.toNatClampNeg) (σ.1 31 0) (σ.1 32 0) (σ.1 30 0 a.toNatClampNeg)) j).1)), (0, .ref (w.2.2.2.1 20 0)), (1, .int a), (2, .int b)]) [0, 2, 3, 4, 5, 6, 7] rfl ?_
                      refine cut_162  _ ?_
                      · rw [ex6_160, hqn]
                        exact wb_andt (Or.inr b_148)
                · have hqn : q < n := by
                    rw [hn, nI_leI (by omega) (by omega)] at c_56; omega
                  refine G.iload C 1 dX6_span_59 rfl ?_
                  refine G.aload_n C 5 dX6_span_61 rfl rfl ?_
                  refine G.iload_n C 6 dX6_span_62 rfl rfl ?_
                  have hM_3 := ok_X6_candidatesOf hw σ a hn h6 (vp_ofc b_7 hl hl20 (by decide))
                  refine G.callV C (g := 20) (i := 0) none hM_3 dX6_span_63 (by decide) rfl rfl rfl uv_X6_candidatesOf ul_RX6_94 rfl rfl (by decide) (Nat.le_of_ble_eq_true rfl) (fun r_63 τ_63 h_63 => ?_)
                  obtain ⟨h_63, e_63⟩ := h_63; subst h_63
                  refine G.iload C 0 dX6_span_66 rfl ?_
                  refine G.ishr C dX6_span_68 ?_
                  refine G.iconst (v := 1) C dX6_span_69 (by decide) ?_
                  refine G.iand C dX6_span_70 ?_
                  refine G.iconst (v := 1) C dX6_span_71 (by decide) ?_
                  refine G.icmp_ne (tgt := 101) C dX6_span_72 (by decide) (fun c_72 => ?_) (fun c_72 => ?_)
                  · refine G.iconst (v := 0) C dX6_span_101 (by decide) ?_
                    refine G.ior C dX6_span_102 ?_
                    refine G.topi (fun x6_103 ex6_103 => ?_)
                    refine G.istore (L1 := [(6, .int x6_103), (7, .int (nI q)), (5, .int (nI (1500 + j))), (4, .int ((yrU (yrB (candU (σ.1 21 0) (σ.1 25 0 a.toNatClampNeg) (σ.1 26 0 a.toNatClampNeg) n) (σ.1 22 0) (σ.1 23 0) n (σ.1 29 0 a.toNatClampNeg) (σ.1 31 0) (σ.1 32 0) (σ.1 30 0 a.toNatClampNeg)) j).2)), (3, .int ((yrU (yrB (candU (σ.1 21 0) (σ.1 25 0 a.toNatClampNeg) (σ.1 26 0 a.toNatClampNeg) n) (σ.1 22 0) (σ.1 23 0) n (σ.1 29 0 a.toNatClampNeg) (σ.1 31 0) (σ.1 32 0) (σ.1 30 0 a.toNatClampNeg)) j).1)), (0, .ref (w.2.2.2.1 20 0)), (1, .int a), (2, .int b)]) C dX6_span_103 (by decide) rfl ?_
                    obtain ⟨x7_105, ex7_105⟩ : ∃ z : Int32, z = (nI q) + 1 := ⟨_, rfl⟩
                    refine G.iinc (v := x7_105) (L1 := [(7, .int x7_105), (6, .int x6_103), (5, .int (nI (1500 + j))), (4, .int ((yrU (yrB (candU (σ.1 21 0) (σ.1 25 0 a.toNatClampNeg) (σ.1 26 0 a.toNatClampNeg) n) (σ.1 22 0) (σ.1 23 0) n (σ.1 29 0 a.toNatClampNeg) (σ.1 31 0) (σ.1 32 0) (σ.1 30 0 a.toNatClampNeg)) j).2)), (3, .int ((yrU (yrB (candU (σ.1 21 0) (σ.1 25 0 a.toNatClampNeg) (σ.1 26 0 a.toNatClampNeg) n) (σ.1 22 0) (σ.1 23 0) n (σ.1 29 0 a.toNatClampNeg) (σ.1 31 0) (σ.1 32 0) (σ.1 30 0 a.toNatClampNeg)) j).1)), (0, .ref (w.2.2.2.1 20 0)), (1, .int a), (2, .int b)]) C 1 dX6_span_105 rfl (by rw [ex7_105]; rfl) (by decide) rfl ?_
                    refine G.goto (tgt := 50) C dX6_span_108 (by decide) ?_
                    refine ih_50  (q + 1) _ _ ?_ ?_ ?_ ?_
                    · omega
                    · omega
                    · rw [ex7_105]; exact nI_1 q
                    · rw [ex6_103]
                      refine any_f (fun z => ?_)
                      rw [e_63] at c_72
                      exact c_72 z.1
                  · refine G.iload C 2 dX6_span_75 rfl ?_
                    refine G.aload_n C 5 dX6_span_77 rfl rfl ?_
                    refine G.get (g := 20) (i := 0) C 4 none dX6_span_78 (by decide) rfl rfl uX_X6 (by decide) uf_RX6_13 rfl rfl ?_
                    refine G.iload C 0 dX6_span_81 rfl ?_
                    have hin_83 : vp_in (nI q) 6 := by
                      exact vp_in_nI (by omega) (by decide)
                    refine G.iald (g := 22) (i := 0) (n := 6) C dX6_span_83 (by decide) rfl hin_83 ?_
                    refine G.aload_n C 5 dX6_span_84 rfl rfl ?_
                    refine G.get (g := 20) (i := 0) C 5 none dX6_span_85 (by decide) rfl rfl uX_X6 (by decide) uf_RX6_16 rfl rfl ?_
                    refine G.iload C 0 dX6_span_88 rfl ?_
                    have hin_90 : vp_in (nI q) 6 := by
                      exact vp_in_nI (by omega) (by decide)
                    refine G.iald (g := 23) (i := 0) (n := 6) C dX6_span_90 (by decide) rfl hin_90 ?_
                    have hM_4 := ok_X6_in hw σ (nI (1500 + j)) (σ.1 22 0 (nI q).toNatClampNeg) (σ.1 23 0 (nI q).toNatClampNeg)
                    refine G.callS C none hM_4 dX6_span_91 us_X6_in ul_RX6_65 rfl rfl (by decide) (Nat.le_of_ble_eq_true rfl) (fun r_91 τ_91 h_91 => ?_)
                    obtain ⟨h_91, e_91⟩ := h_91; subst h_91
                    refine G.if_eq (tgt := 101) C dX6_span_94 (by decide) (fun c_94 => ?_) (fun c_94 => ?_)
                    · have b_91 := wb_0 e_91 c_94
                      refine G.iconst (v := 0) C dX6_span_101 (by decide) ?_
                      refine G.ior C dX6_span_102 ?_
                      refine G.topi (fun x6_103 ex6_103 => ?_)
                      refine G.istore (L1 := [(6, .int x6_103), (7, .int (nI q)), (5, .int (nI (1500 + j))), (4, .int ((yrU (yrB (candU (σ.1 21 0) (σ.1 25 0 a.toNatClampNeg) (σ.1 26 0 a.toNatClampNeg) n) (σ.1 22 0) (σ.1 23 0) n (σ.1 29 0 a.toNatClampNeg) (σ.1 31 0) (σ.1 32 0) (σ.1 30 0 a.toNatClampNeg)) j).2)), (3, .int ((yrU (yrB (candU (σ.1 21 0) (σ.1 25 0 a.toNatClampNeg) (σ.1 26 0 a.toNatClampNeg) n) (σ.1 22 0) (σ.1 23 0) n (σ.1 29 0 a.toNatClampNeg) (σ.1 31 0) (σ.1 32 0) (σ.1 30 0 a.toNatClampNeg)) j).1)), (0, .ref (w.2.2.2.1 20 0)), (1, .int a), (2, .int b)]) C dX6_span_103 (by decide) rfl ?_
                      obtain ⟨x7_105, ex7_105⟩ : ∃ z : Int32, z = (nI q) + 1 := ⟨_, rfl⟩
                      refine G.iinc (v := x7_105) (L1 := [(7, .int x7_105), (6, .int x6_103), (5, .int (nI (1500 + j))), (4, .int ((yrU (yrB (candU (σ.1 21 0) (σ.1 25 0 a.toNatClampNeg) (σ.1 26 0 a.toNatClampNeg) n) (σ.1 22 0) (σ.1 23 0) n (σ.1 29 0 a.toNatClampNeg) (σ.1 31 0) (σ.1 32 0) (σ.1 30 0 a.toNatClampNeg)) j).2)), (3, .int ((yrU (yrB (candU (σ.1 21 0) (σ.1 25 0 a.toNatClampNeg) (σ.1 26 0 a.toNatClampNeg) n) (σ.1 22 0) (σ.1 23 0) n (σ.1 29 0 a.toNatClampNeg) (σ.1 31 0) (σ.1 32 0) (σ.1 30 0 a.toNatClampNeg)) j).1)), (0, .ref (w.2.2.2.1 20 0)), (1, .int a), (2, .int b)]) C 1 dX6_span_105 rfl (by rw [ex7_105]; rfl) (by decide) rfl ?_
                      refine G.goto (tgt := 50) C dX6_span_108 (by decide) ?_
                      refine ih_50  (q + 1) _ _ ?_ ?_ ?_ ?_
                      · omega
                      · omega
                      · rw [ex7_105]; exact nI_1 q
                      · rw [ex6_103]
                        refine any_f (fun z => ?_)
                        rw [nI_clamp (show q < 2 ^ 31 by omega)] at b_91
                        exact b_91 z.2
                    · have b_91 := wb_1 e_91 c_94
                      refine G.iconst (v := 1) C dX6_span_97 (by decide) ?_
                      refine G.goto (tgt := 102) C dX6_span_98 (by decide) ?_
                      refine G.ior C dX6_span_102 ?_
                      refine G.topi (fun x6_103 ex6_103 => ?_)
                      refine G.istore (L1 := [(6, .int x6_103), (7, .int (nI q)), (5, .int (nI (1500 + j))), (4, .int ((yrU (yrB (candU (σ.1 21 0) (σ.1 25 0 a.toNatClampNeg) (σ.1 26 0 a.toNatClampNeg) n) (σ.1 22 0) (σ.1 23 0) n (σ.1 29 0 a.toNatClampNeg) (σ.1 31 0) (σ.1 32 0) (σ.1 30 0 a.toNatClampNeg)) j).2)), (3, .int ((yrU (yrB (candU (σ.1 21 0) (σ.1 25 0 a.toNatClampNeg) (σ.1 26 0 a.toNatClampNeg) n) (σ.1 22 0) (σ.1 23 0) n (σ.1 29 0 a.toNatClampNeg) (σ.1 31 0) (σ.1 32 0) (σ.1 30 0 a.toNatClampNeg)) j).1)), (0, .ref (w.2.2.2.1 20 0)), (1, .int a), (2, .int b)]) C dX6_span_103 (by decide) rfl ?_
                      obtain ⟨x7_105, ex7_105⟩ : ∃ z : Int32, z = (nI q) + 1 := ⟨_, rfl⟩
                      refine G.iinc (v := x7_105) (L1 := [(7, .int x7_105), (6, .int x6_103), (5, .int (nI (1500 + j))), (4, .int ((yrU (yrB (candU (σ.1 21 0) (σ.1 25 0 a.toNatClampNeg) (σ.1 26 0 a.toNatClampNeg) n) (σ.1 22 0) (σ.1 23 0) n (σ.1 29 0 a.toNatClampNeg) (σ.1 31 0) (σ.1 32 0) (σ.1 30 0 a.toNatClampNeg)) j).2)), (3, .int ((yrU (yrB (candU (σ.1 21 0) (σ.1 25 0 a.toNatClampNeg) (σ.1 26 0 a.toNatClampNeg) n) (σ.1 22 0) (σ.1 23 0) n (σ.1 29 0 a.toNatClampNeg) (σ.1 31 0) (σ.1 32 0) (σ.1 30 0 a.toNatClampNeg)) j).1)), (0, .ref (w.2.2.2.1 20 0)), (1, .int a), (2, .int b)]) C 1 dX6_span_105 rfl (by rw [ex7_105]; rfl) (by decide) rfl ?_
                      refine G.goto (tgt := 50) C dX6_span_108 (by decide) ?_
                      refine ih_50  (q + 1) _ _ ?_ ?_ ?_ ?_
                      · omega
                      · omega
                      · rw [ex7_105]; exact nI_1 q
                      · rw [ex6_103]
                        rw [nI_clamp (show q < 2 ^ 31 by omega)] at b_91
                        rw [e_63] at c_72
                        exact any_t ⟨c_72, b_91⟩
            refine cut_50 (n + 1) 0 _ _ ?_ ?_ ?_ ?_
            · omega
            · omega
            · rfl
            · exact (wb_f Bool.false_ne_true).symm
      refine cut_36 402 0 _ _ _ ?_ ?_ ?_ ?_ ?_
      · omega
      · omega
      · rfl
      · rfl
      · rfl
    · have b_16 := wb_0 e_16 c_19
      refine G.iconst (v := -1) C dX6_span_22 (by decide) ?_
      subst hQ
      exact G.iret C hr dX6_span_23 (by
          refine ⟨rfl, Or.inl ⟨fun q => ?_, rfl⟩⟩
          first | exact b_7 q.1 | exact b_16 (w_le1.mpr q.2))
