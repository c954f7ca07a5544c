set_option maxHeartbeats 4000000 in
set_option maxRecDepth 100000 in
theorem ok_X6_quarrel {w : wD} (hw : wOK w) (σ : wSt) (a : Int32) (hz : σ.1 20 0 0 = 0) {n : Nat} {w9 : Nat → Nat → Nat → Nat} (hen : envM σ n w9) : MI w yX6_quarrel cX6_quarrel 2 (some .int) 2 48 [.ref (w.2.2.2.1 20 0), .int a] σ (fun r τ => frG 37 σ τ ∧ ((∃ m : Nat, a = nI m ∧ ordOk n m ∧ r = nI (costN w9 n 0 none m)) ∨ (¬ (∃ m : Nat, a = nI m ∧ ordOk n m) ∧ r = -1))) := by
  have hn := hen.1
  have h6 := hen.2.1
  have h7 : n < 7 := by omega
  have h64 := pow_64 n h7
  refine MI.of hw (by decide +kernel) (Nat.le_of_ble_eq_true rfl) (fun x C hr => ?_)
  suffices key : ∀ Q, Q = QI w x (fun r τ => frG 37 σ τ ∧ ((∃ m : Nat, a = nI m ∧ ordOk n m ∧ r = nI (costN w9 n 0 none m)) ∨ (¬ (∃ m : Nat, a = nI m ∧ ordOk n m) ∧ r = -1))) → G w x 2 Q 0 [(0, .ref (w.2.2.2.1 20 0)), (1, .int a)] [] σ from key _ rfl
  intro Q hQ
  refine G.aload_n C 0 dX6_quarrel_0 rfl rfl ?_
  refine G.iconst (v := 0) C dX6_quarrel_1 (by decide) ?_
  refine G.put (g := 20) (i := 0) C 0 none dX6_quarrel_2 (by decide) rfl rfl uX_X6 tyX6 tyX6_ok nmX6 (by decide) uf_RX6_61 rfl rfl (by decide +kernel) (Nat.le_of_ble_eq_true rfl) w_up_20_0 ?_
  rw [wUp_id hz]
  refine G.aload_n C 0 dX6_quarrel_5 rfl rfl ?_
  refine G.iload_n C 1 dX6_quarrel_6 rfl rfl ?_
  have hM_0 := ok_X6_isOrder hw σ a hn h6
  refine G.callV C (g := 20) (i := 0) none hM_0 dX6_quarrel_7 (by decide) rfl rfl rfl uv_X6_isOrder ul_RX6_80 rfl rfl (by decide) (Nat.le_of_ble_eq_true rfl) (fun r_7 τ_7 h_7 => ?_)
  refine G.if_eq (tgt := 20) C dX6_quarrel_10 (by decide) (fun c_10 => ?_) (fun c_10 => ?_)
  · refine G.iconst (v := -1) C dX6_quarrel_20 (by decide) ?_
    subst hQ
    exact G.iret C hr dX6_quarrel_21 (by
        refine ⟨h_7.1, Or.inr ⟨?_, rfl⟩⟩
        rcases h_7.2 with z | z
        · exact absurd c_10 (by rw [z.1]; decide)
        · exact z.2)
  · obtain ⟨m, e9, hm31, hok, hdg⟩ : ∃ m : Nat, a = nI m ∧ m < 2 ^ 31 ∧ ordOk n m ∧ ∀ i : Nat, i < n → τ_7.1 37 0 i = nI (dg n m i) := by
      rcases h_7.2 with z | z
      · exact z.2
      · exact absurd z.1 c_10
    refine G.aload_n C 0 dX6_quarrel_13 rfl rfl ?_
    have hM_1 := ok_X6_quarrelOf hw τ_7 (hen.to (h_7.1.1 20 (by decide)) (h_7.1.1 21 (by decide)) (h_7.1.1 24 (by decide))) hok hdg
    refine G.callV C (g := 20) (i := 0) none hM_1 dX6_quarrel_14 (by decide) rfl rfl rfl uv_X6_quarrelOf ul_RX6_84 rfl rfl (by decide) (Nat.le_of_ble_eq_true rfl) (fun r_14 τ_14 h_14 => ?_)
    obtain ⟨h_14, e_14⟩ := h_14; subst h_14
    refine G.goto (tgt := 21) C dX6_quarrel_17 (by decide) ?_
    subst hQ
    exact G.iret C hr dX6_quarrel_21 (by
        exact ⟨h_7.1, Or.inl ⟨m, e9, hok, e_14⟩⟩)
set_option maxHeartbeats 4000000 in
set_option maxRecDepth 100000 in
theorem ok_X6_best {w : wD} (hw : wOK w) (σ : wSt) (a : Int32) (hz : σ.1 20 0 0 = 0) {n : Nat} {w9 : Nat → Nat → Nat → Nat} (hen : envM σ n w9) : MI w yX6_best cX6_best 7 (some .int) 2 48 [.ref (w.2.2.2.1 20 0), .int a] σ (fun r τ => (¬ (a = 0 ∨ a = 1) ∧ σ = τ ∧ r = -1) ∨ ((a = 0 ∨ a = 1) ∧ n = 0 ∧ σ = τ ∧ r = -2) ∨ ((a = 0 ∨ a = 1) ∧ 0 < n ∧ frG 37 σ τ ∧ r = if a = 0 then nI (gr w9 n n 0 none) else nI (costN w9 n 0 none (gr w9 n n 0 none)))) := by
  have hn := hen.1
  have h6 := hen.2.1
  have h7 : n < 7 := by omega
  have h64 := pow_64 n h7
  refine MI.of hw (by decide +kernel) (Nat.le_of_ble_eq_true rfl) (fun x C hr => ?_)
  suffices key : ∀ Q, Q = QI w x (fun r τ => (¬ (a = 0 ∨ a = 1) ∧ σ = τ ∧ r = -1) ∨ ((a = 0 ∨ a = 1) ∧ n = 0 ∧ σ = τ ∧ r = -2) ∨ ((a = 0 ∨ a = 1) ∧ 0 < n ∧ frG 37 σ τ ∧ r = if a = 0 then nI (gr w9 n n 0 none) else nI (costN w9 n 0 none (gr w9 n n 0 none)))) → G w x 7 Q 0 [(0, .ref (w.2.2.2.1 20 0)), (1, .int a)] [] σ from key _ rfl
  intro Q hQ
  refine G.aload_n C 0 dX6_best_0 rfl rfl ?_
  refine G.iconst (v := 0) C dX6_best_1 (by decide) ?_
  refine G.put (g := 20) (i := 0) C 0 none dX6_best_2 (by decide) rfl rfl uX_X6 tyX6 tyX6_ok nmX6 (by decide) uf_RX6_61 rfl rfl (by decide +kernel) (Nat.le_of_ble_eq_true rfl) w_up_20_0 ?_
  rw [wUp_id hz]
  refine G.iload_n C 1 dX6_best_5 rfl rfl ?_
  refine G.iconst (v := 0) C dX6_best_6 (by decide) ?_
  refine G.iconst (v := 1) C dX6_best_7 (by decide) ?_
  have hM_0 := ok_X6_in hw σ a 0 1
  refine G.callS C none hM_0 dX6_best_8 us_X6_in ul_RX6_65 rfl rfl (by decide) (Nat.le_of_ble_eq_true rfl) (fun r_8 τ_8 h_8 => ?_)
  obtain ⟨h_8, e_8⟩ := h_8; subst h_8
  refine G.if_ne (tgt := 16) C dX6_best_11 (by decide) (fun c_11 => ?_) (fun c_11 => ?_)
  · have b_8 := wb_1 e_8 c_11
    refine G.aload_n C 0 dX6_best_16 rfl rfl ?_
    refine G.get (g := 20) (i := 0) C 2 none dX6_best_17 (by decide) rfl rfl uX_X6 (by decide) uf_RX6_73 rfl rfl ?_
    refine G.if_ne (tgt := 26) C dX6_best_20 (by decide) (fun c_20 => ?_) (fun c_20 => ?_)
    · have hn0 : 0 < n := by
        rcases Nat.eq_zero_or_pos n with z | z
        · exact absurd (by rw [hn, z]; rfl) c_20
        · exact z
      have h31 := pow_31 n h6
      refine G.iconst (v := 1) C dX6_best_26 (by decide) ?_
      refine G.istore_n (L1 := [(2, .int 1), (0, .ref (w.2.2.2.1 20 0)), (1, .int a)]) C dX6_best_27 rfl (by decide) rfl ?_
      refine G.iconst (v := 0) C dX6_best_28 (by decide) ?_
      refine G.istore_n (L1 := [(3, .int 0), (2, .int 1), (0, .ref (w.2.2.2.1 20 0)), (1, .int a)]) C dX6_best_29 rfl (by decide) rfl ?_
      have cut_30 : ∀ (m9 : Nat) (j : Nat) (x3 x2 : Int32), j ≤ n → n < j + m9 → x3 = nI j → x2 = nI (6 ^ j) → G w x 7 Q 30 [(3, .int x3), (2, .int x2), (0, .ref (w.2.2.2.1 20 0)), (1, .int a)] [] σ := by
        intro m9
        induction m9 with
        | zero =>
          intro j x3 x2 hj hm hx3 hx2
          exfalso
          omega
        | succ m9 ih_30 =>
          intro j x3 x2 hj hm hx3 hx2
          subst hx3
          subst hx2
          have hj31 := pow_31 j (by omega)
          refine G.iload_n C 0 dX6_best_30 rfl rfl ?_
          refine G.aload_n C 2 dX6_best_31 rfl rfl ?_
          refine G.get (g := 20) (i := 0) C 2 none dX6_best_32 (by decide) rfl rfl uX_X6 (by decide) uf_RX6_73 rfl rfl ?_
          refine G.icmp_ge (tgt := 49) C dX6_best_35 (by decide) (fun c_35 => ?_) (fun c_35 => ?_)
          · have hjn : n = j := by
              rw [hn, nI_leI (by omega) (by omega)] at c_35; omega
            subst hjn
            refine G.bipush (v := -9) C dX6_best_49 (by decide) ?_
            refine G.istore_n (L1 := [(3, .int (-9)), (2, .int (nI (6 ^ n))), (0, .ref (w.2.2.2.1 20 0)), (1, .int a)]) C dX6_best_51 rfl (by decide) rfl ?_
            refine G.iconst (v := 0) C dX6_best_52 (by decide) ?_
            refine G.istore (L1 := [(4, .int 0), (3, .int (-9)), (2, .int (nI (6 ^ n))), (0, .ref (w.2.2.2.1 20 0)), (1, .int a)]) C dX6_best_53 (by decide) rfl ?_
            refine G.iconst (v := 0) C dX6_best_55 (by decide) ?_
            refine G.istore (L1 := [(5, .int 0), (4, .int 0), (3, .int (-9)), (2, .int (nI (6 ^ n))), (0, .ref (w.2.2.2.1 20 0)), (1, .int a)]) C dX6_best_56 (by decide) rfl ?_
            have cut_58 : ∀ (m9 : Nat) (k : Nat) (τ1 : wSt) (x5 x4 x3 : Int32), k ≤ 6 ^ n → 6 ^ n < k + m9 → frG 37 σ τ1 → x5 = nI k → x4 = oQ (costN w9 n 0 none) (fbU (ordB n) (costN w9 n 0 none) k) → x3 = oI (fbU (ordB n) (costN w9 n 0 none) k) → G w x 7 Q 58 [(5, .int x5), (4, .int x4), (3, .int x3), (0, .ref (w.2.2.2.1 20 0)), (1, .int a), (2, .int (nI (6 ^ n)))] [] τ1 := by
              intro m9
              induction m9 with
              | zero =>
                intro k τ1 x5 x4 x3 hk hmk hfr hx5 hx4 hx3
                exfalso
                omega
              | succ m9 ih_58 =>
                intro k τ1 x5 x4 x3 hk hmk hfr hx5 hx4 hx3
                subst hx5
                subst hx4
                subst hx3
                refine G.iload C 0 dX6_best_58 rfl ?_
                refine G.iload_n C 5 dX6_best_60 rfl rfl ?_
                refine G.icmp_ge (tgt := 105) C dX6_best_61 (by decide) (fun c_61 => ?_) (fun c_61 => ?_)
                · have hkn : 6 ^ n = k := by
                    rw [nI_leI (by omega) (by omega)] at c_61; omega
                  refine G.iload_n C 4 dX6_best_105 rfl rfl ?_
                  refine G.if_ne (tgt := 113) C dX6_best_106 (by decide) (fun c_106 => ?_) (fun c_106 => ?_)
                  · refine G.iload C 1 dX6_best_113 rfl ?_
                    subst hQ
                    exact G.iret C hr dX6_best_115 (by
                        refine Or.inr (Or.inr ⟨w_le1.mp b_8, hn0, hfr, ?_⟩)
                        rw [if_neg c_106, ← hkn, bst_fb hn0 h6]
                        rfl)
                  · refine G.iload_n C 2 dX6_best_109 rfl rfl ?_
                    refine G.goto (tgt := 115) C dX6_best_110 (by decide) ?_
                    subst hQ
                    exact G.iret C hr dX6_best_115 (by
                        refine Or.inr (Or.inr ⟨w_le1.mp b_8, hn0, hfr, ?_⟩)
                        rw [if_pos c_106, ← hkn, bst_fb hn0 h6]
                        rfl)
                · have hkn : k < 6 ^ n := by
                    rw [nI_leI (by omega) (by omega)] at c_61; omega
                  refine G.aload_n C 3 dX6_best_64 rfl rfl ?_
                  refine G.iload C 0 dX6_best_65 rfl ?_
                  have hM_1 := ok_X6_isOrder hw τ1 (nI k) (by rw [hfr.1 20 (by decide)]; exact hn) h6
                  refine G.callV C (g := 20) (i := 0) none hM_1 dX6_best_67 (by decide) rfl rfl rfl uv_X6_isOrder ul_RX6_80 rfl rfl (by decide) (Nat.le_of_ble_eq_true rfl) (fun r_67 τ_67 h_67 => ?_)
                  refine G.if_eq (tgt := 99) C dX6_best_70 (by decide) (fun c_70 => ?_) (fun c_70 => ?_)
                  · have hno : ordB n k = false := by
                      cases hq : ordB n k with
                      | false => rfl
                      | true =>
                        have hq := ordB_iff.mp hq
                        rcases h_67.2 with z | z
                        · exact absurd c_70 (by rw [z.1]; decide)
                        · exact absurd ⟨k, rfl, hq⟩ z.2
                    obtain ⟨x5_99, ex5_99⟩ : ∃ z : Int32, z = (nI k) + 1 := ⟨_, rfl⟩
                    refine G.iinc (v := x5_99) (L1 := [(5, .int x5_99), (4, .int (oQ (costN w9 n 0 none) (fbU (ordB n) (costN w9 n 0 none) k))), (3, .int (oI (fbU (ordB n) (costN w9 n 0 none) k))), (0, .ref (w.2.2.2.1 20 0)), (1, .int a), (2, .int (nI (6 ^ n)))]) C 0 dX6_best_99 rfl (by rw [ex5_99]; rfl) (by decide) rfl ?_
                    refine G.goto (tgt := 58) C dX6_best_102 (by decide) ?_
                    refine ih_58  (k + 1) _ _ _ _ ?_ ?_ ?_ ?_ ?_ ?_
                    · omega
                    · omega
                    · exact ⟨fun g hg => (h_67.1.1 g hg).trans (hfr.1 g hg), h_67.1.2.trans hfr.2⟩
                    · rw [ex5_99]; exact nI_1 k
                    · rw [fb_skip hno]
                      try rfl
                    · rw [fb_skip hno]
                      try rfl
                  · obtain ⟨m, e9, hm31, hok, hdg⟩ : ∃ m : Nat, nI k = nI m ∧ m < 2 ^ 31 ∧ ordOk n m ∧ ∀ i : Nat, i < n → τ_67.1 37 0 i = nI (dg n m i) := by
                      rcases h_67.2 with z | z
                      · exact z.2
                      · exact absurd z.1 c_70
                    have hmk := nI_inj31 (by omega) hm31 e9
                    subst hmk
                    refine G.aload_n C 3 dX6_best_73 rfl rfl ?_
                    have hM_2 := ok_X6_quarrelOf hw τ_67 (hen.to ((h_67.1.1 20 (by decide)).trans (hfr.1 20 (by decide))) ((h_67.1.1 21 (by decide)).trans (hfr.1 21 (by decide))) ((h_67.1.1 24 (by decide)).trans (hfr.1 24 (by decide)))) hok hdg
                    refine G.callV C (g := 20) (i := 0) none hM_2 dX6_best_74 (by decide) rfl rfl rfl uv_X6_quarrelOf ul_RX6_84 rfl rfl (by decide) (Nat.le_of_ble_eq_true rfl) (fun r_74 τ_74 h_74 => ?_)
                    obtain ⟨h_74, e_74⟩ := h_74; subst h_74
                    refine G.istore (L1 := [(6, .int r_74), (5, .int (nI k)), (4, .int (oQ (costN w9 n 0 none) (fbU (ordB n) (costN w9 n 0 none) k))), (3, .int (oI (fbU (ordB n) (costN w9 n 0 none) k))), (0, .ref (w.2.2.2.1 20 0)), (1, .int a), (2, .int (nI (6 ^ n)))]) C dX6_best_77 (by decide) rfl ?_
                    refine G.iload_n C 3 dX6_best_79 rfl rfl ?_
                    refine G.bipush (v := -9) C dX6_best_80 (by decide) ?_
                    refine G.icmp_eq (tgt := 92) C dX6_best_82 (by decide) (fun c_82 => ?_) (fun c_82 => ?_)
                    · refine G.iload C 1 dX6_best_92 rfl ?_
                      refine G.topi (fun x3_94 ex3_94 => ?_)
                      refine G.istore_n (L1 := [(3, .int x3_94), (6, .int r_74), (5, .int (nI k)), (4, .int (oQ (costN w9 n 0 none) (fbU (ordB n) (costN w9 n 0 none) k))), (0, .ref (w.2.2.2.1 20 0)), (1, .int a), (2, .int (nI (6 ^ n)))]) C dX6_best_94 rfl (by decide) rfl ?_
                      refine G.iload C 1 dX6_best_95 rfl ?_
                      refine G.istore (L1 := [(4, .int r_74), (3, .int x3_94), (6, .int r_74), (5, .int (nI k)), (0, .ref (w.2.2.2.1 20 0)), (1, .int a), (2, .int (nI (6 ^ n)))]) C dX6_best_97 (by decide) rfl ?_
                      obtain ⟨x5_99, ex5_99⟩ : ∃ z : Int32, z = (nI k) + 1 := ⟨_, rfl⟩
                      refine G.iinc (v := x5_99) (L1 := [(5, .int x5_99), (4, .int r_74), (3, .int x3_94), (6, .int r_74), (0, .ref (w.2.2.2.1 20 0)), (1, .int a), (2, .int (nI (6 ^ n)))]) C 3 dX6_best_99 rfl (by rw [ex5_99]; rfl) (by decide) rfl ?_
                      refine G.goto (tgt := 58) C dX6_best_102 (by decide) ?_
                      refine G.sub (L1 := [(5, .int x5_99), (4, .int r_74), (3, .int x3_94), (0, .ref (w.2.2.2.1 20 0)), (1, .int a), (2, .int (nI (6 ^ n)))]) [0, 1, 2, 4, 5, 6] rfl ?_
                      refine ih_58  (k + 1) _ _ _ _ ?_ ?_ ?_ ?_ ?_ ?_
                      · omega
                      · omega
                      · exact ⟨fun g hg => (h_67.1.1 g hg).trans (hfr.1 g hg), h_67.1.2.trans hfr.2⟩
                      · rw [ex5_99]; exact nI_1 k
                      · rw [fb_new (ordB_iff.mpr hok) (oI_none (fun b9 hb9 => by have := (fb_some k b9 hb9).1; omega) c_82)]
                        exact e_74
                      · rw [fb_new (ordB_iff.mpr hok) (oI_none (fun b9 hb9 => by have := (fb_some k b9 hb9).1; omega) c_82)]
                        exact ex3_94
                    · refine G.iload C 0 dX6_best_85 rfl ?_
                      refine G.iload C 2 dX6_best_87 rfl ?_
                      refine G.icmp_ge (tgt := 99) C dX6_best_89 (by decide) (fun c_89 => ?_) (fun c_89 => ?_)
                      · obtain ⟨x5_99, ex5_99⟩ : ∃ z : Int32, z = (nI k) + 1 := ⟨_, rfl⟩
                        refine G.iinc (v := x5_99) (L1 := [(5, .int x5_99), (6, .int r_74), (4, .int (oQ (costN w9 n 0 none) (fbU (ordB n) (costN w9 n 0 none) k))), (3, .int (oI (fbU (ordB n) (costN w9 n 0 none) k))), (0, .ref (w.2.2.2.1 20 0)), (1, .int a), (2, .int (nI (6 ^ n)))]) C 1 dX6_best_99 rfl (by rw [ex5_99]; rfl) (by decide) rfl ?_
                        refine G.goto (tgt := 58) C dX6_best_102 (by decide) ?_
                        refine G.sub (L1 := [(5, .int x5_99), (4, .int (oQ (costN w9 n 0 none) (fbU (ordB n) (costN w9 n 0 none) k))), (3, .int (oI (fbU (ordB n) (costN w9 n 0 none) k))), (0, .ref (w.2.2.2.1 20 0)), (1, .int a), (2, .int (nI (6 ^ n)))]) [0, 2, 3, 4, 5, 6] rfl ?_
                        refine ih_58  (k + 1) _ _ _ _ ?_ ?_ ?_ ?_ ?_ ?_
                        · omega
                        · omega
                        · exact ⟨fun g hg => (h_67.1.1 g hg).trans (hfr.1 g hg), h_67.1.2.trans hfr.2⟩
                        · rw [ex5_99]; exact nI_1 k
                        · obtain ⟨d9, hd9⟩ := oI_some c_82
                          have hdn := ordB_iff.mp (fb_some k d9 hd9).2.1
                          rw [hd9, e_74] at c_89
                          have hq1 := cost_ok h7 (fun u a b h1 h2 h3 => (hen.2.2.2 u a b h1 h2 h3).2) hok
                          have hq2 := cost_ok h7 (fun u a b h1 h2 h3 => (hen.2.2.2 u a b h1 h2 h3).2) hdn
                          have hcq : nI (costN w9 n 0 none d9) ≤ nI (costN w9 n 0 none k) ↔ _ := nI_leI (by omega) (by omega)
                          rw [fb_keep (ordB_iff.mpr hok) hd9 (fun z => by have := hcq.mp c_89; omega)]
                          rw [hd9]
                        · obtain ⟨d9, hd9⟩ := oI_some c_82
                          have hdn := ordB_iff.mp (fb_some k d9 hd9).2.1
                          rw [hd9, e_74] at c_89
                          have hq1 := cost_ok h7 (fun u a b h1 h2 h3 => (hen.2.2.2 u a b h1 h2 h3).2) hok
                          have hq2 := cost_ok h7 (fun u a b h1 h2 h3 => (hen.2.2.2 u a b h1 h2 h3).2) hdn
                          have hcq : nI (costN w9 n 0 none d9) ≤ nI (costN w9 n 0 none k) ↔ _ := nI_leI (by omega) (by omega)
                          rw [fb_keep (ordB_iff.mpr hok) hd9 (fun z => by have := hcq.mp c_89; omega)]
                          rw [hd9]
                      · refine G.iload C 1 dX6_best_92 rfl ?_
                        refine G.topi (fun x3_94 ex3_94 => ?_)
                        refine G.istore_n (L1 := [(3, .int x3_94), (6, .int r_74), (5, .int (nI k)), (4, .int (oQ (costN w9 n 0 none) (fbU (ordB n) (costN w9 n 0 none) k))), (0, .ref (w.2.2.2.1 20 0)), (1, .int a), (2, .int (nI (6 ^ n)))]) C dX6_best_94 rfl (by decide) rfl ?_
                        refine G.iload C 1 dX6_best_95 rfl ?_
                        refine G.istore (L1 := [(4, .int r_74), (3, .int x3_94), (6, .int r_74), (5, .int (nI k)), (0, .ref (w.2.2.2.1 20 0)), (1, .int a), (2, .int (nI (6 ^ n)))]) C dX6_best_97 (by decide) rfl ?_
                        obtain ⟨x5_99, ex5_99⟩ : ∃ z : Int32, z = (nI k) + 1 := ⟨_, rfl⟩
                        refine G.iinc (v := x5_99) (L1 := [(5, .int x5_99), (4, .int r_74), (3, .int x3_94), (6, .int r_74), (0, .ref (w.2.2.2.1 20 0)), (1, .int a), (2, .int (nI (6 ^ n)))]) C 3 dX6_best_99 rfl (by rw [ex5_99]; rfl) (by decide) rfl ?_
                        refine G.goto (tgt := 58) C dX6_best_102 (by decide) ?_
                        refine G.sub (L1 := [(5, .int x5_99), (4, .int r_74), (3, .int x3_94), (0, .ref (w.2.2.2.1 20 0)), (1, .int a), (2, .int (nI (6 ^ n)))]) [0, 1, 2, 4, 5, 6] rfl ?_
                        refine ih_58  (k + 1) _ _ _ _ ?_ ?_ ?_ ?_ ?_ ?_
                        · omega
                        · omega
                        · exact ⟨fun g hg => (h_67.1.1 g hg).trans (hfr.1 g hg), h_67.1.2.trans hfr.2⟩
                        · rw [ex5_99]; exact nI_1 k
                        · obtain ⟨d9, hd9⟩ := oI_some c_82
                          have hdn := ordB_iff.mp (fb_some k d9 hd9).2.1
                          rw [hd9, e_74] at c_89
                          have hq1 := cost_ok h7 (fun u a b h1 h2 h3 => (hen.2.2.2 u a b h1 h2 h3).2) hok
                          have hq2 := cost_ok h7 (fun u a b h1 h2 h3 => (hen.2.2.2 u a b h1 h2 h3).2) hdn
                          have hcq : nI (costN w9 n 0 none d9) ≤ nI (costN w9 n 0 none k) ↔ _ := nI_leI (by omega) (by omega)
                          rw [fb_take (ordB_iff.mpr hok) hd9 (Nat.not_le.mp (fun z => c_89 (hcq.mpr z)))]
                          exact e_74
                        · obtain ⟨d9, hd9⟩ := oI_some c_82
                          have hdn := ordB_iff.mp (fb_some k d9 hd9).2.1
                          rw [hd9, e_74] at c_89
                          have hq1 := cost_ok h7 (fun u a b h1 h2 h3 => (hen.2.2.2 u a b h1 h2 h3).2) hok
                          have hq2 := cost_ok h7 (fun u a b h1 h2 h3 => (hen.2.2.2 u a b h1 h2 h3).2) hdn
                          have hcq : nI (costN w9 n 0 none d9) ≤ nI (costN w9 n 0 none k) ↔ _ := nI_leI (by omega) (by omega)
                          rw [fb_take (ordB_iff.mpr hok) hd9 (Nat.not_le.mp (fun z => c_89 (hcq.mpr z)))]
                          exact ex3_94
            refine G.sub (L1 := [(5, .int 0), (4, .int 0), (3, .int (-9)), (0, .ref (w.2.2.2.1 20 0)), (1, .int a), (2, .int (nI (6 ^ n)))]) [0, 1, 2, 4, 5, 3] rfl ?_
            refine cut_58 (6 ^ n + 1) 0 _ _ _ _ ?_ ?_ ?_ ?_ ?_ ?_
            · exact Nat.zero_le _
            · omega
            · exact frG.rf
            · rfl
            · rfl
            · rfl
          · have hjn : j < n := by
              rw [hn, nI_leI (by omega) (by omega)] at c_35; omega
            refine G.iload_n C 1 dX6_best_38 rfl rfl ?_
            refine G.bipush (v := 6) C dX6_best_39 (by decide) ?_
            refine G.imul C dX6_best_41 ?_
            refine G.topi (fun x2_42 ex2_42 => ?_)
            refine G.istore_n (L1 := [(2, .int x2_42), (3, .int (nI j)), (0, .ref (w.2.2.2.1 20 0)), (1, .int a)]) C dX6_best_42 rfl (by decide) rfl ?_
            obtain ⟨x3_43, ex3_43⟩ : ∃ z : Int32, z = (nI j) + 1 := ⟨_, rfl⟩
            refine G.iinc (v := x3_43) (L1 := [(3, .int x3_43), (2, .int x2_42), (0, .ref (w.2.2.2.1 20 0)), (1, .int a)]) C 1 dX6_best_43 rfl (by rw [ex3_43]; rfl) (by decide) rfl ?_
            refine G.goto (tgt := 30) C dX6_best_46 (by decide) ?_
            refine ih_30  (j + 1) _ _ ?_ ?_ ?_ ?_
            · omega
            · omega
            · rw [ex3_43]; exact nI_1 j
            · rw [ex2_42, show (6 : Int32) = nI 6 from rfl, pk_mul, Nat.pow_succ]
      refine cut_30 (n + 1) 0 _ _ ?_ ?_ ?_ ?_
      · omega
      · omega
      · rfl
      · rfl
    · have hn0 : n = 0 := by
        rw [hn, show (0 : Int32) = nI 0 from rfl, nI_eq (by omega) (by decide)] at c_20
        exact c_20
      refine G.bipush (v := -2) C dX6_best_23 (by decide) ?_
      subst hQ
      exact G.iret C hr dX6_best_25 (by
          exact Or.inr (Or.inl ⟨w_le1.mp b_8, hn0, rfl, rfl⟩))
  · have b_8 := wb_0 e_8 c_11
    refine G.iconst (v := -1) C dX6_best_14 (by decide) ?_
    subst hQ
    exact G.iret C hr dX6_best_15 (by
        exact Or.inl ⟨fun z => b_8 (w_le1.mpr z), rfl, rfl⟩)
