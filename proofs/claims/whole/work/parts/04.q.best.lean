set_option maxHeartbeats 4000000 in
set_option maxRecDepth 100000 in
theorem ok_X5_best {w : wD} (hw : wOK w) (σ : wSt) (a : Int32) {n : Nat} {w9 : Nat → Nat → Nat → Nat} (hen : envC σ n w9) : MI w yX5_best cX5_best 3 (some .int) 6 142 [.ref (w.2.2.2.1 0 0), .int a] σ (fun r τ => (¬ (a = 0 ∨ a = 1) ∧ σ = τ ∧ r = -1) ∨ ((a = 0 ∨ a = 1) ∧ n = 0 ∧ σ = τ ∧ r = -2) ∨ ((a = 0 ∨ a = 1) ∧ 0 < n ∧ (∀ g : Nat, g ≠ 8 → g ≠ 10 → τ.1 g = σ.1 g) ∧ τ.2 = σ.2 ∧ r = if a = 0 then nI (gr w9 n n 0 none) else nI (costN w9 n 0 none (gr w9 n n 0 none)))) := by
  have hn := hen.1
  have h6 := hen.2.1
  have h7 : n < 7 := by omega
  have h64 := pow_64 n h7
  refine MI.of hw (by decide +kernel) (Nat.le_of_ble_eq_true rfl) (fun x C hr => ?_)
  suffices key : ∀ Q, Q = QI w x (fun r τ => (¬ (a = 0 ∨ a = 1) ∧ σ = τ ∧ r = -1) ∨ ((a = 0 ∨ a = 1) ∧ n = 0 ∧ σ = τ ∧ r = -2) ∨ ((a = 0 ∨ a = 1) ∧ 0 < n ∧ (∀ g : Nat, g ≠ 8 → g ≠ 10 → τ.1 g = σ.1 g) ∧ τ.2 = σ.2 ∧ r = if a = 0 then nI (gr w9 n n 0 none) else nI (costN w9 n 0 none (gr w9 n n 0 none)))) → G w x 3 Q 0 [(0, .ref (w.2.2.2.1 0 0)), (1, .int a)] [] σ from key _ rfl
  intro Q hQ
  refine G.iload_n C 1 dX5_best_0 rfl rfl ?_
  have hM_0 := ok_X5_isFirstOrSecond hw σ a
  refine G.callS C none hM_0 dX5_best_1 us_X5_isFirstOrSecond ul_RX5_97 rfl rfl (by decide) (Nat.le_of_ble_eq_true rfl) (fun r_1 τ_1 h_1 => ?_)
  obtain ⟨h_1, e_1⟩ := h_1; subst h_1
  refine G.if_ne (tgt := 9) C dX5_best_4 (by decide) (fun c_4 => ?_) (fun c_4 => ?_)
  · have b_1 := wb_1 e_1 c_4
    refine G.aload_n C 0 dX5_best_9 rfl rfl ?_
    refine G.get (g := 0) (i := 0) C 0 none dX5_best_10 (by decide) rfl rfl uX_X5 (by decide) uf_RX5_10 rfl rfl ?_
    refine G.get (g := 1) (i := 0) C 5 (some "PlateRoom") dX5_best_13 (by decide) rfl rfl uX_X3 (by decide) unf_RX5_100 rfl rfl ?_
    refine G.if_ne (tgt := 22) C dX5_best_16 (by decide) (fun c_16 => ?_) (fun c_16 => ?_)
    · have hn0 : 0 < n := by
        rcases Nat.eq_zero_or_pos n with z | z
        · exact absurd (by rw [hn, z]; rfl) c_16
        · exact z
      refine G.aload_n C 0 dX5_best_22 rfl rfl ?_
      refine G.get (g := 0) (i := 0) C 0 none dX5_best_23 (by decide) rfl rfl uX_X5 (by decide) uf_RX5_10 rfl rfl ?_
      have hM_1 := ok_X3_bestOrder hw σ hen
      refine G.callV C (g := 1) (i := 0) (some "PlateRoom") hM_1 dX5_best_26 (by decide) rfl rfl rfl uv_X3_bestOrder unm_RX5_103 rfl rfl (by decide) (Nat.le_of_ble_eq_true rfl) (fun r_26 τ_26 h_26 => ?_)
      refine G.istore_n (L1 := [(2, .int r_26), (0, .ref (w.2.2.2.1 0 0)), (1, .int a)]) C dX5_best_29 rfl (by decide) rfl ?_
      refine G.iload_n C 2 dX5_best_30 rfl rfl ?_
      refine G.if_ne (tgt := 38) C dX5_best_31 (by decide) (fun c_31 => ?_) (fun c_31 => ?_)
      · refine G.aload_n C 1 dX5_best_38 rfl rfl ?_
        refine G.get (g := 0) (i := 0) C 0 none dX5_best_39 (by decide) rfl rfl uX_X5 (by decide) uf_RX5_10 rfl rfl ?_
        refine G.iload_n C 0 dX5_best_42 rfl rfl ?_
        have hM_2 := ok_X3_quarrelOf hw τ_26 r_26 (hen.to (h_26.1.1 1 (by decide)) (h_26.1.1 6 (by decide)))
        refine G.callV C (g := 1) (i := 0) (some "PlateRoom") hM_2 dX5_best_43 (by decide) rfl rfl rfl uv_X3_quarrelOf unm_RX5_94 rfl rfl (by decide) (Nat.le_of_ble_eq_true rfl) (fun r_43 τ_43 h_43 => ?_)
        subst hQ
        exact G.iret C hr dX5_best_46 (by
            refine Or.inr (Or.inr ⟨b_1, hn0, ?_, ?_, ?_⟩)
            · intro g h8 h10
              exact (h_43.1.1 g h8).trans (h_26.1.1 g h10)
            · exact h_43.1.2.trans h_26.1.2
            · rw [if_neg c_31]
              have hok := bst_ok (w := w9) hn0 h6
              rcases h_43.2 with z | z
              · obtain ⟨m, e, q, z⟩ := z
                rw [h_26.2] at e
                rw [z, nI_inj31 (by have := pow_31 n h6; have := q.2.1; omega) (by have := pow_31 n h6; have := hok.2.1; omega) e.symm]
              · exact absurd ⟨_, h_26.2, hok⟩ z.1)
      · refine G.iload_n C 0 dX5_best_34 rfl rfl ?_
        refine G.goto (tgt := 46) C dX5_best_35 (by decide) ?_
        subst hQ
        exact G.iret C hr dX5_best_46 (by
            exact Or.inr (Or.inr ⟨b_1, hn0, fun g h8 h10 => h_26.1.1 g h10, h_26.1.2, (h_26.2).trans (if_pos c_31).symm⟩))
    · have hn0 : n = 0 := by
        rw [hn, show (0 : Int32) = nI 0 from rfl, nI_eq (by omega) (by decide)] at c_16
        exact c_16
      refine G.bipush (v := -2) C dX5_best_19 (by decide) ?_
      subst hQ
      exact G.iret C hr dX5_best_21 (by
          exact Or.inr (Or.inl ⟨b_1, hn0, rfl, rfl⟩))
  · have b_1 := wb_0 e_1 c_4
    refine G.iconst (v := -1) C dX5_best_7 (by decide) ?_
    subst hQ
    exact G.iret C hr dX5_best_8 (by
        exact Or.inl ⟨b_1, rfl, rfl⟩)
set_option maxHeartbeats 4000000 in
set_option maxRecDepth 100000 in
theorem ok_X6_isOrder {w : wD} (hw : wOK w) (σ : wSt) (a : Int32) {n : Nat} (hn : σ.1 20 0 2 = nI n) (h6 : n ≤ 6) : MI w yX6_isOrder cX6_isOrder 5 (some .boolean) 0 0 [.ref (w.2.2.2.1 20 0), .int a] σ (fun r τ => frG 37 σ τ ∧ ((r = 1 ∧ ∃ m : Nat, a = nI m ∧ m < 2 ^ 31 ∧ ordOk n m ∧ ∀ i : Nat, i < n → τ.1 37 0 i = nI (dg n m i)) ∨ (r = 0 ∧ ¬ (∃ m : Nat, a = nI m ∧ ordOk n m)))) := by
  refine MI.of hw (by decide +kernel) (Nat.le_of_ble_eq_true rfl) (fun x C hr => ?_)
  suffices key : ∀ Q, Q = QI w x (fun r τ => frG 37 σ τ ∧ ((r = 1 ∧ ∃ m : Nat, a = nI m ∧ m < 2 ^ 31 ∧ ordOk n m ∧ ∀ i : Nat, i < n → τ.1 37 0 i = nI (dg n m i)) ∨ (r = 0 ∧ ¬ (∃ m : Nat, a = nI m ∧ ordOk n m)))) → G w x 5 Q 0 [(0, .ref (w.2.2.2.1 20 0)), (1, .int a)] [] σ from key _ rfl
  intro Q hQ
  refine G.iload_n C 1 dX6_isOrder_0 rfl rfl ?_
  refine G.istore_n (L1 := [(2, .int a), (0, .ref (w.2.2.2.1 20 0)), (1, .int a)]) C dX6_isOrder_1 rfl (by decide) rfl ?_
  refine G.iconst (v := 0) C dX6_isOrder_2 (by decide) ?_
  refine G.istore_n (L1 := [(3, .int 0), (2, .int a), (0, .ref (w.2.2.2.1 20 0)), (1, .int a)]) C dX6_isOrder_3 rfl (by decide) rfl ?_
  refine G.aload_n C 2 dX6_isOrder_4 rfl rfl ?_
  refine G.get (g := 20) (i := 0) C 2 none dX6_isOrder_5 (by decide) rfl rfl uX_X6 (by decide) uf_RX6_73 rfl rfl ?_
  refine G.iconst (v := 1) C dX6_isOrder_8 (by decide) ?_
  refine G.isub C dX6_isOrder_9 ?_
  refine G.topi (fun x4_10 ex4_10 => ?_)
  refine G.istore (L1 := [(4, .int x4_10), (3, .int 0), (2, .int a), (0, .ref (w.2.2.2.1 20 0)), (1, .int a)]) C dX6_isOrder_10 (by decide) rfl ?_
  have cut_12 : ∀ (m9 : Nat) (t : Nat) (y3 y2 : Int32) (τ1 : wSt) (x4 : Int32), t ≤ n → n < t + m9 → frG 37 σ τ1 → (∀ m : Nat, a = nI m → m < 2 ^ 31 → y3 = nI (seU m t) ∧ y2 = nI (m / 6 ^ t) ∧ ∀ i : Nat, n - t ≤ i → i < n → τ1.1 37 0 i = nI (dg n m i)) → x4 = nI (n - t) - 1 → G w x 5 Q 12 [(4, .int x4), (3, .int y3), (2, .int y2), (0, .ref (w.2.2.2.1 20 0)), (1, .int a)] [] τ1 := by
    intro m9
    induction m9 with
    | zero =>
      intro t y3 y2 τ1 x4 ht hm hfr hinv hx4
      exfalso
      omega
    | succ m9 ih_12 =>
      intro t y3 y2 τ1 x4 ht hm hfr hinv hx4
      subst hx4
      refine G.iload C 0 dX6_isOrder_12 rfl ?_
      refine G.if_lt (tgt := 59) C dX6_isOrder_14 (by decide) (fun c_14 => ?_) (fun c_14 => ?_)
      · have htn : n = t := by have := (nI_lt0 (k := n - t) (by omega)).mp c_14; omega
        subst htn
        refine G.aload_n C 3 dX6_isOrder_59 rfl rfl ?_
        refine G.get (g := 20) (i := 0) C 2 none dX6_isOrder_60 (by decide) rfl rfl uX_X6 (by decide) uf_RX6_73 rfl rfl ?_
        refine G.if_le (tgt := 90) C dX6_isOrder_63 (by decide) (fun c_63 => ?_) (fun c_63 => ?_)
        · refine G.iconst (v := 0) C dX6_isOrder_90 (by decide) ?_
          subst hQ
          exact G.zret C hr (by rfl) dX6_isOrder_91 (by
              refine ⟨hfr, Or.inr ⟨rfl, fun q => ?_⟩⟩
              obtain ⟨m, e, q⟩ := q
              subst e
              exact absurd c_63 (fun z => by have := q.1; rw [hfr.1 20 (by decide), hn, show (0 : Int32) = nI 0 from rfl, nI_leI (by omega) (by omega)] at z; omega))
        · refine G.iload_n C 4 dX6_isOrder_66 rfl rfl ?_
          refine G.if_lt (tgt := 90) C dX6_isOrder_67 (by decide) (fun c_67 => ?_) (fun c_67 => ?_)
          · refine G.iconst (v := 0) C dX6_isOrder_90 (by decide) ?_
            subst hQ
            exact G.zret C hr (by rfl) dX6_isOrder_91 (by
                refine ⟨hfr, Or.inr ⟨rfl, fun q => ?_⟩⟩
                obtain ⟨m, e, q⟩ := q
                subst e
                exact nI_pos (by have := pow_31 n h6; have := q.2.1; omega) c_67)
          · refine G.iload_n C 2 dX6_isOrder_70 rfl rfl ?_
            refine G.if_ne (tgt := 90) C dX6_isOrder_71 (by decide) (fun c_71 => ?_) (fun c_71 => ?_)
            · refine G.iconst (v := 0) C dX6_isOrder_90 (by decide) ?_
              subst hQ
              exact G.zret C hr (by rfl) dX6_isOrder_91 (by
                  refine ⟨hfr, Or.inr ⟨rfl, fun q => ?_⟩⟩
                  obtain ⟨m, e, q⟩ := q
                  subst e
                  have hm31 : m < 2 ^ 31 := by have := pow_31 n h6; have := q.2.1; omega
                  have hv := hinv m rfl hm31
                  rw [hv.2.1, ord_big q] at c_71
                  exact c_71 rfl)
            · refine G.iload_n C 1 dX6_isOrder_74 rfl rfl ?_
              refine G.iconst (v := 1) C dX6_isOrder_75 (by decide) ?_
              refine G.aload_n C 3 dX6_isOrder_76 rfl rfl ?_
              refine G.get (g := 20) (i := 0) C 2 none dX6_isOrder_77 (by decide) rfl rfl uX_X6 (by decide) uf_RX6_73 rfl rfl ?_
              refine G.ishl C dX6_isOrder_80 ?_
              refine G.iconst (v := 1) C dX6_isOrder_81 (by decide) ?_
              refine G.isub C dX6_isOrder_82 ?_
              refine G.icmp_ne (tgt := 90) C dX6_isOrder_83 (by decide) (fun c_83 => ?_) (fun c_83 => ?_)
              · refine G.iconst (v := 0) C dX6_isOrder_90 (by decide) ?_
                subst hQ
                exact G.zret C hr (by rfl) dX6_isOrder_91 (by
                    refine ⟨hfr, Or.inr ⟨rfl, fun q => ?_⟩⟩
                    obtain ⟨m, e, q⟩ := q
                    subst e
                    have hm31 : m < 2 ^ 31 := by have := pow_31 n h6; have := q.2.1; omega
                    have hv := hinv m rfl hm31
                    rw [hv.1, hfr.1 20 (by decide), hn, (se_valid h6 q.2.1).mpr q.2.2] at c_83
                    exact c_83 (cnt_0 n (by omega)).2.symm)
              · refine G.iconst (v := 1) C dX6_isOrder_86 (by decide) ?_
                refine G.goto (tgt := 91) C dX6_isOrder_87 (by decide) ?_
                subst hQ
                exact G.zret C hr (by rfl) dX6_isOrder_91 (by
                    obtain ⟨m, hm31, rfl⟩ := nI_of c_67
                    have hv := hinv m rfl hm31
                    have hn0 : 0 < n := by
                      rcases Nat.eq_zero_or_pos n with z | z
                      · exact absurd (by rw [hfr.1 20 (by decide), hn, z]; decide) c_63
                      · exact z
                    have hz : m / 6 ^ n = 0 := by
                      rw [hv.2.1] at c_71
                      have hd := Nat.div_le_self m (6 ^ n)
                      exact nI_inj31 (by omega) (by decide) c_71
                    have hmn : m < 6 ^ n := by
                      rcases Nat.lt_or_ge m (6 ^ n) with z | z
                      · exact z
                      · have := Nat.div_pos z (Nat.pow_pos (n := n) (show 0 < 6 by decide)); omega
                    have hse : seU m n = 2 ^ n - 1 := by
                      rw [hv.1, hfr.1 20 (by decide), hn, (cnt_0 n (by omega)).2] at c_83
                      have h1 := se_lt (n := n) (m := m) (t := n) (by omega)
                      have h2 := pow_64 n (by omega)
                      exact nI_inj31 (by omega) (by omega) c_83
                    exact ⟨hfr, Or.inl ⟨rfl, m, rfl, hm31, ⟨hn0, hmn, (se_valid h6 hmn).mp hse⟩, fun i hi => hv.2.2 i (by omega) hi⟩⟩)
      · have htn : 0 < n - t := by
          rcases Nat.eq_zero_or_pos (n - t) with z | z
          · exact absurd ((nI_lt0 (by omega)).mpr z) c_14
          · exact z
        rw [nI_sub1 htn]
        have hz9 := htn
        refine G.aload_n C 3 dX6_isOrder_17 rfl rfl ?_
        refine G.get (g := 20) (i := 0) C 22 none dX6_isOrder_18 (by decide) rfl rfl uX_X6 (by decide) uf_RX6_58 rfl rfl ?_
        refine G.iload C 0 dX6_isOrder_21 rfl ?_
        refine G.iload_n C 2 dX6_isOrder_23 rfl rfl ?_
        refine G.bipush (v := 6) C dX6_isOrder_24 (by decide) ?_
        refine G.irem C dX6_isOrder_26 (by decide) ?_
        have hin_27 : vp_in (nI (n - t - 1)) 6 := by
          exact vp_in_nI (by omega) (by decide)
        refine G.iast (g := 37) (i := 0) (n := 6) C dX6_isOrder_27 (by decide) rfl hin_27 w_ast_37 ?_
        refine G.iload_n C 2 dX6_isOrder_28 rfl rfl ?_
        refine G.bipush (v := 6) C dX6_isOrder_29 (by decide) ?_
        refine G.idiv C dX6_isOrder_31 (by decide) ?_
        refine G.topi (fun x2_32 ex2_32 => ?_)
        refine G.istore_n (L1 := [(2, .int x2_32), (4, .int (nI (n - t - 1))), (3, .int y3), (0, .ref (w.2.2.2.1 20 0)), (1, .int a)]) C dX6_isOrder_32 rfl (by decide) rfl ?_
        refine G.iload_n C 2 dX6_isOrder_33 rfl rfl ?_
        refine G.iload_n C 4 dX6_isOrder_34 rfl rfl ?_
        refine G.if_ge (tgt := 42) C dX6_isOrder_35 (by decide) (fun c_35 => ?_) (fun c_35 => ?_)
        · refine G.iconst (v := 1) C dX6_isOrder_42 (by decide) ?_
          refine G.aload_n C 3 dX6_isOrder_43 rfl rfl ?_
          refine G.get (g := 20) (i := 0) C 22 none dX6_isOrder_44 (by decide) rfl rfl uX_X6 (by decide) uf_RX6_58 rfl rfl ?_
          refine G.iload C 1 dX6_isOrder_47 rfl ?_
          have hin_49 : vp_in (nI (n - t - 1)) 6 := by
            exact vp_in_nI (by omega) (by decide)
          refine G.iald (g := 37) (i := 0) (n := 6) C dX6_isOrder_49 (by decide) rfl hin_49 ?_
          refine G.ishl C dX6_isOrder_50 ?_
          refine G.ior C dX6_isOrder_51 ?_
          refine G.topi (fun x3_52 ex3_52 => ?_)
          refine G.istore_n (L1 := [(3, .int x3_52), (2, .int x2_32), (4, .int (nI (n - t - 1))), (0, .ref (w.2.2.2.1 20 0)), (1, .int a)]) C dX6_isOrder_52 rfl (by decide) rfl ?_
          obtain ⟨x4_53, ex4_53⟩ : ∃ z : Int32, z = (nI (n - t - 1)) + (-1) := ⟨_, rfl⟩
          refine G.iinc (v := x4_53) (L1 := [(4, .int x4_53), (3, .int x3_52), (2, .int x2_32), (0, .ref (w.2.2.2.1 20 0)), (1, .int a)]) C 2 dX6_isOrder_53 rfl (by rw [ex4_53]; rfl) (by decide) rfl ?_
          refine G.goto (tgt := 12) C dX6_isOrder_56 (by decide) ?_
          refine ih_12  (t + 1) _ _ _ _ ?_ ?_ ?_ ?_ ?_
          · omega
          · omega
          · exact hfr.up
          · intro m e hm31
            have hv := hinv m e hm31
            subst e
            have hd6 : m / 6 ^ t % 6 < 6 := Nat.mod_lt _ (by decide)
            have hm6 : m / 6 ^ t ≤ m := Nat.div_le_self _ _
            have hrm : nI (m / 6 ^ t) - nI (m / 6 ^ t) / nI 6 * nI 6 = nI (m / 6 ^ t % 6) := pk_rem (by omega) (by decide) (by decide)
            refine ⟨?_, ?_, ?_⟩
            · rw [ex3_52, hv.1]
              show _ = nI (mkU (seU m t) (m / 6 ^ t % 6))
              rw [nI_clamp (show n - t - 1 < 2 ^ 31 by omega), wUp_eq, hv.2.1, show (6 : Int32) = nI 6 from rfl, hrm]
              exact (mk_bits _ (se_lt (n := n) (by omega)) _ hd6).2
            · rw [ex2_32, hv.2.1, show (6 : Int32) = nI 6 from rfl, pk_div (by omega) (by decide) (by decide), Nat.div_div_eq_div_mul, ← Nat.pow_succ]
            · intro i h1 h2
              rw [nI_clamp (by omega)]
              by_cases e : i = n - t - 1
              · subst e
                rw [wUp_eq, hv.2.1, show (6 : Int32) = nI 6 from rfl, hrm]
                unfold dg
                rw [show n - 1 - (n - t - 1) = t by omega]
              · rw [wUp_nk e]
                exact hv.2.2 i (by omega) h2
          · rw [ex4_53, show n - (t + 1) = n - t - 1 by omega]
            exact (Int32.sub_eq_add_neg _ _).symm
        · refine G.iconst (v := 0) C dX6_isOrder_38 (by decide) ?_
          refine G.goto (tgt := 51) C dX6_isOrder_39 (by decide) ?_
          refine G.ior C dX6_isOrder_51 ?_
          refine G.topi (fun x3_52 ex3_52 => ?_)
          refine G.istore_n (L1 := [(3, .int x3_52), (2, .int x2_32), (4, .int (nI (n - t - 1))), (0, .ref (w.2.2.2.1 20 0)), (1, .int a)]) C dX6_isOrder_52 rfl (by decide) rfl ?_
          obtain ⟨x4_53, ex4_53⟩ : ∃ z : Int32, z = (nI (n - t - 1)) + (-1) := ⟨_, rfl⟩
          refine G.iinc (v := x4_53) (L1 := [(4, .int x4_53), (3, .int x3_52), (2, .int x2_32), (0, .ref (w.2.2.2.1 20 0)), (1, .int a)]) C 2 dX6_isOrder_53 rfl (by rw [ex4_53]; rfl) (by decide) rfl ?_
          refine G.goto (tgt := 12) C dX6_isOrder_56 (by decide) ?_
          refine ih_12  (t + 1) _ _ _ _ ?_ ?_ ?_ ?_ ?_
          · omega
          · omega
          · exact hfr.up
          · intro m e hm31
            exact absurd (by rw [e]; exact nI_pos' hm31) c_35
          · rw [ex4_53, show n - (t + 1) = n - t - 1 by omega]
            exact (Int32.sub_eq_add_neg _ _).symm
  refine cut_12 (n + 1) 0 _ _ _ _ ?_ ?_ ?_ ?_ ?_
  · omega
  · omega
  · exact frG.rf
  · intro m e hm31
    refine ⟨rfl, ?_, fun i h1 h2 => ?_⟩
    · rw [e, Nat.pow_zero, Nat.div_one]
    · omega
  · rw [ex4_10, hn]
    rfl
set_option maxHeartbeats 4000000 in
set_option maxRecDepth 100000 in
theorem ok_X6_quarrelOf {w : wD} (hw : wOK w) (σ : wSt)  {n : Nat} {w9 : Nat → Nat → Nat → Nat} (hen : envM σ n w9) {m : Nat} (hok : ordOk n m) (hdg : ∀ i : Nat, i < n → σ.1 37 0 i = nI (dg n m i)) : MI w yX6_quarrelOf cX6_quarrelOf 7 (some .int) 1 22 [.ref (w.2.2.2.1 20 0)] σ (fun r τ => σ = τ ∧ r = nI (costN w9 n 0 none m)) := by
  have hn := hen.1
  have h6 := hen.2.1
  have h7 : n < 7 := by omega
  have h64 := pow_64 n h7
  have h0 := hok.1
  have e0 : σ.1 37 0 (0 : Int32).toNatClampNeg = nI (dg n m 0) := hdg 0 h0
  have hd0 : dg n m 0 < n := ord_dg h6 hok h0
  have hm0 := mk_fin n h7 0 (Nat.pow_pos (by decide)) (dg n m 0) hd0
  refine MI.of hw (by decide +kernel) (Nat.le_of_ble_eq_true rfl) (fun x C hr => ?_)
  suffices key : ∀ Q, Q = QI w x (fun r τ => σ = τ ∧ r = nI (costN w9 n 0 none m)) → G w x 7 Q 0 [(0, .ref (w.2.2.2.1 20 0))] [] σ from key _ rfl
  intro Q hQ
  refine G.iconst (v := 0) C dX6_quarrelOf_0 (by decide) ?_
  refine G.istore_n (L1 := [(1, .int 0), (0, .ref (w.2.2.2.1 20 0))]) C dX6_quarrelOf_1 rfl (by decide) rfl ?_
  refine G.aload_n C 1 dX6_quarrelOf_2 rfl rfl ?_
  refine G.get (g := 20) (i := 0) C 3 none dX6_quarrelOf_3 (by decide) rfl rfl uX_X6 (by decide) uf_RX6_7 rfl rfl ?_
  refine G.aload_n C 1 dX6_quarrelOf_6 rfl rfl ?_
  refine G.get (g := 20) (i := 0) C 22 none dX6_quarrelOf_7 (by decide) rfl rfl uX_X6 (by decide) uf_RX6_58 rfl rfl ?_
  refine G.iconst (v := 0) C dX6_quarrelOf_10 (by decide) ?_
  have hin_11 : vp_in 0 6 := by
    show vp_in (nI 0) 6
    exact vp_in_nI (by decide) (by decide)
  refine G.iald (g := 37) (i := 0) (n := 6) C dX6_quarrelOf_11 (by decide) rfl hin_11 ?_
  have hin_12 : vp_in (σ.1 37 0 (0 : Int32).toNatClampNeg) 6 := by
    rw [e0]
    exact vp_in_nI (by omega) (by decide)
  refine G.iald (g := 21) (i := 0) (n := 6) C dX6_quarrelOf_12 (by decide) rfl hin_12 ?_
  refine G.topi (fun x2_13 ex2_13 => ?_)
  refine G.istore_n (L1 := [(2, .int x2_13), (1, .int 0), (0, .ref (w.2.2.2.1 20 0))]) C dX6_quarrelOf_13 rfl (by decide) rfl ?_
  refine G.iconst (v := 1) C dX6_quarrelOf_14 (by decide) ?_
  refine G.istore_n (L1 := [(3, .int 1), (2, .int x2_13), (1, .int 0), (0, .ref (w.2.2.2.1 20 0))]) C dX6_quarrelOf_15 rfl (by decide) rfl ?_
  have cut_16 : ∀ (m9 : Nat) (i U s : Nat) (x3 x2 x1 : Int32), i < n → n < i + m9 → U < 2 ^ n → s + costN w9 (n - 1 - i) U (some (dg n m i)) (m % 6 ^ (n - 1 - i)) = costN w9 n 0 none m → x3 = nI (i + 1) → x2 = linesU (σ.1 21 0) (nI U) n → x1 = nI s → G w x 7 Q 16 [(3, .int x3), (2, .int x2), (1, .int x1), (0, .ref (w.2.2.2.1 20 0))] [] σ := by
    intro m9
    induction m9 with
    | zero =>
      intro i U s x3 x2 x1 hi hm hU hsm hx3 hx2 hx1
      exfalso
      omega
    | succ m9 ih_16 =>
      intro i U s x3 x2 x1 hi hm hU hsm hx3 hx2 hx1
      subst hx3
      subst hx2
      subst hx1
      have hd1 : dg n m i < n := ord_dg h6 hok hi
      have e8 : σ.1 37 0 (nI (i + 1) - 1).toNatClampNeg = nI (dg n m i) := by rw [nI_pred, nI_clamp (by omega)]; exact hdg i hi
      refine G.iload_n C 0 dX6_quarrelOf_16 rfl rfl ?_
      refine G.aload_n C 3 dX6_quarrelOf_17 rfl rfl ?_
      refine G.get (g := 20) (i := 0) C 2 none dX6_quarrelOf_18 (by decide) rfl rfl uX_X6 (by decide) uf_RX6_73 rfl rfl ?_
      refine G.icmp_ge (tgt := 124) C dX6_quarrelOf_21 (by decide) (fun c_21 => ?_) (fun c_21 => ?_)
      · have hin : n = i + 1 := by
          rw [hn, nI_leI (by omega) (by omega)] at c_21; omega
        refine G.iload_n C 2 dX6_quarrelOf_124 rfl rfl ?_
        subst hQ
        exact G.iret C hr dX6_quarrelOf_125 (by
            refine ⟨rfl, ?_⟩
            rw [← hsm, hin]
            simp [costN])
      · have hi1 : i + 1 < n := by
          rw [hn, nI_leI (by omega) (by omega)] at c_21; omega
        have hd2 : dg n m (i + 1) < n := ord_dg h6 hok hi1
        have e82 : σ.1 37 0 (nI (i + 1)).toNatClampNeg = nI (dg n m (i + 1)) := by rw [nI_clamp (by omega)]; exact hdg (i + 1) hi1
        have hmf := mk_fin n h7 U hU (dg n m (i + 1)) hd2
        refine G.aload_n C 3 dX6_quarrelOf_24 rfl rfl ?_
        refine G.get (g := 20) (i := 0) C 3 none dX6_quarrelOf_25 (by decide) rfl rfl uX_X6 (by decide) uf_RX6_7 rfl rfl ?_
        refine G.aload_n C 3 dX6_quarrelOf_28 rfl rfl ?_
        refine G.get (g := 20) (i := 0) C 22 none dX6_quarrelOf_29 (by decide) rfl rfl uX_X6 (by decide) uf_RX6_58 rfl rfl ?_
        refine G.iload_n C 0 dX6_quarrelOf_32 rfl rfl ?_
        refine G.iconst (v := 1) C dX6_quarrelOf_33 (by decide) ?_
        refine G.isub C dX6_quarrelOf_34 ?_
        have hin_35 : vp_in ((nI (i + 1)) - 1) 6 := by
          rw [nI_pred]
          exact vp_in_nI (by omega) (by decide)
        refine G.iald (g := 37) (i := 0) (n := 6) C dX6_quarrelOf_35 (by decide) rfl hin_35 ?_
        have hin_36 : vp_in (σ.1 37 0 ((nI (i + 1)) - 1).toNatClampNeg) 6 := by
          rw [e8]
          exact vp_in_nI (by omega) (by decide)
        refine G.iald (g := 21) (i := 0) (n := 6) C dX6_quarrelOf_36 (by decide) rfl hin_36 ?_
        refine G.topi (fun x4_37 ex4_37 => ?_)
        refine G.istore (L1 := [(4, .int x4_37), (3, .int (nI (i + 1))), (2, .int (linesU (σ.1 21 0) (nI U) n)), (1, .int (nI s)), (0, .ref (w.2.2.2.1 20 0))]) C dX6_quarrelOf_37 (by decide) rfl ?_
        refine G.aload_n C 4 dX6_quarrelOf_39 rfl rfl ?_
        refine G.get (g := 20) (i := 0) C 3 none dX6_quarrelOf_40 (by decide) rfl rfl uX_X6 (by decide) uf_RX6_7 rfl rfl ?_
        refine G.aload_n C 4 dX6_quarrelOf_43 rfl rfl ?_
        refine G.get (g := 20) (i := 0) C 22 none dX6_quarrelOf_44 (by decide) rfl rfl uX_X6 (by decide) uf_RX6_58 rfl rfl ?_
        refine G.iload_n C 1 dX6_quarrelOf_47 rfl rfl ?_
        have hin_48 : vp_in (nI (i + 1)) 6 := by
          exact vp_in_nI (by omega) (by decide)
        refine G.iald (g := 37) (i := 0) (n := 6) C dX6_quarrelOf_48 (by decide) rfl hin_48 ?_
        have hin_49 : vp_in (σ.1 37 0 (nI (i + 1)).toNatClampNeg) 6 := by
          rw [e82]
          exact vp_in_nI (by omega) (by decide)
        refine G.iald (g := 21) (i := 0) (n := 6) C dX6_quarrelOf_49 (by decide) rfl hin_49 ?_
        refine G.topi (fun x5_50 ex5_50 => ?_)
        refine G.istore (L1 := [(5, .int x5_50), (4, .int x4_37), (3, .int (nI (i + 1))), (2, .int (linesU (σ.1 21 0) (nI U) n)), (1, .int (nI s)), (0, .ref (w.2.2.2.1 20 0))]) C dX6_quarrelOf_50 (by decide) rfl ?_
        refine G.iload C 0 dX6_quarrelOf_52 rfl ?_
        refine G.iload C 1 dX6_quarrelOf_54 rfl ?_
        refine G.iconst (v := -1) C dX6_quarrelOf_56 (by decide) ?_
        refine G.ixor C dX6_quarrelOf_57 ?_
        refine G.iand C dX6_quarrelOf_58 ?_
        refine G.topi (fun x6_59 ex6_59 => ?_)
        refine G.istore (L1 := [(6, .int x6_59), (5, .int x5_50), (4, .int x4_37), (3, .int (nI (i + 1))), (2, .int (linesU (σ.1 21 0) (nI U) n)), (1, .int (nI s)), (0, .ref (w.2.2.2.1 20 0))]) C dX6_quarrelOf_59 (by decide) rfl ?_
        refine G.iload_n C 5 dX6_quarrelOf_61 rfl rfl ?_
        refine G.aload_n C 6 dX6_quarrelOf_62 rfl rfl ?_
        refine G.get (g := 20) (i := 0) C 6 none dX6_quarrelOf_63 (by decide) rfl rfl uX_X6 (by decide) uf_RX6_19 rfl rfl ?_
        refine G.iconst (v := 0) C dX6_quarrelOf_66 (by decide) ?_
        have hin_67 : vp_in 0 5 := by
          show vp_in (nI 0) 5
          exact vp_in_nI (by decide) (by decide)
        refine G.iald (g := 24) (i := 0) (n := 5) C dX6_quarrelOf_67 (by decide) rfl hin_67 ?_
        refine G.iload C 0 dX6_quarrelOf_68 rfl ?_
        refine G.iload_n C 4 dX6_quarrelOf_70 rfl rfl ?_
        refine G.iconst (v := -1) C dX6_quarrelOf_71 (by decide) ?_
        refine G.ixor C dX6_quarrelOf_72 ?_
        refine G.iand C dX6_quarrelOf_73 ?_
        have hM_0 := ok_X6_bits hw σ (x6_59 &&& ((linesU (σ.1 21 0) (nI U) n) ^^^ (-1)))
        refine G.callS C none hM_0 dX6_quarrelOf_74 us_X6_bits ul_RX6_76 rfl rfl (by decide) (Nat.le_of_ble_eq_true rfl) (fun r_74 τ_74 h_74 => ?_)
        obtain ⟨h_74, e_74⟩ := h_74; subst h_74
        refine G.imul C dX6_quarrelOf_77 ?_
        refine G.aload_n C 6 dX6_quarrelOf_78 rfl rfl ?_
        refine G.get (g := 20) (i := 0) C 6 none dX6_quarrelOf_79 (by decide) rfl rfl uX_X6 (by decide) uf_RX6_19 rfl rfl ?_
        refine G.iconst (v := 2) C dX6_quarrelOf_82 (by decide) ?_
        have hin_83 : vp_in 2 5 := by
          show vp_in (nI 2) 5
          exact vp_in_nI (by decide) (by decide)
        refine G.iald (g := 24) (i := 0) (n := 5) C dX6_quarrelOf_83 (by decide) rfl hin_83 ?_
        refine G.iload C 0 dX6_quarrelOf_84 rfl ?_
        refine G.iload_n C 4 dX6_quarrelOf_86 rfl rfl ?_
        refine G.iand C dX6_quarrelOf_87 ?_
        have hM_1 := ok_X6_bits hw σ (x6_59 &&& (linesU (σ.1 21 0) (nI U) n))
        refine G.callS C none hM_1 dX6_quarrelOf_88 us_X6_bits ul_RX6_76 rfl rfl (by decide) (Nat.le_of_ble_eq_true rfl) (fun r_88 τ_88 h_88 => ?_)
        obtain ⟨h_88, e_88⟩ := h_88; subst h_88
        refine G.imul C dX6_quarrelOf_91 ?_
        refine G.iadd C dX6_quarrelOf_92 ?_
        refine G.aload_n C 6 dX6_quarrelOf_93 rfl rfl ?_
        refine G.get (g := 20) (i := 0) C 6 none dX6_quarrelOf_94 (by decide) rfl rfl uX_X6 (by decide) uf_RX6_19 rfl rfl ?_
        refine G.iconst (v := 1) C dX6_quarrelOf_97 (by decide) ?_
        have hin_98 : vp_in 1 5 := by
          show vp_in (nI 1) 5
          exact vp_in_nI (by decide) (by decide)
        refine G.iald (g := 24) (i := 0) (n := 5) C dX6_quarrelOf_98 (by decide) rfl hin_98 ?_
        refine G.iload C 2 dX6_quarrelOf_99 rfl ?_
        refine G.iload C 1 dX6_quarrelOf_101 rfl ?_
        refine G.iconst (v := -1) C dX6_quarrelOf_103 (by decide) ?_
        refine G.ixor C dX6_quarrelOf_104 ?_
        refine G.iand C dX6_quarrelOf_105 ?_
        have hM_2 := ok_X6_bits hw σ (x4_37 &&& (x5_50 ^^^ (-1)))
        refine G.callS C none hM_2 dX6_quarrelOf_106 us_X6_bits ul_RX6_76 rfl rfl (by decide) (Nat.le_of_ble_eq_true rfl) (fun r_106 τ_106 h_106 => ?_)
        obtain ⟨h_106, e_106⟩ := h_106; subst h_106
        refine G.imul C dX6_quarrelOf_109 ?_
        refine G.iadd C dX6_quarrelOf_110 ?_
        refine G.iadd C dX6_quarrelOf_111 ?_
        refine G.topi (fun x1_112 ex1_112 => ?_)
        refine G.istore_n (L1 := [(1, .int x1_112), (6, .int x6_59), (5, .int x5_50), (4, .int x4_37), (3, .int (nI (i + 1))), (2, .int (linesU (σ.1 21 0) (nI U) n)), (0, .ref (w.2.2.2.1 20 0))]) C dX6_quarrelOf_112 rfl (by decide) rfl ?_
        refine G.iload_n C 5 dX6_quarrelOf_113 rfl rfl ?_
        refine G.iload C 2 dX6_quarrelOf_114 rfl ?_
        refine G.ior C dX6_quarrelOf_116 ?_
        refine G.topi (fun x2_117 ex2_117 => ?_)
        refine G.istore_n (L1 := [(2, .int x2_117), (1, .int x1_112), (6, .int x6_59), (5, .int x5_50), (4, .int x4_37), (3, .int (nI (i + 1))), (0, .ref (w.2.2.2.1 20 0))]) C dX6_quarrelOf_117 rfl (by decide) rfl ?_
        obtain ⟨x3_118, ex3_118⟩ : ∃ z : Int32, z = (nI (i + 1)) + 1 := ⟨_, rfl⟩
        refine G.iinc (v := x3_118) (L1 := [(3, .int x3_118), (2, .int x2_117), (1, .int x1_112), (6, .int x6_59), (5, .int x5_50), (4, .int x4_37), (0, .ref (w.2.2.2.1 20 0))]) C 5 dX6_quarrelOf_118 rfl (by rw [ex3_118]; rfl) (by decide) rfl ?_
        refine G.goto (tgt := 16) C dX6_quarrelOf_121 (by decide) ?_
        refine G.sub (L1 := [(3, .int x3_118), (2, .int x2_117), (1, .int x1_112), (0, .ref (w.2.2.2.1 20 0))]) [0, 1, 2, 6] rfl ?_
        refine ih_16  (i + 1) (mkU U (dg n m (i + 1))) (s + w9 U (dg n m i) (dg n m (i + 1))) _ _ _ ?_ ?_ ?_ ?_ ?_ ?_ ?_
        · exact hi1
        · omega
        · exact hmf.2.1
        · rw [← hsm, cost_step hi1, Nat.add_assoc]
        · rw [ex3_118]; exact nI_1 (i + 1)
        · rw [ex2_117, ex5_50, e82, nI_clamp (by omega), lines_mk (by omega) (by omega) n h6, if_pos hd2]
        · have hst := (hen.2.2.2 U _ _ hU hd1 hd2).1
          unfold stepF at hst
          rw [ex1_112, e_74, e_88, e_106, ex6_59, ex5_50, ex4_37, e8, e82, nI_clamp (show dg n m i < 2 ^ 31 by omega), nI_clamp (show dg n m (i + 1) < 2 ^ 31 by omega), ← nI_add, ← hst]
          simp only [Int32.mul_comm]
          rfl
  refine cut_16 (n + 1) 0 (mkU 0 (dg n m 0)) 0 _ _ _ ?_ ?_ ?_ ?_ ?_ ?_ ?_
  · omega
  · omega
  · exact hm0.2.1
  · rw [Nat.zero_add]
    exact cost_first h0 hok.2.1
  · rfl
  · rw [ex2_13, e0, nI_clamp (by omega), lines_mk (by decide) (by omega) n h6, if_pos hd0, show nI 0 = (0 : Int32) from rfl, lines_0 n h6, Int32.zero_or]
  · rfl
