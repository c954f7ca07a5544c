set_option maxHeartbeats 4000000 in
set_option maxRecDepth 100000 in
theorem ok_X3_quarrelOf {w : wD} (hw : wOK w) (σ : wSt) (a : Int32) {n : Nat} {w9 : Nat → Nat → Nat → Nat} (hen : envC σ n w9) : MI w yX3_quarrelOf cX3_quarrelOf 5 (some .int) 2 46 [.ref (w.2.2.2.1 1 0), .int a] σ (fun r τ => frG 8 σ τ ∧ ((∃ m : Nat, a = nI m ∧ ordOk n m ∧ r = nI (costN w9 n 0 none m)) ∨ (¬ (∃ m : Nat, a = nI m ∧ ordOk n m) ∧ r = -1))) := by
  have hn := hen.1
  have h6 := hen.2.1
  have h7 : n < 7 := by omega
  have h64 := pow_64 n h7
  refine MI.of hw (by decide +kernel) (Nat.le_of_ble_eq_true rfl) (fun x C hr => ?_)
  suffices key : ∀ Q, Q = QI w x (fun r τ => frG 8 σ τ ∧ ((∃ m : Nat, a = nI m ∧ ordOk n m ∧ r = nI (costN w9 n 0 none m)) ∨ (¬ (∃ m : Nat, a = nI m ∧ ordOk n m) ∧ r = -1))) → G w x 5 Q 0 [(0, .ref (w.2.2.2.1 1 0)), (1, .int a)] [] σ from key _ rfl
  intro Q hQ
  refine G.aload_n C 0 dX3_quarrelOf_0 rfl rfl ?_
  refine G.iload_n C 1 dX3_quarrelOf_1 rfl rfl ?_
  have hM_0 := ok_X3_readOrder hw σ a hn h6
  refine G.callV C (g := 1) (i := 0) none hM_0 dX3_quarrelOf_2 (by decide) rfl rfl rfl uv_X3_readOrder ul_RX3_47 rfl rfl (by decide) (Nat.le_of_ble_eq_true rfl) (fun r_2 τ_2 h_2 => ?_)
  refine G.if_ne (tgt := 10) C dX3_quarrelOf_5 (by decide) (fun c_5 => ?_) (fun c_5 => ?_)
  · obtain ⟨m, rfl, hm31, hok, hdg⟩ : ∃ m : Nat, a = nI m ∧ m < 2 ^ 31 ∧ ordOk n m ∧ ∀ i : Nat, i < n → τ_2.1 8 0 i = nI (dg n m i) := by
      rcases h_2.2 with z | z
      · exact z.2
      · exact absurd z.1 c_5
    refine G.iconst (v := 0) C dX3_quarrelOf_10 (by decide) ?_
    refine G.istore_n (L1 := [(2, .int 0), (0, .ref (w.2.2.2.1 1 0)), (1, .int (nI m))]) C dX3_quarrelOf_11 rfl (by decide) rfl ?_
    refine G.iconst (v := 0) C dX3_quarrelOf_12 (by decide) ?_
    refine G.istore_n (L1 := [(3, .int 0), (2, .int 0), (0, .ref (w.2.2.2.1 1 0)), (1, .int (nI m))]) C dX3_quarrelOf_13 rfl (by decide) rfl ?_
    refine G.iconst (v := 0) C dX3_quarrelOf_14 (by decide) ?_
    refine G.istore (L1 := [(4, .int 0), (3, .int 0), (2, .int 0), (0, .ref (w.2.2.2.1 1 0)), (1, .int (nI m))]) C dX3_quarrelOf_15 (by decide) rfl ?_
    have cut_17 : ∀ (m9 : Nat) (i u s : Nat) (x4 x3 x2 : Int32), i < n → n < i + m9 → u < 2 ^ n → s + costN w9 (n - 1 - i) (mkU u (dg n m i)) (some (dg n m i)) (m % 6 ^ (n - 1 - i)) = costN w9 n 0 none m → x4 = nI i → x3 = linesU (τ_2.1 6 0) (nI u) n → x2 = nI s → G w x 5 Q 17 [(4, .int x4), (3, .int x3), (2, .int x2), (0, .ref (w.2.2.2.1 1 0)), (1, .int (nI m))] [] τ_2 := by
      intro m9
      induction m9 with
      | zero =>
        intro i u s x4 x3 x2 hi hm hu2 hsm hx4 hx3 hx2
        exfalso
        omega
      | succ m9 ih_17 =>
        intro i u s x4 x3 x2 hi hm hu2 hsm hx4 hx3 hx2
        subst hx4
        subst hx3
        subst hx2
        have hd1 : dg n m i < n := ord_dg h6 hok hi
        have e8 : τ_2.1 8 0 (nI i).toNatClampNeg = nI (dg n m i) := by rw [nI_clamp (by omega)]; exact hdg i hi
        refine G.iload C 0 dX3_quarrelOf_17 rfl ?_
        refine G.iconst (v := 1) C dX3_quarrelOf_19 (by decide) ?_
        refine G.iadd C dX3_quarrelOf_20 ?_
        refine G.aload_n C 3 dX3_quarrelOf_21 rfl rfl ?_
        refine G.get (g := 1) (i := 0) C 5 none dX3_quarrelOf_22 (by decide) rfl rfl uX_X3 (by decide) uf_RX3_31 rfl rfl ?_
        refine G.icmp_ge (tgt := 83) C dX3_quarrelOf_25 (by decide) (fun c_25 => ?_) (fun c_25 => ?_)
        · have hin : n = i + 1 := by
            rw [h_2.1.1 1 (by decide), hn, show (1 : Int32) = nI 1 from rfl, nI_add, nI_leI (by omega) (by omega)] at c_25; omega
          refine G.iload_n C 2 dX3_quarrelOf_83 rfl rfl ?_
          subst hQ
          exact G.iret C hr dX3_quarrelOf_84 (by
              refine ⟨h_2.1, Or.inl ⟨m, rfl, hok, ?_⟩⟩
              rw [← hsm, hin]
              simp [costN])
        · have hi1 : i + 1 < n := by
            rw [h_2.1.1 1 (by decide), hn, show (1 : Int32) = nI 1 from rfl, nI_add, nI_leI (by omega) (by omega)] at c_25; omega
          have hd2 : dg n m (i + 1) < n := ord_dg h6 hok hi1
          have e82 : τ_2.1 8 0 (nI i + 1).toNatClampNeg = nI (dg n m (i + 1)) := by rw [show (1 : Int32) = nI 1 from rfl, nI_add, nI_clamp (by omega)]; exact hdg (i + 1) hi1
          have hmf := mk_fin n h7 u hu2 (dg n m i) hd1
          refine G.iload_n C 1 dX3_quarrelOf_28 rfl rfl ?_
          refine G.aload_n C 3 dX3_quarrelOf_29 rfl rfl ?_
          refine G.get (g := 1) (i := 0) C 3 none dX3_quarrelOf_30 (by decide) rfl rfl uX_X3 (by decide) uf_RX3_21 rfl rfl ?_
          refine G.aload_n C 3 dX3_quarrelOf_33 rfl rfl ?_
          refine G.get (g := 1) (i := 0) C 6 none dX3_quarrelOf_34 (by decide) rfl rfl uX_X3 (by decide) uf_RX3_34 rfl rfl ?_
          refine G.iload C 0 dX3_quarrelOf_37 rfl ?_
          have hin_39 : vp_in (nI i) 6 := by
            exact vp_in_nI (by omega) (by decide)
          refine G.iald (g := 8) (i := 0) (n := 6) C dX3_quarrelOf_39 (by decide) rfl hin_39 ?_
          have hin_40 : vp_in (τ_2.1 8 0 (nI i).toNatClampNeg) 6 := by
            rw [e8]
            exact vp_in_nI (by omega) (by decide)
          refine G.iald (g := 6) (i := 0) (n := 6) C dX3_quarrelOf_40 (by decide) rfl hin_40 ?_
          refine G.ior C dX3_quarrelOf_41 ?_
          refine G.topi (fun x3_42 ex3_42 => ?_)
          refine G.istore_n (L1 := [(3, .int x3_42), (4, .int (nI i)), (2, .int (nI s)), (0, .ref (w.2.2.2.1 1 0)), (1, .int (nI m))]) C dX3_quarrelOf_42 rfl (by decide) rfl ?_
          refine G.iload_n C 2 dX3_quarrelOf_43 rfl rfl ?_
          refine G.aload_n C 3 dX3_quarrelOf_44 rfl rfl ?_
          refine G.iload_n C 0 dX3_quarrelOf_45 rfl rfl ?_
          refine G.aload_n C 3 dX3_quarrelOf_46 rfl rfl ?_
          refine G.get (g := 1) (i := 0) C 3 none dX3_quarrelOf_47 (by decide) rfl rfl uX_X3 (by decide) uf_RX3_21 rfl rfl ?_
          refine G.aload_n C 3 dX3_quarrelOf_50 rfl rfl ?_
          refine G.get (g := 1) (i := 0) C 6 none dX3_quarrelOf_51 (by decide) rfl rfl uX_X3 (by decide) uf_RX3_34 rfl rfl ?_
          refine G.iload C 1 dX3_quarrelOf_54 rfl ?_
          have hin_56 : vp_in (nI i) 6 := by
            exact vp_in_nI (by omega) (by decide)
          refine G.iald (g := 8) (i := 0) (n := 6) C dX3_quarrelOf_56 (by decide) rfl hin_56 ?_
          have hin_57 : vp_in (τ_2.1 8 0 (nI i).toNatClampNeg) 6 := by
            rw [e8]
            exact vp_in_nI (by omega) (by decide)
          refine G.iald (g := 6) (i := 0) (n := 6) C dX3_quarrelOf_57 (by decide) rfl hin_57 ?_
          refine G.aload_n C 3 dX3_quarrelOf_58 rfl rfl ?_
          refine G.get (g := 1) (i := 0) C 3 none dX3_quarrelOf_59 (by decide) rfl rfl uX_X3 (by decide) uf_RX3_21 rfl rfl ?_
          refine G.aload_n C 3 dX3_quarrelOf_62 rfl rfl ?_
          refine G.get (g := 1) (i := 0) C 6 none dX3_quarrelOf_63 (by decide) rfl rfl uX_X3 (by decide) uf_RX3_34 rfl rfl ?_
          refine G.iload C 1 dX3_quarrelOf_66 rfl ?_
          refine G.iconst (v := 1) C dX3_quarrelOf_68 (by decide) ?_
          refine G.iadd C dX3_quarrelOf_69 ?_
          have hin_70 : vp_in ((nI i) + 1) 6 := by
            rw [show (1 : Int32) = nI 1 from rfl, nI_add]
            exact vp_in_nI (by omega) (by decide)
          refine G.iald (g := 8) (i := 0) (n := 6) C dX3_quarrelOf_70 (by decide) rfl hin_70 ?_
          have hin_71 : vp_in (τ_2.1 8 0 ((nI i) + 1).toNatClampNeg) 6 := by
            rw [e82]
            exact vp_in_nI (by omega) (by decide)
          refine G.iald (g := 6) (i := 0) (n := 6) C dX3_quarrelOf_71 (by decide) rfl hin_71 ?_
          have hM_1 := ok_X3_stepQuarrel hw τ_2 x3_42 (τ_2.1 6 0 (τ_2.1 8 0 (nI i).toNatClampNeg).toNatClampNeg) (τ_2.1 6 0 (τ_2.1 8 0 ((nI i) + 1).toNatClampNeg).toNatClampNeg) (by
              rw [e8]
              exact (hen.to (h_2.1.1 1 (by decide)) (h_2.1.1 6 (by decide))).2.2.1 _ (by rw [nI_clamp (show dg n m i < 2 ^ 31 by omega)]; omega)) (by
              rw [e82]
              exact (hen.to (h_2.1.1 1 (by decide)) (h_2.1.1 6 (by decide))).2.2.1 _ (by rw [nI_clamp (show dg n m (i + 1) < 2 ^ 31 by omega)]; omega))
          refine G.callV C (g := 1) (i := 0) none hM_1 dX3_quarrelOf_72 (by decide) rfl rfl rfl uv_X3_stepQuarrel ul_RX3_51 rfl rfl (by decide) (Nat.le_of_ble_eq_true rfl) (fun r_72 τ_72 h_72 => ?_)
          obtain ⟨h_72, e_72⟩ := h_72; subst h_72
          refine G.iadd C dX3_quarrelOf_75 ?_
          refine G.topi (fun x2_76 ex2_76 => ?_)
          refine G.istore_n (L1 := [(2, .int x2_76), (3, .int x3_42), (4, .int (nI i)), (0, .ref (w.2.2.2.1 1 0)), (1, .int (nI m))]) C dX3_quarrelOf_76 rfl (by decide) rfl ?_
          obtain ⟨x4_77, ex4_77⟩ : ∃ z : Int32, z = (nI i) + 1 := ⟨_, rfl⟩
          refine G.iinc (v := x4_77) (L1 := [(4, .int x4_77), (2, .int x2_76), (3, .int x3_42), (0, .ref (w.2.2.2.1 1 0)), (1, .int (nI m))]) C 2 dX3_quarrelOf_77 rfl (by rw [ex4_77]; rfl) (by decide) rfl ?_
          refine G.goto (tgt := 17) C dX3_quarrelOf_80 (by decide) ?_
          refine G.sub (L1 := [(4, .int x4_77), (3, .int x3_42), (2, .int x2_76), (0, .ref (w.2.2.2.1 1 0)), (1, .int (nI m))]) [0, 2, 1, 3, 4] rfl ?_
          refine ih_17  (i + 1) (mkU u (dg n m i)) (s + w9 (mkU u (dg n m i)) (dg n m i) (dg n m (i + 1))) _ _ _ ?_ ?_ ?_ ?_ ?_ ?_ ?_
          · exact hi1
          · omega
          · exact hmf.2.1
          · rw [← hsm, cost_step hi1, Nat.add_assoc]
          · rw [ex4_77]; exact nI_1 i
          · rw [ex3_42, e8, nI_clamp (show dg n m i < 2 ^ 31 by omega), lines_mk (by omega) (by omega) n h6, if_pos hd1]
          · have hx3 : linesU (τ_2.1 6 0) (nI u) n ||| τ_2.1 6 0 (dg n m i) = linesU (τ_2.1 6 0) (nI (mkU u (dg n m i))) n := by rw [lines_mk (by omega) (by omega) n h6, if_pos hd1]
            rw [ex2_76, e_72, ex3_42, e8, e82, nI_clamp (show dg n m i < 2 ^ 31 by omega), nI_clamp (show dg n m (i + 1) < 2 ^ 31 by omega), hx3, ((hen.to (h_2.1.1 1 (by decide)) (h_2.1.1 6 (by decide))).2.2.2 _ _ _ hmf.2.1 hd1 hd2).1, nI_add]
    refine cut_17 (n + 1) 0 0 0 _ _ _ ?_ ?_ ?_ ?_ ?_ ?_ ?_
    · exact hok.1
    · omega
    · exact Nat.pow_pos (by decide)
    · rw [Nat.zero_add]
      exact cost_first hok.1 hok.2.1
    · rfl
    · exact (lines_0 n h6).symm
    · rfl
  · refine G.iconst (v := -1) C dX3_quarrelOf_8 (by decide) ?_
    subst hQ
    exact G.iret C hr dX3_quarrelOf_9 (by
        refine ⟨h_2.1, Or.inr ⟨?_, rfl⟩⟩
        rcases h_2.2 with z | z
        · exact absurd (show r_2 = 0 by simpa using c_5) (by rw [z.1]; decide)
        · exact z.2)
set_option maxHeartbeats 4000000 in
set_option maxRecDepth 100000 in
theorem ok_X5_quarrel {w : wD} (hw : wOK w) (σ : wSt) (a : Int32) {n : Nat} {w9 : Nat → Nat → Nat → Nat} (hen : envC σ n w9) : MI w yX5_quarrel cX5_quarrel 2 (some .int) 3 70 [.ref (w.2.2.2.1 0 0), .int a] σ (fun r τ => frG 8 σ τ ∧ ((∃ m : Nat, a = nI m ∧ ordOk n m ∧ r = nI (costN w9 n 0 none m)) ∨ (¬ (∃ m : Nat, a = nI m ∧ ordOk n m) ∧ r = -1))) := by
  have hn := hen.1
  have h6 := hen.2.1
  have h7 : n < 7 := by omega
  have h64 := pow_64 n h7
  refine MI.of hw (by decide +kernel) (Nat.le_of_ble_eq_true rfl) (fun x C hr => ?_)
  suffices key : ∀ Q, Q = QI w x (fun r τ => frG 8 σ τ ∧ ((∃ m : Nat, a = nI m ∧ ordOk n m ∧ r = nI (costN w9 n 0 none m)) ∨ (¬ (∃ m : Nat, a = nI m ∧ ordOk n m) ∧ r = -1))) → G w x 2 Q 0 [(0, .ref (w.2.2.2.1 0 0)), (1, .int a)] [] σ from key _ rfl
  intro Q hQ
  refine G.aload_n C 0 dX5_quarrel_0 rfl rfl ?_
  refine G.get (g := 0) (i := 0) C 0 none dX5_quarrel_1 (by decide) rfl rfl uX_X5 (by decide) uf_RX5_10 rfl rfl ?_
  refine G.iload_n C 1 dX5_quarrel_4 rfl rfl ?_
  have hM_0 := ok_X3_quarrelOf hw σ a hen
  refine G.callV C (g := 1) (i := 0) (some "PlateRoom") hM_0 dX5_quarrel_5 (by decide) rfl rfl rfl uv_X3_quarrelOf unm_RX5_94 rfl rfl (by decide) (Nat.le_of_ble_eq_true rfl) (fun r_5 τ_5 h_5 => ?_)
  subst hQ
  exact G.iret C hr dX5_quarrel_8 (by
      simp_all)
