set_option maxHeartbeats 4000000 in
set_option maxRecDepth 100000 in
theorem ok_X6_map {w : wD} (hw : wOK w) (σ : wSt) (a b : Int32) (hz : σ.1 20 0 0 = 0) {c : Nat} (hc : σ.1 20 0 17 = nI c) (hc8 : c ≤ 8) : MI w yX6_map cX6_map 3 (some .int) 1 22 [.ref (w.2.2.2.1 20 0), .int a, .int b] σ (fun r τ => (¬ (okY a ∧ rng12 b) ∧ σ = τ ∧ r = -1) ∨ ((okY a ∧ rng12 b) ∧ ((8 ≤ c ∧ σ = τ ∧ r = -3) ∨ (c < 8 ∧ wUp (wUp (wUp σ 33 0 c a) 34 0 c b) 20 0 17 (nI (c + 1)) = τ ∧ r = nI c)))) := by
  refine MI.of hw (by decide +kernel) (Nat.le_of_ble_eq_true rfl) (fun x C hr => ?_)
  suffices key : ∀ Q, Q = QI w x (fun r τ => (¬ (okY a ∧ rng12 b) ∧ σ = τ ∧ r = -1) ∨ ((okY a ∧ rng12 b) ∧ ((8 ≤ c ∧ σ = τ ∧ r = -3) ∨ (c < 8 ∧ wUp (wUp (wUp σ 33 0 c a) 34 0 c b) 20 0 17 (nI (c + 1)) = τ ∧ r = nI c)))) → G w x 3 Q 0 [(0, .ref (w.2.2.2.1 20 0)), (1, .int a), (2, .int b)] [] σ from key _ rfl
  intro Q hQ
  refine G.aload_n C 0 dX6_map_0 rfl rfl ?_
  refine G.iconst (v := 0) C dX6_map_1 (by decide) ?_
  refine G.put (g := 20) (i := 0) C 0 none dX6_map_2 (by decide) rfl rfl uX_X6 tyX6 tyX6_ok nmX6 (by decide) uf_RX6_61 rfl rfl (by decide +kernel) (Nat.le_of_ble_eq_true rfl) w_up_20_0 ?_
  rw [wUp_id hz]
  refine G.iload_n C 1 dX6_map_5 rfl rfl ?_
  refine G.sipush (v := 1500) C dX6_map_6 (by decide) ?_
  refine G.sipush (v := 1900) C dX6_map_9 (by decide) ?_
  have hM_0 := ok_X6_in hw σ a 1500 1900
  refine G.callS C none hM_0 dX6_map_12 us_X6_in ul_RX6_65 rfl rfl (by decide) (Nat.le_of_ble_eq_true rfl) (fun r_12 τ_12 h_12 => ?_)
  obtain ⟨h_12, e_12⟩ := h_12; subst h_12
  refine G.if_eq (tgt := 29) C dX6_map_15 (by decide) (fun c_15 => ?_) (fun c_15 => ?_)
  · have b_12 := wb_0 e_12 c_15
    refine G.iconst (v := -1) C dX6_map_29 (by decide) ?_
    subst hQ
    exact G.iret C hr dX6_map_30 (by
        refine Or.inl ⟨fun q => ?_, rfl, rfl⟩
        first | exact b_12 q.1 | exact b_23 q.2)
  · have b_12 := wb_1 e_12 c_15
    refine G.iload_n C 2 dX6_map_18 rfl rfl ?_
    refine G.iconst (v := 0) C dX6_map_19 (by decide) ?_
    refine G.sipush (v := 4095) C dX6_map_20 (by decide) ?_
    have hM_1 := ok_X6_in hw σ b 0 4095
    refine G.callS C none hM_1 dX6_map_23 us_X6_in ul_RX6_65 rfl rfl (by decide) (Nat.le_of_ble_eq_true rfl) (fun r_23 τ_23 h_23 => ?_)
    obtain ⟨h_23, e_23⟩ := h_23; subst h_23
    refine G.if_ne (tgt := 31) C dX6_map_26 (by decide) (fun c_26 => ?_) (fun c_26 => ?_)
    · have b_23 := wb_1 e_23 c_26
      refine G.aload_n C 0 dX6_map_31 rfl rfl ?_
      refine G.get (g := 20) (i := 0) C 17 none dX6_map_32 (by decide) rfl rfl uX_X6 (by decide) uf_RX6_108 rfl rfl ?_
      refine G.bipush (v := 8) C dX6_map_35 (by decide) ?_
      refine G.icmp_ne (tgt := 43) C dX6_map_37 (by decide) (fun c_37 => ?_) (fun c_37 => ?_)
      · have hh9 : c < 8 := by
          refine seven (by omega) (fun q => c_37 ?_)
          rw [hc, q]; rfl
        refine G.aload_n C 0 dX6_map_43 rfl rfl ?_
        refine G.get (g := 20) (i := 0) C 18 none dX6_map_44 (by decide) rfl rfl uX_X6 (by decide) uf_RX6_46 rfl rfl ?_
        refine G.aload_n C 0 dX6_map_47 rfl rfl ?_
        refine G.get (g := 20) (i := 0) C 17 none dX6_map_48 (by decide) rfl rfl uX_X6 (by decide) uf_RX6_108 rfl rfl ?_
        refine G.iload_n C 1 dX6_map_51 rfl rfl ?_
        have hin_52 : vp_in (σ.1 20 0 17) 8 := by
          simp only [hc]
          exact vp_in_nI (by omega) (by decide)
        refine G.iast (g := 33) (i := 0) (n := 8) C dX6_map_52 (by decide) rfl hin_52 w_ast_33 ?_
        refine G.aload_n C 0 dX6_map_53 rfl rfl ?_
        refine G.get (g := 20) (i := 0) C 19 none dX6_map_54 (by decide) rfl rfl uX_X6 (by decide) uf_RX6_49 rfl rfl ?_
        refine G.aload_n C 0 dX6_map_57 rfl rfl ?_
        refine G.get (g := 20) (i := 0) C 17 none dX6_map_58 (by decide) rfl rfl uX_X6 (by decide) uf_RX6_108 rfl rfl ?_
        refine G.iload_n C 2 dX6_map_61 rfl rfl ?_
        have hin_62 : vp_in ((wUp σ 33 0 (σ.1 20 0 17).toNatClampNeg a).1 20 0 17) 8 := by
          simp only [wUp_ng (show 20 ≠ 33 by decide), hc]
          exact vp_in_nI (by omega) (by decide)
        refine G.iast (g := 34) (i := 0) (n := 8) C dX6_map_62 (by decide) rfl hin_62 w_ast_34 ?_
        refine G.aload_n C 0 dX6_map_63 rfl rfl ?_
        refine G.dup C dX6_map_64 rfl ?_
        refine G.get (g := 20) (i := 0) C 17 none dX6_map_65 (by decide) rfl rfl uX_X6 (by decide) uf_RX6_108 rfl rfl ?_
        refine G.iconst (v := 1) C dX6_map_68 (by decide) ?_
        refine G.iadd C dX6_map_69 ?_
        refine G.put (g := 20) (i := 0) C 17 none dX6_map_70 (by decide) rfl rfl uX_X6 tyX6 tyX6_ok nmX6 (by decide) uf_RX6_108 rfl rfl (by decide +kernel) (Nat.le_of_ble_eq_true rfl) w_up_20_17 ?_
        refine G.aload_n C 0 dX6_map_73 rfl rfl ?_
        refine G.get (g := 20) (i := 0) C 17 none dX6_map_74 (by decide) rfl rfl uX_X6 (by decide) uf_RX6_108 rfl rfl ?_
        refine G.iconst (v := 1) C dX6_map_77 (by decide) ?_
        refine G.isub C dX6_map_78 ?_
        subst hQ
        exact G.iret C hr dX6_map_79 (by
            refine Or.inr ⟨⟨b_12, b_23⟩, Or.inr ⟨hh9, ?_, ?_⟩⟩
            · simp only [wUp_ng (show 20 ≠ 33 by decide), wUp_ng (show 20 ≠ 34 by decide), wUp_eq, hc, nI_clamp (show c < 2 ^ 31 by omega), nI_1, nI_pred]
            · simp only [wUp_ng (show 20 ≠ 33 by decide), wUp_ng (show 20 ≠ 34 by decide), wUp_eq, hc, nI_clamp (show c < 2 ^ 31 by omega), nI_1, nI_pred])
      · have hh9 : 8 ≤ c := by
          rw [hc, show (8 : Int32) = nI 8 from rfl, nI_eq (by omega) (by decide)] at c_37
          omega
        refine G.bipush (v := -3) C dX6_map_40 (by decide) ?_
        subst hQ
        exact G.iret C hr dX6_map_42 (by
            exact Or.inr ⟨⟨b_12, b_23⟩, Or.inl ⟨hh9, rfl, rfl⟩⟩)
    · have b_23 := wb_0 e_23 c_26
      refine G.iconst (v := -1) C dX6_map_29 (by decide) ?_
      subst hQ
      exact G.iret C hr dX6_map_30 (by
          refine Or.inl ⟨fun q => ?_, rfl, rfl⟩
          first | exact b_12 q.1 | exact b_23 q.2)
set_option maxHeartbeats 4000000 in
set_option maxRecDepth 100000 in
theorem ok_X6_costOf {w : wD} (hw : wOK w) (σ : wSt) (a b : Int32) {c : Nat} (hc : σ.1 20 0 17 = nI c) (hc8 : c ≤ 8) (hE : ∀ k, k < c → rng12 (σ.1 34 0 k)) (ha : inN (σ.1 20 0 17) a) (hb9 : b = -9 ∨ inN (σ.1 20 0 17) b) : MI w yX6_costOf cX6_costOf 3 (some .int) 1 22 [.ref (w.2.2.2.1 20 0), .int a, .int b] σ (fun r τ => σ = τ ∧ r = costU (σ.1 34 0) (σ.1 24 0 3) (σ.1 24 0 4) (σ.1 20 0 17) a b) := by
  refine MI.of hw (by decide +kernel) (Nat.le_of_ble_eq_true rfl) (fun x C hr => ?_)
  suffices key : ∀ Q, Q = QI w x (fun r τ => σ = τ ∧ r = costU (σ.1 34 0) (σ.1 24 0 3) (σ.1 24 0 4) (σ.1 20 0 17) a b) → G w x 3 Q 0 [(0, .ref (w.2.2.2.1 20 0)), (1, .int a), (2, .int b)] [] σ from key _ rfl
  intro Q hQ
  refine G.iload_n C 2 dX6_costOf_0 rfl rfl ?_
  refine G.bipush (v := -9) C dX6_costOf_1 (by decide) ?_
  refine G.icmp_ne (tgt := 23) C dX6_costOf_3 (by decide) (fun c_3 => ?_) (fun c_3 => ?_)
  · have hib : inN (σ.1 20 0 17) b := hb9.elim (fun q => absurd q c_3) id
    refine G.aload_n C 0 dX6_costOf_23 rfl rfl ?_
    refine G.get (g := 20) (i := 0) C 19 none dX6_costOf_24 (by decide) rfl rfl uX_X6 (by decide) uf_RX6_49 rfl rfl ?_
    refine G.iload_n C 1 dX6_costOf_27 rfl rfl ?_
    have hin_28 : vp_in a 8 := by
      exact vp_ofc ha hc hc8 (by decide)
    refine G.iald (g := 34) (i := 0) (n := 8) C dX6_costOf_28 (by decide) rfl hin_28 ?_
    refine G.aload_n C 0 dX6_costOf_29 rfl rfl ?_
    refine G.get (g := 20) (i := 0) C 19 none dX6_costOf_30 (by decide) rfl rfl uX_X6 (by decide) uf_RX6_49 rfl rfl ?_
    refine G.iload_n C 2 dX6_costOf_33 rfl rfl ?_
    have hin_34 : vp_in b 8 := by
      exact vp_ofc hib hc hc8 (by decide)
    refine G.iald (g := 34) (i := 0) (n := 8) C dX6_costOf_34 (by decide) rfl hin_34 ?_
    refine G.iconst (v := -1) C dX6_costOf_35 (by decide) ?_
    refine G.ixor C dX6_costOf_36 ?_
    refine G.iand C dX6_costOf_37 ?_
    have hM_0 := ok_X6_bits hw σ ((σ.1 34 0 a.toNatClampNeg) &&& ((σ.1 34 0 b.toNatClampNeg) ^^^ (-1)))
    refine G.callS C none hM_0 dX6_costOf_38 us_X6_bits ul_RX6_76 rfl rfl (by decide) (Nat.le_of_ble_eq_true rfl) (fun r_38 τ_38 h_38 => ?_)
    obtain ⟨h_38, e_38⟩ := h_38; subst h_38
    refine G.aload_n C 0 dX6_costOf_41 rfl rfl ?_
    refine G.get (g := 20) (i := 0) C 6 none dX6_costOf_42 (by decide) rfl rfl uX_X6 (by decide) uf_RX6_19 rfl rfl ?_
    refine G.iconst (v := 3) C dX6_costOf_45 (by decide) ?_
    have hin_46 : vp_in 3 5 := by
      exact vp_04 (by decide)
    refine G.iald (g := 24) (i := 0) (n := 5) C dX6_costOf_46 (by decide) rfl hin_46 ?_
    refine G.aload_n C 0 dX6_costOf_47 rfl rfl ?_
    refine G.get (g := 20) (i := 0) C 19 none dX6_costOf_48 (by decide) rfl rfl uX_X6 (by decide) uf_RX6_49 rfl rfl ?_
    refine G.iload_n C 2 dX6_costOf_51 rfl rfl ?_
    have hin_52 : vp_in b 8 := by
      exact vp_ofc hib hc hc8 (by decide)
    refine G.iald (g := 34) (i := 0) (n := 8) C dX6_costOf_52 (by decide) rfl hin_52 ?_
    refine G.aload_n C 0 dX6_costOf_53 rfl rfl ?_
    refine G.get (g := 20) (i := 0) C 19 none dX6_costOf_54 (by decide) rfl rfl uX_X6 (by decide) uf_RX6_49 rfl rfl ?_
    refine G.iload_n C 1 dX6_costOf_57 rfl rfl ?_
    have hin_58 : vp_in a 8 := by
      exact vp_ofc ha hc hc8 (by decide)
    refine G.iald (g := 34) (i := 0) (n := 8) C dX6_costOf_58 (by decide) rfl hin_58 ?_
    refine G.iconst (v := -1) C dX6_costOf_59 (by decide) ?_
    refine G.ixor C dX6_costOf_60 ?_
    refine G.iand C dX6_costOf_61 ?_
    have hM_1 := ok_X6_bits hw σ ((σ.1 34 0 b.toNatClampNeg) &&& ((σ.1 34 0 a.toNatClampNeg) ^^^ (-1)))
    refine G.callS C none hM_1 dX6_costOf_62 us_X6_bits ul_RX6_76 rfl rfl (by decide) (Nat.le_of_ble_eq_true rfl) (fun r_62 τ_62 h_62 => ?_)
    obtain ⟨h_62, e_62⟩ := h_62; subst h_62
    refine G.imul C dX6_costOf_65 ?_
    refine G.iadd C dX6_costOf_66 ?_
    subst hQ
    exact G.iret C hr dX6_costOf_67 (by
        refine ⟨rfl, ?_⟩
        rw [costU, if_pos hib, e_38, e_62, Int32.mul_comm]
        rfl)
  · have hib : ¬ inN (σ.1 20 0 17) b := fun q => by rw [c_3] at q; exact absurd q.1 (by decide)
    refine G.aload_n C 0 dX6_costOf_6 rfl rfl ?_
    refine G.get (g := 20) (i := 0) C 19 none dX6_costOf_7 (by decide) rfl rfl uX_X6 (by decide) uf_RX6_49 rfl rfl ?_
    refine G.iload_n C 1 dX6_costOf_10 rfl rfl ?_
    have hin_11 : vp_in a 8 := by
      exact vp_ofc ha hc hc8 (by decide)
    refine G.iald (g := 34) (i := 0) (n := 8) C dX6_costOf_11 (by decide) rfl hin_11 ?_
    have hM_2 := ok_X6_bits hw σ (σ.1 34 0 a.toNatClampNeg)
    refine G.callS C none hM_2 dX6_costOf_12 us_X6_bits ul_RX6_76 rfl rfl (by decide) (Nat.le_of_ble_eq_true rfl) (fun r_12 τ_12 h_12 => ?_)
    obtain ⟨h_12, e_12⟩ := h_12; subst h_12
    refine G.aload_n C 0 dX6_costOf_15 rfl rfl ?_
    refine G.get (g := 20) (i := 0) C 6 none dX6_costOf_16 (by decide) rfl rfl uX_X6 (by decide) uf_RX6_19 rfl rfl ?_
    refine G.iconst (v := 4) C dX6_costOf_19 (by decide) ?_
    have hin_20 : vp_in 4 5 := by
      exact vp_04 (by decide)
    refine G.iald (g := 24) (i := 0) (n := 5) C dX6_costOf_20 (by decide) rfl hin_20 ?_
    refine G.iadd C dX6_costOf_21 ?_
    subst hQ
    exact G.iret C hr dX6_costOf_22 (by
        refine ⟨rfl, ?_⟩
        rw [costU, if_neg hib, e_12]
        rfl)
set_option maxHeartbeats 4000000 in
set_option maxRecDepth 100000 in
theorem ok_X6_isFrom {w : wD} (hw : wOK w) (σ : wSt) (a b : Int32) {c : Nat} (hc : σ.1 20 0 17 = nI c) (hc8 : c ≤ 8) (ha : inN (σ.1 20 0 17) a) : MI w yX6_isFrom cX6_isFrom 3 (some .boolean) 2 43 [.ref (w.2.2.2.1 20 0), .int a, .int b] σ (fun r τ => σ = τ ∧ r = wb (b = -9 ∨ (inN (σ.1 20 0 17) b ∧ σ.1 33 0 b.toNatClampNeg < σ.1 33 0 a.toNatClampNeg))) := by
  refine MI.of hw (by decide +kernel) (Nat.le_of_ble_eq_true rfl) (fun x C hr => ?_)
  suffices key : ∀ Q, Q = QI w x (fun r τ => σ = τ ∧ r = wb (b = -9 ∨ (inN (σ.1 20 0 17) b ∧ σ.1 33 0 b.toNatClampNeg < σ.1 33 0 a.toNatClampNeg))) → G w x 3 Q 0 [(0, .ref (w.2.2.2.1 20 0)), (1, .int a), (2, .int b)] [] σ from key _ rfl
  intro Q hQ
  refine G.iload_n C 2 dX6_isFrom_0 rfl rfl ?_
  refine G.bipush (v := -9) C dX6_isFrom_1 (by decide) ?_
  refine G.icmp_eq (tgt := 29) C dX6_isFrom_3 (by decide) (fun c_3 => ?_) (fun c_3 => ?_)
  · refine G.iconst (v := 1) C dX6_isFrom_29 (by decide) ?_
    refine G.goto (tgt := 34) C dX6_isFrom_30 (by decide) ?_
    subst hQ
    exact G.zret C hr (by rfl) dX6_isFrom_34 (by
        exact ⟨rfl, (wb_t (Or.inl c_3)).symm⟩)
  · refine G.aload_n C 0 dX6_isFrom_6 rfl rfl ?_
    refine G.iload_n C 2 dX6_isFrom_7 rfl rfl ?_
    have hM_0 := ok_X6_isMap hw σ b hc hc8
    refine G.callV C (g := 20) (i := 0) none hM_0 dX6_isFrom_8 (by decide) rfl rfl rfl uv_X6_isMap ul_RX6_111 rfl rfl (by decide) (Nat.le_of_ble_eq_true rfl) (fun r_8 τ_8 h_8 => ?_)
    obtain ⟨h_8, e_8⟩ := h_8; subst h_8
    refine G.if_eq (tgt := 33) C dX6_isFrom_11 (by decide) (fun c_11 => ?_) (fun c_11 => ?_)
    · have b_8 := wb_0 e_8 c_11
      refine G.iconst (v := 0) C dX6_isFrom_33 (by decide) ?_
      subst hQ
      exact G.zret C hr (by rfl) dX6_isFrom_34 (by
          exact ⟨rfl, (wb_f (fun q => q.elim c_3 (fun q => b_8 q.1))).symm⟩)
    · have b_8 := wb_1 e_8 c_11
      refine G.aload_n C 0 dX6_isFrom_14 rfl rfl ?_
      refine G.get (g := 20) (i := 0) C 18 none dX6_isFrom_15 (by decide) rfl rfl uX_X6 (by decide) uf_RX6_46 rfl rfl ?_
      refine G.iload_n C 2 dX6_isFrom_18 rfl rfl ?_
      have hin_19 : vp_in b 8 := by
        exact vp_ofc b_8 hc hc8 (by decide)
      refine G.iald (g := 33) (i := 0) (n := 8) C dX6_isFrom_19 (by decide) rfl hin_19 ?_
      refine G.aload_n C 0 dX6_isFrom_20 rfl rfl ?_
      refine G.get (g := 20) (i := 0) C 18 none dX6_isFrom_21 (by decide) rfl rfl uX_X6 (by decide) uf_RX6_46 rfl rfl ?_
      refine G.iload_n C 1 dX6_isFrom_24 rfl rfl ?_
      have hin_25 : vp_in a 8 := by
        exact vp_ofc ha hc hc8 (by decide)
      refine G.iald (g := 33) (i := 0) (n := 8) C dX6_isFrom_25 (by decide) rfl hin_25 ?_
      refine G.icmp_ge (tgt := 33) C dX6_isFrom_26 (by decide) (fun c_26 => ?_) (fun c_26 => ?_)
      · refine G.iconst (v := 0) C dX6_isFrom_33 (by decide) ?_
        subst hQ
        exact G.zret C hr (by rfl) dX6_isFrom_34 (by
            exact ⟨rfl, (wb_f (fun q => q.elim c_3 (fun q => Int32.not_lt.mpr c_26 q.2))).symm⟩)
      · refine G.iconst (v := 1) C dX6_isFrom_29 (by decide) ?_
        refine G.goto (tgt := 34) C dX6_isFrom_30 (by decide) ?_
        subst hQ
        exact G.zret C hr (by rfl) dX6_isFrom_34 (by
            exact ⟨rfl, (wb_t (Or.inr ⟨b_8, Int32.not_le.mp c_26⟩)).symm⟩)
set_option maxHeartbeats 4000000 in
set_option maxRecDepth 100000 in
theorem ok_X6_fromOf {w : wD} (hw : wOK w) (σ : wSt) (a : Int32) {c : Nat} (hc : σ.1 20 0 17 = nI c) (hc8 : c ≤ 8) (hE : ∀ k, k < c → rng12 (σ.1 34 0 k)) (ha : inN (σ.1 20 0 17) a) : MI w yX6_fromOf cX6_fromOf 4 (some .int) 3 65 [.ref (w.2.2.2.1 20 0), .int a] σ (fun r τ => σ = τ ∧ r = fromU (σ.1 33 0) (costU (σ.1 34 0) (σ.1 24 0 3) (σ.1 24 0 4) (σ.1 20 0 17) a) a.toNatClampNeg c) := by
  refine MI.of hw (by decide +kernel) (Nat.le_of_ble_eq_true rfl) (fun x C hr => ?_)
  suffices key : ∀ Q, Q = QI w x (fun r τ => σ = τ ∧ r = fromU (σ.1 33 0) (costU (σ.1 34 0) (σ.1 24 0 3) (σ.1 24 0 4) (σ.1 20 0 17) a) a.toNatClampNeg c) → G w x 4 Q 0 [(0, .ref (w.2.2.2.1 20 0)), (1, .int a)] [] σ from key _ rfl
  intro Q hQ
  refine G.bipush (v := -9) C dX6_fromOf_0 (by decide) ?_
  refine G.istore_n (L1 := [(2, .int (-9)), (0, .ref (w.2.2.2.1 20 0)), (1, .int a)]) C dX6_fromOf_2 rfl (by decide) rfl ?_
  refine G.iconst (v := 0) C dX6_fromOf_3 (by decide) ?_
  refine G.istore_n (L1 := [(3, .int 0), (2, .int (-9)), (0, .ref (w.2.2.2.1 20 0)), (1, .int a)]) C dX6_fromOf_4 rfl (by decide) rfl ?_
  have cut_5 : ∀ (m9 : Nat) (j : Nat) (x3 x2 : Int32), j ≤ c → c < j + m9 → x3 = nI j → x2 = fromU (σ.1 33 0) (costU (σ.1 34 0) (σ.1 24 0 3) (σ.1 24 0 4) (σ.1 20 0 17) a) a.toNatClampNeg j → G w x 4 Q 5 [(3, .int x3), (2, .int x2), (0, .ref (w.2.2.2.1 20 0)), (1, .int a)] [] σ := by
    intro m9
    induction m9 with
    | zero =>
      intro j x3 x2 hj hm hx3 hx2
      exfalso
      omega
    | succ m9 ih_5 =>
      intro j x3 x2 hj hm hx3 hx2
      subst hx3
      subst hx2
      refine G.iload_n C 0 dX6_fromOf_5 rfl rfl ?_
      refine G.aload_n C 2 dX6_fromOf_6 rfl rfl ?_
      refine G.get (g := 20) (i := 0) C 17 none dX6_fromOf_7 (by decide) rfl rfl uX_X6 (by decide) uf_RX6_108 rfl rfl ?_
      refine G.icmp_ge (tgt := 49) C dX6_fromOf_10 (by decide) (fun c_10 => ?_) (fun c_10 => ?_)
      · have hjn : j = c := by
          rw [hc, nI_leI (by omega) (by omega)] at c_10; omega
        refine G.iload_n C 1 dX6_fromOf_49 rfl rfl ?_
        subst hQ
        exact G.iret C hr dX6_fromOf_50 (by
            rw [hjn]
            exact ⟨rfl, rfl⟩)
      · have hjn : j < c := by
          rw [hc, nI_leI (by omega) (by omega)] at c_10; omega
        refine G.aload_n C 2 dX6_fromOf_13 rfl rfl ?_
        refine G.iload_n C 3 dX6_fromOf_14 rfl rfl ?_
        refine G.iload_n C 0 dX6_fromOf_15 rfl rfl ?_
        have hM_0 := ok_X6_isFrom hw σ a (nI j) hc hc8 ha
        refine G.callV C (g := 20) (i := 0) none hM_0 dX6_fromOf_16 (by decide) rfl rfl rfl uv_X6_isFrom ul_RX6_114 rfl rfl (by decide) (Nat.le_of_ble_eq_true rfl) (fun r_16 τ_16 h_16 => ?_)
        obtain ⟨h_16, e_16⟩ := h_16; subst h_16
        refine G.if_eq (tgt := 41) C dX6_fromOf_19 (by decide) (fun c_19 => ?_) (fun c_19 => ?_)
        · have b_16 := wb_0 e_16 c_19
          have hy9 : ¬ σ.1 33 0 j < σ.1 33 0 a.toNatClampNeg := fun q => b_16 (Or.inr ⟨hc ▸ inN_nI hjn (by omega), by rw [nI_clamp (show j < 2 ^ 31 by omega)]; exact q⟩)
          refine G.iload_n C 1 dX6_fromOf_41 rfl rfl ?_
          refine G.topi (fun x2_42 ex2_42 => ?_)
          refine G.istore_n (L1 := [(2, .int x2_42), (3, .int (nI j)), (0, .ref (w.2.2.2.1 20 0)), (1, .int a)]) C dX6_fromOf_42 rfl (by decide) rfl ?_
          obtain ⟨x3_43, ex3_43⟩ : ∃ z : Int32, z = (nI j) + 1 := ⟨_, rfl⟩
          refine G.iinc (v := x3_43) (L1 := [(3, .int x3_43), (2, .int x2_42), (0, .ref (w.2.2.2.1 20 0)), (1, .int a)]) C 1 dX6_fromOf_43 rfl (by rw [ex3_43]; rfl) (by decide) rfl ?_
          refine G.goto (tgt := 5) C dX6_fromOf_46 (by decide) ?_
          refine ih_5  (j + 1) _ _ ?_ ?_ ?_ ?_
          · omega
          · omega
          · rw [ex3_43]; exact nI_1 j
          · rw [fromU_f (fun q => hy9 q.1)]
            try assumption
        · have b_16 := wb_1 e_16 c_19
          have hy9 : σ.1 33 0 j < σ.1 33 0 a.toNatClampNeg := by
            have q := b_16
            rw [nI_clamp (show j < 2 ^ 31 by omega)] at q
            exact q.elim (fun q => absurd q (nI_ne9 (by omega))) (fun q => q.2)
          refine G.aload_n C 2 dX6_fromOf_22 rfl rfl ?_
          refine G.iload_n C 3 dX6_fromOf_23 rfl rfl ?_
          refine G.iload_n C 0 dX6_fromOf_24 rfl rfl ?_
          have hM_1 := ok_X6_costOf hw σ a (nI j) hc hc8 hE ha (Or.inr (hc ▸ inN_nI hjn (by omega)))
          refine G.callV C (g := 20) (i := 0) none hM_1 dX6_fromOf_25 (by decide) rfl rfl rfl uv_X6_costOf ul_RX6_117 rfl rfl (by decide) (Nat.le_of_ble_eq_true rfl) (fun r_25 τ_25 h_25 => ?_)
          obtain ⟨h_25, e_25⟩ := h_25; subst h_25
          refine G.aload_n C 2 dX6_fromOf_28 rfl rfl ?_
          refine G.iload_n C 3 dX6_fromOf_29 rfl rfl ?_
          refine G.iload_n C 1 dX6_fromOf_30 rfl rfl ?_
          have hM_2 := ok_X6_costOf hw σ a (fromU (σ.1 33 0) (costU (σ.1 34 0) (σ.1 24 0 3) (σ.1 24 0 4) (σ.1 20 0 17) a) a.toNatClampNeg j) hc hc8 hE ha (by rw [hc]; exact fromU_rng (by omega) j (by omega))
          refine G.callV C (g := 20) (i := 0) none hM_2 dX6_fromOf_31 (by decide) rfl rfl rfl uv_X6_costOf ul_RX6_117 rfl rfl (by decide) (Nat.le_of_ble_eq_true rfl) (fun r_31 τ_31 h_31 => ?_)
          obtain ⟨h_31, e_31⟩ := h_31; subst h_31
          refine G.icmp_ge (tgt := 41) C dX6_fromOf_34 (by decide) (fun c_34 => ?_) (fun c_34 => ?_)
          · refine G.iload_n C 1 dX6_fromOf_41 rfl rfl ?_
            refine G.topi (fun x2_42 ex2_42 => ?_)
            refine G.istore_n (L1 := [(2, .int x2_42), (3, .int (nI j)), (0, .ref (w.2.2.2.1 20 0)), (1, .int a)]) C dX6_fromOf_42 rfl (by decide) rfl ?_
            obtain ⟨x3_43, ex3_43⟩ : ∃ z : Int32, z = (nI j) + 1 := ⟨_, rfl⟩
            refine G.iinc (v := x3_43) (L1 := [(3, .int x3_43), (2, .int x2_42), (0, .ref (w.2.2.2.1 20 0)), (1, .int a)]) C 1 dX6_fromOf_43 rfl (by rw [ex3_43]; rfl) (by decide) rfl ?_
            refine G.goto (tgt := 5) C dX6_fromOf_46 (by decide) ?_
            refine ih_5  (j + 1) _ _ ?_ ?_ ?_ ?_
            · omega
            · omega
            · rw [ex3_43]; exact nI_1 j
            · rw [e_25, e_31] at c_34
              rw [fromU_f (fun q => Int32.not_lt.mpr c_34 q.2)]
              try assumption
          · refine G.iload_n C 0 dX6_fromOf_37 rfl rfl ?_
            refine G.goto (tgt := 42) C dX6_fromOf_38 (by decide) ?_
            refine G.topi (fun x2_42 ex2_42 => ?_)
            refine G.istore_n (L1 := [(2, .int x2_42), (3, .int (nI j)), (0, .ref (w.2.2.2.1 20 0)), (1, .int a)]) C dX6_fromOf_42 rfl (by decide) rfl ?_
            obtain ⟨x3_43, ex3_43⟩ : ∃ z : Int32, z = (nI j) + 1 := ⟨_, rfl⟩
            refine G.iinc (v := x3_43) (L1 := [(3, .int x3_43), (2, .int x2_42), (0, .ref (w.2.2.2.1 20 0)), (1, .int a)]) C 1 dX6_fromOf_43 rfl (by rw [ex3_43]; rfl) (by decide) rfl ?_
            refine G.goto (tgt := 5) C dX6_fromOf_46 (by decide) ?_
            refine ih_5  (j + 1) _ _ ?_ ?_ ?_ ?_
            · omega
            · omega
            · rw [ex3_43]; exact nI_1 j
            · rw [e_25, e_31] at c_34
              rw [fromU_t ⟨hy9, Int32.not_le.mp c_34⟩]
              try assumption
  refine cut_5 (c + 1) 0 _ _ ?_ ?_ ?_ ?_
  · omega
  · omega
  · rfl
  · rfl
set_option maxHeartbeats 4000000 in
set_option maxRecDepth 100000 in
theorem ok_X6_cost {w : wD} (hw : wOK w) (σ : wSt) (a b : Int32) (hz : σ.1 20 0 0 = 0) {c : Nat} (hc : σ.1 20 0 17 = nI c) (hc8 : c ≤ 8) (hE : ∀ k, k < c → rng12 (σ.1 34 0 k)) : MI w yX6_cost cX6_cost 3 (some .int) 3 65 [.ref (w.2.2.2.1 20 0), .int a, .int b] σ (fun r τ => σ = τ ∧ ((¬ mayU (σ.1 33 0) (σ.1 20 0 17) a b ∧ r = -1) ∨ (mayU (σ.1 33 0) (σ.1 20 0 17) a b ∧ r = costU (σ.1 34 0) (σ.1 24 0 3) (σ.1 24 0 4) (σ.1 20 0 17) a b))) := by
  refine MI.of hw (by decide +kernel) (Nat.le_of_ble_eq_true rfl) (fun x C hr => ?_)
  suffices key : ∀ Q, Q = QI w x (fun r τ => σ = τ ∧ ((¬ mayU (σ.1 33 0) (σ.1 20 0 17) a b ∧ r = -1) ∨ (mayU (σ.1 33 0) (σ.1 20 0 17) a b ∧ r = costU (σ.1 34 0) (σ.1 24 0 3) (σ.1 24 0 4) (σ.1 20 0 17) a b))) → G w x 3 Q 0 [(0, .ref (w.2.2.2.1 20 0)), (1, .int a), (2, .int b)] [] σ from key _ rfl
  intro Q hQ
  refine G.aload_n C 0 dX6_cost_0 rfl rfl ?_
  refine G.iconst (v := 0) C dX6_cost_1 (by decide) ?_
  refine G.put (g := 20) (i := 0) C 0 none dX6_cost_2 (by decide) rfl rfl uX_X6 tyX6 tyX6_ok nmX6 (by decide) uf_RX6_61 rfl rfl (by decide +kernel) (Nat.le_of_ble_eq_true rfl) w_up_20_0 ?_
  rw [wUp_id hz]
  refine G.aload_n C 0 dX6_cost_5 rfl rfl ?_
  refine G.iload_n C 1 dX6_cost_6 rfl rfl ?_
  have hM_0 := ok_X6_isMap hw σ a hc hc8
  refine G.callV C (g := 20) (i := 0) none hM_0 dX6_cost_7 (by decide) rfl rfl rfl uv_X6_isMap ul_RX6_111 rfl rfl (by decide) (Nat.le_of_ble_eq_true rfl) (fun r_7 τ_7 h_7 => ?_)
  obtain ⟨h_7, e_7⟩ := h_7; subst h_7
  refine G.if_eq (tgt := 31) C dX6_cost_10 (by decide) (fun c_10 => ?_) (fun c_10 => ?_)
  · have b_7 := wb_0 e_7 c_10
    refine G.iconst (v := -1) C dX6_cost_31 (by decide) ?_
    subst hQ
    exact G.iret C hr dX6_cost_32 (by
        exact ⟨rfl, Or.inl ⟨fun q => b_7 q.1, rfl⟩⟩)
  · have b_7 := wb_1 e_7 c_10
    refine G.aload_n C 0 dX6_cost_13 rfl rfl ?_
    refine G.iload_n C 1 dX6_cost_14 rfl rfl ?_
    refine G.iload_n C 2 dX6_cost_15 rfl rfl ?_
    have hM_1 := ok_X6_isFrom hw σ a b hc hc8 b_7
    refine G.callV C (g := 20) (i := 0) none hM_1 dX6_cost_16 (by decide) rfl rfl rfl uv_X6_isFrom ul_RX6_114 rfl rfl (by decide) (Nat.le_of_ble_eq_true rfl) (fun r_16 τ_16 h_16 => ?_)
    obtain ⟨h_16, e_16⟩ := h_16; subst h_16
    refine G.if_eq (tgt := 31) C dX6_cost_19 (by decide) (fun c_19 => ?_) (fun c_19 => ?_)
    · have b_16 := wb_0 e_16 c_19
      refine G.iconst (v := -1) C dX6_cost_31 (by decide) ?_
      subst hQ
      exact G.iret C hr dX6_cost_32 (by
          exact ⟨rfl, Or.inl ⟨fun q => b_16 q.2, rfl⟩⟩)
    · have b_16 := wb_1 e_16 c_19
      refine G.aload_n C 0 dX6_cost_22 rfl rfl ?_
      refine G.iload_n C 1 dX6_cost_23 rfl rfl ?_
      refine G.iload_n C 2 dX6_cost_24 rfl rfl ?_
      have hM_2 := ok_X6_costOf hw σ a b hc hc8 hE b_7 (b_16.imp id (fun q => q.1))
      refine G.callV C (g := 20) (i := 0) none hM_2 dX6_cost_25 (by decide) rfl rfl rfl uv_X6_costOf ul_RX6_117 rfl rfl (by decide) (Nat.le_of_ble_eq_true rfl) (fun r_25 τ_25 h_25 => ?_)
      obtain ⟨h_25, e_25⟩ := h_25; subst h_25
      refine G.goto (tgt := 32) C dX6_cost_28 (by decide) ?_
      subst hQ
      exact G.iret C hr dX6_cost_32 (by
          exact ⟨rfl, Or.inr ⟨⟨b_7, b_16⟩, e_25⟩⟩)
set_option maxHeartbeats 4000000 in
set_option maxRecDepth 100000 in
theorem ok_X6_from {w : wD} (hw : wOK w) (σ : wSt) (a : Int32) (hz : σ.1 20 0 0 = 0) {c : Nat} (hc : σ.1 20 0 17 = nI c) (hc8 : c ≤ 8) (hE : ∀ k, k < c → rng12 (σ.1 34 0 k)) : MI w yX6_from cX6_from 2 (some .int) 4 88 [.ref (w.2.2.2.1 20 0), .int a] σ (fun r τ => σ = τ ∧ ((¬ inN (σ.1 20 0 17) a ∧ r = -2) ∨ (inN (σ.1 20 0 17) a ∧ r = fromU (σ.1 33 0) (costU (σ.1 34 0) (σ.1 24 0 3) (σ.1 24 0 4) (σ.1 20 0 17) a) a.toNatClampNeg c))) := by
  refine MI.of hw (by decide +kernel) (Nat.le_of_ble_eq_true rfl) (fun x C hr => ?_)
  suffices key : ∀ Q, Q = QI w x (fun r τ => σ = τ ∧ ((¬ inN (σ.1 20 0 17) a ∧ r = -2) ∨ (inN (σ.1 20 0 17) a ∧ r = fromU (σ.1 33 0) (costU (σ.1 34 0) (σ.1 24 0 3) (σ.1 24 0 4) (σ.1 20 0 17) a) a.toNatClampNeg c))) → G w x 2 Q 0 [(0, .ref (w.2.2.2.1 20 0)), (1, .int a)] [] σ from key _ rfl
  intro Q hQ
  refine G.aload_n C 0 dX6_from_0 rfl rfl ?_
  refine G.iconst (v := 0) C dX6_from_1 (by decide) ?_
  refine G.put (g := 20) (i := 0) C 0 none dX6_from_2 (by decide) rfl rfl uX_X6 tyX6 tyX6_ok nmX6 (by decide) uf_RX6_61 rfl rfl (by decide +kernel) (Nat.le_of_ble_eq_true rfl) w_up_20_0 ?_
  rw [wUp_id hz]
  refine G.aload_n C 0 dX6_from_5 rfl rfl ?_
  refine G.iload_n C 1 dX6_from_6 rfl rfl ?_
  have hM_0 := ok_X6_isMap hw σ a hc hc8
  refine G.callV C (g := 20) (i := 0) none hM_0 dX6_from_7 (by decide) rfl rfl rfl uv_X6_isMap ul_RX6_111 rfl rfl (by decide) (Nat.le_of_ble_eq_true rfl) (fun r_7 τ_7 h_7 => ?_)
  obtain ⟨h_7, e_7⟩ := h_7; subst h_7
  refine G.if_eq (tgt := 21) C dX6_from_10 (by decide) (fun c_10 => ?_) (fun c_10 => ?_)
  · have b_7 := wb_0 e_7 c_10
    refine G.bipush (v := -2) C dX6_from_21 (by decide) ?_
    subst hQ
    exact G.iret C hr dX6_from_23 (by
        exact ⟨rfl, Or.inl ⟨b_7, rfl⟩⟩)
  · have b_7 := wb_1 e_7 c_10
    refine G.aload_n C 0 dX6_from_13 rfl rfl ?_
    refine G.iload_n C 1 dX6_from_14 rfl rfl ?_
    have hM_1 := ok_X6_fromOf hw σ a hc hc8 hE b_7
    refine G.callV C (g := 20) (i := 0) none hM_1 dX6_from_15 (by decide) rfl rfl rfl uv_X6_fromOf ul_RX6_121 rfl rfl (by decide) (Nat.le_of_ble_eq_true rfl) (fun r_15 τ_15 h_15 => ?_)
    obtain ⟨h_15, e_15⟩ := h_15; subst h_15
    refine G.goto (tgt := 23) C dX6_from_18 (by decide) ?_
    subst hQ
    exact G.iret C hr dX6_from_23 (by
        exact ⟨rfl, Or.inr ⟨b_7, e_15⟩⟩)
set_option maxHeartbeats 4000000 in
set_option maxRecDepth 100000 in
theorem ok_X6_rivals {w : wD} (hw : wOK w) (σ : wSt) (a : Int32) (hz : σ.1 20 0 0 = 0) {c : Nat} (hc : σ.1 20 0 17 = nI c) (hc8 : c ≤ 8) (hE : ∀ k, k < c → rng12 (σ.1 34 0 k)) : MI w yX6_rivals cX6_rivals 5 (some .int) 4 88 [.ref (w.2.2.2.1 20 0), .int a] σ (fun r τ => σ = τ ∧ ((¬ inN (σ.1 20 0 17) a ∧ r = -1) ∨ (inN (σ.1 20 0 17) a ∧ r = rivM (σ.1 33 0) (costU (σ.1 34 0) (σ.1 24 0 3) (σ.1 24 0 4) (σ.1 20 0 17) a) a.toNatClampNeg (costU (σ.1 34 0) (σ.1 24 0 3) (σ.1 24 0 4) (σ.1 20 0 17) a (fromU (σ.1 33 0) (costU (σ.1 34 0) (σ.1 24 0 3) (σ.1 24 0 4) (σ.1 20 0 17) a) a.toNatClampNeg c)) c - 1))) := by
  refine MI.of hw (by decide +kernel) (Nat.le_of_ble_eq_true rfl) (fun x C hr => ?_)
  suffices key : ∀ Q, Q = QI w x (fun r τ => σ = τ ∧ ((¬ inN (σ.1 20 0 17) a ∧ r = -1) ∨ (inN (σ.1 20 0 17) a ∧ r = rivM (σ.1 33 0) (costU (σ.1 34 0) (σ.1 24 0 3) (σ.1 24 0 4) (σ.1 20 0 17) a) a.toNatClampNeg (costU (σ.1 34 0) (σ.1 24 0 3) (σ.1 24 0 4) (σ.1 20 0 17) a (fromU (σ.1 33 0) (costU (σ.1 34 0) (σ.1 24 0 3) (σ.1 24 0 4) (σ.1 20 0 17) a) a.toNatClampNeg c)) c - 1))) → G w x 5 Q 0 [(0, .ref (w.2.2.2.1 20 0)), (1, .int a)] [] σ from key _ rfl
  intro Q hQ
  refine G.aload_n C 0 dX6_rivals_0 rfl rfl ?_
  refine G.iconst (v := 0) C dX6_rivals_1 (by decide) ?_
  refine G.put (g := 20) (i := 0) C 0 none dX6_rivals_2 (by decide) rfl rfl uX_X6 tyX6 tyX6_ok nmX6 (by decide) uf_RX6_61 rfl rfl (by decide +kernel) (Nat.le_of_ble_eq_true rfl) w_up_20_0 ?_
  rw [wUp_id hz]
  refine G.aload_n C 0 dX6_rivals_5 rfl rfl ?_
  refine G.iload_n C 1 dX6_rivals_6 rfl rfl ?_
  have hM_0 := ok_X6_isMap hw σ a hc hc8
  refine G.callV C (g := 20) (i := 0) none hM_0 dX6_rivals_7 (by decide) rfl rfl rfl uv_X6_isMap ul_RX6_111 rfl rfl (by decide) (Nat.le_of_ble_eq_true rfl) (fun r_7 τ_7 h_7 => ?_)
  obtain ⟨h_7, e_7⟩ := h_7; subst h_7
  refine G.if_ne (tgt := 15) C dX6_rivals_10 (by decide) (fun c_10 => ?_) (fun c_10 => ?_)
  · have b_7 := wb_1 e_7 c_10
    refine G.aload_n C 0 dX6_rivals_15 rfl rfl ?_
    refine G.iload_n C 1 dX6_rivals_16 rfl rfl ?_
    refine G.aload_n C 0 dX6_rivals_17 rfl rfl ?_
    refine G.iload_n C 1 dX6_rivals_18 rfl rfl ?_
    have hM_1 := ok_X6_fromOf hw σ a hc hc8 hE b_7
    refine G.callV C (g := 20) (i := 0) none hM_1 dX6_rivals_19 (by decide) rfl rfl rfl uv_X6_fromOf ul_RX6_121 rfl rfl (by decide) (Nat.le_of_ble_eq_true rfl) (fun r_19 τ_19 h_19 => ?_)
    obtain ⟨h_19, e_19⟩ := h_19; subst h_19
    have hM_2 := ok_X6_costOf hw σ a r_19 hc hc8 hE b_7 (by rw [e_19, hc]; exact fromU_rng (by omega) c (by omega))
    refine G.callV C (g := 20) (i := 0) none hM_2 dX6_rivals_22 (by decide) rfl rfl rfl uv_X6_costOf ul_RX6_117 rfl rfl (by decide) (Nat.le_of_ble_eq_true rfl) (fun r_22 τ_22 h_22 => ?_)
    obtain ⟨h_22, e_22⟩ := h_22; subst h_22
    refine G.istore_n (L1 := [(2, .int r_22), (0, .ref (w.2.2.2.1 20 0)), (1, .int a)]) C dX6_rivals_25 rfl (by decide) rfl ?_
    refine G.aload_n C 1 dX6_rivals_26 rfl rfl ?_
    refine G.iload_n C 2 dX6_rivals_27 rfl rfl ?_
    refine G.bipush (v := -9) C dX6_rivals_28 (by decide) ?_
    have hM_3 := ok_X6_costOf hw σ a (-9) hc hc8 hE b_7 (Or.inl rfl)
    refine G.callV C (g := 20) (i := 0) none hM_3 dX6_rivals_30 (by decide) rfl rfl rfl uv_X6_costOf ul_RX6_117 rfl rfl (by decide) (Nat.le_of_ble_eq_true rfl) (fun r_30 τ_30 h_30 => ?_)
    obtain ⟨h_30, e_30⟩ := h_30; subst h_30
    refine G.iload_n C 0 dX6_rivals_33 rfl rfl ?_
    have cut_46 : ∀ (m9 : Nat) (j : Nat) (x4 x3 : Int32), j ≤ c → c < j + m9 → x4 = nI j → x3 = rivM (σ.1 33 0) (costU (σ.1 34 0) (σ.1 24 0 3) (σ.1 24 0 4) (σ.1 20 0 17) a) a.toNatClampNeg r_22 j → G w x 5 Q 46 [(4, .int x4), (3, .int x3), (2, .int r_22), (0, .ref (w.2.2.2.1 20 0)), (1, .int a)] [] σ := by
      intro m9
      induction m9 with
      | zero =>
        intro j x4 x3 hj hm hx4 hx3
        exfalso
        omega
      | succ m9 ih_46 =>
        intro j x4 x3 hj hm hx4 hx3
        subst hx4
        subst hx3
        refine G.iload C 0 dX6_rivals_46 rfl ?_
        refine G.aload_n C 3 dX6_rivals_48 rfl rfl ?_
        refine G.get (g := 20) (i := 0) C 17 none dX6_rivals_49 (by decide) rfl rfl uX_X6 (by decide) uf_RX6_108 rfl rfl ?_
        refine G.icmp_ge (tgt := 90) C dX6_rivals_52 (by decide) (fun c_52 => ?_) (fun c_52 => ?_)
        · have hjn : j = c := by
            rw [hc, nI_leI (by omega) (by omega)] at c_52; omega
          refine G.iload_n C 1 dX6_rivals_90 rfl rfl ?_
          refine G.iconst (v := 1) C dX6_rivals_91 (by decide) ?_
          refine G.isub C dX6_rivals_92 ?_
          subst hQ
          exact G.iret C hr dX6_rivals_93 (by
              refine ⟨rfl, Or.inr ⟨b_7, ?_⟩⟩
              rw [hjn, e_22, e_19])
        · have hjn : j < c := by
            rw [hc, nI_leI (by omega) (by omega)] at c_52; omega
          refine G.iload_n C 1 dX6_rivals_55 rfl rfl ?_
          refine G.aload_n C 3 dX6_rivals_56 rfl rfl ?_
          refine G.iload_n C 4 dX6_rivals_57 rfl rfl ?_
          refine G.iload C 0 dX6_rivals_58 rfl ?_
          have hM_4 := ok_X6_isFrom hw σ a (nI j) hc hc8 b_7
          refine G.callV C (g := 20) (i := 0) none hM_4 dX6_rivals_60 (by decide) rfl rfl rfl uv_X6_isFrom ul_RX6_114 rfl rfl (by decide) (Nat.le_of_ble_eq_true rfl) (fun r_60 τ_60 h_60 => ?_)
          obtain ⟨h_60, e_60⟩ := h_60; subst h_60
          refine G.if_eq (tgt := 81) C dX6_rivals_63 (by decide) (fun c_63 => ?_) (fun c_63 => ?_)
          · have b_60 := wb_0 e_60 c_63
            have hy9 : ¬ σ.1 33 0 j < σ.1 33 0 a.toNatClampNeg := fun q => b_60 (Or.inr ⟨hc ▸ inN_nI hjn (by omega), by rw [nI_clamp (show j < 2 ^ 31 by omega)]; exact q⟩)
            refine G.iconst (v := 0) C dX6_rivals_81 (by decide) ?_
            refine G.iadd C dX6_rivals_82 ?_
            refine G.topi (fun x3_83 ex3_83 => ?_)
            refine G.istore_n (L1 := [(3, .int x3_83), (4, .int (nI j)), (2, .int r_22), (0, .ref (w.2.2.2.1 20 0)), (1, .int a)]) C dX6_rivals_83 rfl (by decide) rfl ?_
            obtain ⟨x4_84, ex4_84⟩ : ∃ z : Int32, z = (nI j) + 1 := ⟨_, rfl⟩
            refine G.iinc (v := x4_84) (L1 := [(4, .int x4_84), (3, .int x3_83), (2, .int r_22), (0, .ref (w.2.2.2.1 20 0)), (1, .int a)]) C 1 dX6_rivals_84 rfl (by rw [ex4_84]; rfl) (by decide) rfl ?_
            refine G.goto (tgt := 46) C dX6_rivals_87 (by decide) ?_
            refine ih_46  (j + 1) _ _ ?_ ?_ ?_ ?_
            · omega
            · omega
            · rw [ex4_84]; exact nI_1 j
            · rw [ex3_83, i_add0, rivM_f (fun q => hy9 q.1)]
          · have b_60 := wb_1 e_60 c_63
            have hy9 : σ.1 33 0 j < σ.1 33 0 a.toNatClampNeg := by
              have q := b_60
              rw [nI_clamp (show j < 2 ^ 31 by omega)] at q
              exact q.elim (fun q => absurd q (nI_ne9 (by omega))) (fun q => q.2)
            refine G.aload_n C 3 dX6_rivals_66 rfl rfl ?_
            refine G.iload_n C 4 dX6_rivals_67 rfl rfl ?_
            refine G.iload C 0 dX6_rivals_68 rfl ?_
            have hM_5 := ok_X6_costOf hw σ a (nI j) hc hc8 hE b_7 (Or.inr (hc ▸ inN_nI hjn (by omega)))
            refine G.callV C (g := 20) (i := 0) none hM_5 dX6_rivals_70 (by decide) rfl rfl rfl uv_X6_costOf ul_RX6_117 rfl rfl (by decide) (Nat.le_of_ble_eq_true rfl) (fun r_70 τ_70 h_70 => ?_)
            obtain ⟨h_70, e_70⟩ := h_70; subst h_70
            refine G.iload_n C 2 dX6_rivals_73 rfl rfl ?_
            refine G.icmp_ne (tgt := 81) C dX6_rivals_74 (by decide) (fun c_74 => ?_) (fun c_74 => ?_)
            · refine G.iconst (v := 0) C dX6_rivals_81 (by decide) ?_
              refine G.iadd C dX6_rivals_82 ?_
              refine G.topi (fun x3_83 ex3_83 => ?_)
              refine G.istore_n (L1 := [(3, .int x3_83), (4, .int (nI j)), (2, .int r_22), (0, .ref (w.2.2.2.1 20 0)), (1, .int a)]) C dX6_rivals_83 rfl (by decide) rfl ?_
              obtain ⟨x4_84, ex4_84⟩ : ∃ z : Int32, z = (nI j) + 1 := ⟨_, rfl⟩
              refine G.iinc (v := x4_84) (L1 := [(4, .int x4_84), (3, .int x3_83), (2, .int r_22), (0, .ref (w.2.2.2.1 20 0)), (1, .int a)]) C 1 dX6_rivals_84 rfl (by rw [ex4_84]; rfl) (by decide) rfl ?_
              refine G.goto (tgt := 46) C dX6_rivals_87 (by decide) ?_
              refine ih_46  (j + 1) _ _ ?_ ?_ ?_ ?_
              · omega
              · omega
              · rw [ex4_84]; exact nI_1 j
              · rw [e_70] at c_74
                rw [ex3_83, i_add0, rivM_f (fun q => c_74 q.2)]
            · refine G.iconst (v := 1) C dX6_rivals_77 (by decide) ?_
              refine G.goto (tgt := 82) C dX6_rivals_78 (by decide) ?_
              refine G.iadd C dX6_rivals_82 ?_
              refine G.topi (fun x3_83 ex3_83 => ?_)
              refine G.istore_n (L1 := [(3, .int x3_83), (4, .int (nI j)), (2, .int r_22), (0, .ref (w.2.2.2.1 20 0)), (1, .int a)]) C dX6_rivals_83 rfl (by decide) rfl ?_
              obtain ⟨x4_84, ex4_84⟩ : ∃ z : Int32, z = (nI j) + 1 := ⟨_, rfl⟩
              refine G.iinc (v := x4_84) (L1 := [(4, .int x4_84), (3, .int x3_83), (2, .int r_22), (0, .ref (w.2.2.2.1 20 0)), (1, .int a)]) C 1 dX6_rivals_84 rfl (by rw [ex4_84]; rfl) (by decide) rfl ?_
              refine G.goto (tgt := 46) C dX6_rivals_87 (by decide) ?_
              refine ih_46  (j + 1) _ _ ?_ ?_ ?_ ?_
              · omega
              · omega
              · rw [ex4_84]; exact nI_1 j
              · rw [e_70] at c_74
                rw [ex3_83, rivM_t ⟨hy9, c_74⟩]
    refine G.icmp_ne (tgt := 41) C dX6_rivals_34 (by decide) (fun c_34 => ?_) (fun c_34 => ?_)
    · refine G.iconst (v := 0) C dX6_rivals_41 (by decide) ?_
      refine G.istore_n (L1 := [(3, .int 0), (2, .int r_22), (0, .ref (w.2.2.2.1 20 0)), (1, .int a)]) C dX6_rivals_42 rfl (by decide) rfl ?_
      refine G.iconst (v := 0) C dX6_rivals_43 (by decide) ?_
      refine G.istore (L1 := [(4, .int 0), (3, .int 0), (2, .int r_22), (0, .ref (w.2.2.2.1 20 0)), (1, .int a)]) C dX6_rivals_44 (by decide) rfl ?_
      refine cut_46 (c + 1) 0 _ _ ?_ ?_ ?_ ?_
      · omega
      · omega
      · rfl
      · rw [e_30] at c_34
        exact (if_neg c_34).symm
    · refine G.iconst (v := 1) C dX6_rivals_37 (by decide) ?_
      refine G.goto (tgt := 42) C dX6_rivals_38 (by decide) ?_
      refine G.istore_n (L1 := [(3, .int 1), (2, .int r_22), (0, .ref (w.2.2.2.1 20 0)), (1, .int a)]) C dX6_rivals_42 rfl (by decide) rfl ?_
      refine G.iconst (v := 0) C dX6_rivals_43 (by decide) ?_
      refine G.istore (L1 := [(4, .int 0), (3, .int 1), (2, .int r_22), (0, .ref (w.2.2.2.1 20 0)), (1, .int a)]) C dX6_rivals_44 (by decide) rfl ?_
      refine cut_46 (c + 1) 0 _ _ ?_ ?_ ?_ ?_
      · omega
      · omega
      · rfl
      · rw [e_30] at c_34
        exact (if_pos c_34).symm
  · have b_7 := wb_0 e_7 c_10
    refine G.iconst (v := -1) C dX6_rivals_13 (by decide) ?_
    subst hQ
    exact G.iret C hr dX6_rivals_14 (by
        refine ⟨rfl, Or.inl ⟨fun q => ?_, rfl⟩⟩
        first | exact b_7 q)
set_option maxHeartbeats 4000000 in
set_option maxRecDepth 100000 in
theorem ok_X6_life {w : wD} (hw : wOK w) (σ : wSt) (a b : Int32) (hz : σ.1 20 0 0 = 0) {c : Nat} (hc : σ.1 20 0 17 = nI c) (hc8 : c ≤ 8) (hE : ∀ k, k < c → rng12 (σ.1 34 0 k)) : MI w yX6_life cX6_life 6 (some .int) 4 88 [.ref (w.2.2.2.1 20 0), .int a, .int b] σ (fun r τ => σ = τ ∧ ((¬ (inN (σ.1 20 0 17) a ∧ (0 ≤ b ∧ b < 12) ∧ (σ.1 34 0 a.toNatClampNeg >>> (b &&& 31)) &&& 1 = 1) ∧ r = -1) ∨ ((inN (σ.1 20 0 17) a ∧ (0 ≤ b ∧ b < 12) ∧ (σ.1 34 0 a.toNatClampNeg >>> (b &&& 31)) &&& 1 = 1) ∧ r = lifeU (fun q => chU (σ.1 34 0) (fun q => fromU (σ.1 33 0) (costU (σ.1 34 0) (σ.1 24 0 3) (σ.1 24 0 4) (σ.1 20 0 17) q) q.toNatClampNeg c) (σ.1 20 0 17) a b 8 q) c))) := by
  refine MI.of hw (by decide +kernel) (Nat.le_of_ble_eq_true rfl) (fun x C hr => ?_)
  suffices key : ∀ Q, Q = QI w x (fun r τ => σ = τ ∧ ((¬ (inN (σ.1 20 0 17) a ∧ (0 ≤ b ∧ b < 12) ∧ (σ.1 34 0 a.toNatClampNeg >>> (b &&& 31)) &&& 1 = 1) ∧ r = -1) ∨ ((inN (σ.1 20 0 17) a ∧ (0 ≤ b ∧ b < 12) ∧ (σ.1 34 0 a.toNatClampNeg >>> (b &&& 31)) &&& 1 = 1) ∧ r = lifeU (fun q => chU (σ.1 34 0) (fun q => fromU (σ.1 33 0) (costU (σ.1 34 0) (σ.1 24 0 3) (σ.1 24 0 4) (σ.1 20 0 17) q) q.toNatClampNeg c) (σ.1 20 0 17) a b 8 q) c))) → G w x 6 Q 0 [(0, .ref (w.2.2.2.1 20 0)), (1, .int a), (2, .int b)] [] σ from key _ rfl
  intro Q hQ
  refine G.aload_n C 0 dX6_life_0 rfl rfl ?_
  refine G.iconst (v := 0) C dX6_life_1 (by decide) ?_
  refine G.put (g := 20) (i := 0) C 0 none dX6_life_2 (by decide) rfl rfl uX_X6 tyX6 tyX6_ok nmX6 (by decide) uf_RX6_61 rfl rfl (by decide +kernel) (Nat.le_of_ble_eq_true rfl) w_up_20_0 ?_
  rw [wUp_id hz]
  refine G.aload_n C 0 dX6_life_5 rfl rfl ?_
  refine G.iload_n C 1 dX6_life_6 rfl rfl ?_
  have hM_0 := ok_X6_isMap hw σ a hc hc8
  refine G.callV C (g := 20) (i := 0) none hM_0 dX6_life_7 (by decide) rfl rfl rfl uv_X6_isMap ul_RX6_111 rfl rfl (by decide) (Nat.le_of_ble_eq_true rfl) (fun r_7 τ_7 h_7 => ?_)
  obtain ⟨h_7, e_7⟩ := h_7; subst h_7
  refine G.if_eq (tgt := 36) C dX6_life_10 (by decide) (fun c_10 => ?_) (fun c_10 => ?_)
  · have b_7 := wb_0 e_7 c_10
    refine G.iconst (v := -1) C dX6_life_36 (by decide) ?_
    subst hQ
    exact G.iret C hr dX6_life_37 (by
        refine ⟨rfl, Or.inl ⟨fun q => ?_, rfl⟩⟩
        first | exact b_7 q.1 | exact b_17 (w_le11.mpr q.2.1) | (exact absurd q.2.2 (by rw [c_33]; decide)))
  · have b_7 := wb_1 e_7 c_10
    refine G.iload_n C 2 dX6_life_13 rfl rfl ?_
    refine G.iconst (v := 0) C dX6_life_14 (by decide) ?_
    refine G.bipush (v := 11) C dX6_life_15 (by decide) ?_
    have hM_1 := ok_X6_in hw σ b 0 11
    refine G.callS C none hM_1 dX6_life_17 us_X6_in ul_RX6_65 rfl rfl (by decide) (Nat.le_of_ble_eq_true rfl) (fun r_17 τ_17 h_17 => ?_)
    obtain ⟨h_17, e_17⟩ := h_17; subst h_17
    refine G.if_eq (tgt := 36) C dX6_life_20 (by decide) (fun c_20 => ?_) (fun c_20 => ?_)
    · have b_17 := wb_0 e_17 c_20
      refine G.iconst (v := -1) C dX6_life_36 (by decide) ?_
      subst hQ
      exact G.iret C hr dX6_life_37 (by
          refine ⟨rfl, Or.inl ⟨fun q => ?_, rfl⟩⟩
          first | exact b_7 q.1 | exact b_17 (w_le11.mpr q.2.1) | (exact absurd q.2.2 (by rw [c_33]; decide)))
    · have b_17 := wb_1 e_17 c_20
      refine G.aload_n C 0 dX6_life_23 rfl rfl ?_
      refine G.get (g := 20) (i := 0) C 19 none dX6_life_24 (by decide) rfl rfl uX_X6 (by decide) uf_RX6_49 rfl rfl ?_
      refine G.iload_n C 1 dX6_life_27 rfl rfl ?_
      have hin_28 : vp_in a 8 := by
        exact vp_ofc b_7 hc hc8 (by decide)
      refine G.iald (g := 34) (i := 0) (n := 8) C dX6_life_28 (by decide) rfl hin_28 ?_
      refine G.iload_n C 2 dX6_life_29 rfl rfl ?_
      refine G.ishr C dX6_life_30 ?_
      refine G.iconst (v := 1) C dX6_life_31 (by decide) ?_
      refine G.iand C dX6_life_32 ?_
      refine G.if_ne (tgt := 38) C dX6_life_33 (by decide) (fun c_33 => ?_) (fun c_33 => ?_)
      · have hbit : (σ.1 34 0 a.toNatClampNeg >>> (b &&& 31)) &&& 1 = 1 := w_bit1 c_33
        refine G.iconst (v := 0) C dX6_life_38 (by decide) ?_
        refine G.istore_n (L1 := [(3, .int 0), (0, .ref (w.2.2.2.1 20 0)), (1, .int a), (2, .int b)]) C dX6_life_39 rfl (by decide) rfl ?_
        refine G.iconst (v := 0) C dX6_life_40 (by decide) ?_
        refine G.istore (L1 := [(4, .int 0), (3, .int 0), (0, .ref (w.2.2.2.1 20 0)), (1, .int a), (2, .int b)]) C dX6_life_41 (by decide) rfl ?_
        have cut_43 : ∀ (m9 : Nat) (j : Nat) (x4 x3 : Int32), j ≤ c → c < j + m9 → x4 = nI j → x3 = lifeU (fun q => chU (σ.1 34 0) (fun q => fromU (σ.1 33 0) (costU (σ.1 34 0) (σ.1 24 0 3) (σ.1 24 0 4) (σ.1 20 0 17) q) q.toNatClampNeg c) (σ.1 20 0 17) a b 8 q) j → G w x 6 Q 43 [(4, .int x4), (3, .int x3), (0, .ref (w.2.2.2.1 20 0)), (1, .int a), (2, .int b)] [] σ := by
          intro m9
          induction m9 with
          | zero =>
            intro j x4 x3 hj hm hx4 hx3
            exfalso
            omega
          | succ m9 ih_43 =>
            intro j x4 x3 hj hm hx4 hx3
            subst hx4
            subst hx3
            refine G.iload C 0 dX6_life_43 rfl ?_
            refine G.aload_n C 2 dX6_life_45 rfl rfl ?_
            refine G.get (g := 20) (i := 0) C 17 none dX6_life_46 (by decide) rfl rfl uX_X6 (by decide) uf_RX6_108 rfl rfl ?_
            refine G.icmp_ge (tgt := 115) C dX6_life_49 (by decide) (fun c_49 => ?_) (fun c_49 => ?_)
            · have hjn : j = c := by
                rw [hc, nI_leI (by omega) (by omega)] at c_49; omega
              refine G.iload_n C 1 dX6_life_115 rfl rfl ?_
              subst hQ
              exact G.iret C hr dX6_life_116 (by
                  refine ⟨rfl, Or.inr ⟨⟨b_7, w_le11.mp b_17, hbit⟩, ?_⟩⟩
                  rw [hjn])
            · have hjn : j < c := by
                rw [hc, nI_leI (by omega) (by omega)] at c_49; omega
              refine G.iload C 0 dX6_life_52 rfl ?_
              refine G.topi (fun x5_54 ex5_54 => ?_)
              refine G.istore (L1 := [(5, .int x5_54), (4, .int (nI j)), (3, .int (lifeU (fun q => chU (σ.1 34 0) (fun q => fromU (σ.1 33 0) (costU (σ.1 34 0) (σ.1 24 0 3) (σ.1 24 0 4) (σ.1 20 0 17) q) q.toNatClampNeg c) (σ.1 20 0 17) a b 8 q) j)), (0, .ref (w.2.2.2.1 20 0)), (1, .int a), (2, .int b)]) C dX6_life_54 (by decide) rfl ?_
              have cut_56 : ∀ (m9 : Nat) (t : Nat) (on : Int32), t ≤ 8 → t < m9 → chU (σ.1 34 0) (fun q => fromU (σ.1 33 0) (costU (σ.1 34 0) (σ.1 24 0 3) (σ.1 24 0 4) (σ.1 20 0 17) q) q.toNatClampNeg c) (σ.1 20 0 17) a b t on = chU (σ.1 34 0) (fun q => fromU (σ.1 33 0) (costU (σ.1 34 0) (σ.1 24 0 3) (σ.1 24 0 4) (σ.1 20 0 17) q) q.toNatClampNeg c) (σ.1 20 0 17) a b 8 (nI j) → on = -9 ∨ (inN (σ.1 20 0 17) on ∧ rankU (σ.1 33 0) (σ.1 33 0 on.toNatClampNeg) c < t) → G w x 6 Q 56 [(5, .int on), (4, .int (nI j)), (3, .int (lifeU (fun q => chU (σ.1 34 0) (fun q => fromU (σ.1 33 0) (costU (σ.1 34 0) (σ.1 24 0 3) (σ.1 24 0 4) (σ.1 20 0 17) q) q.toNatClampNeg c) (σ.1 20 0 17) a b 8 q) j)), (0, .ref (w.2.2.2.1 20 0)), (1, .int a), (2, .int b)] [] σ := by
                intro m9
                induction m9 with
                | zero =>
                  intro t on ht hm2 hch hinv
                  exfalso
                  omega
                | succ m9 ih_56 =>
                  intro t on ht hm2 hch hinv
                  refine G.iload C 0 dX6_life_56 rfl ?_
                  refine G.bipush (v := -9) C dX6_life_58 (by decide) ?_
                  refine G.icmp_eq (tgt := 95) C dX6_life_60 (by decide) (fun c_60 => ?_) (fun c_60 => ?_)
                  · have hr0 : chU (σ.1 34 0) (fun q => fromU (σ.1 33 0) (costU (σ.1 34 0) (σ.1 24 0 3) (σ.1 24 0 4) (σ.1 20 0 17) q) q.toNatClampNeg c) (σ.1 20 0 17) a b 8 (nI j) = false := by
                      rw [← hch, c_60]
                      cases t with
                      | zero => rfl
                      | succ t => simp only [chU]; rw [if_pos (fun q => absurd q.1 (by decide))]
                    refine G.iload_n C 2 dX6_life_95 rfl rfl ?_
                    refine G.iload C 0 dX6_life_96 rfl ?_
                    refine G.iload_n C 4 dX6_life_98 rfl rfl ?_
                    refine G.icmp_ne (tgt := 106) C dX6_life_99 (by decide) (fun c_99 => ?_) (fun c_99 => ?_)
                    · refine G.iconst (v := 0) C dX6_life_106 (by decide) ?_
                      refine G.iadd C dX6_life_107 ?_
                      refine G.topi (fun x3_108 ex3_108 => ?_)
                      refine G.istore_n (L1 := [(3, .int x3_108), (5, .int on), (4, .int (nI j)), (0, .ref (w.2.2.2.1 20 0)), (1, .int a), (2, .int b)]) C dX6_life_108 rfl (by decide) rfl ?_
                      obtain ⟨x4_109, ex4_109⟩ : ∃ z : Int32, z = (nI j) + 1 := ⟨_, rfl⟩
                      refine G.iinc (v := x4_109) (L1 := [(4, .int x4_109), (3, .int x3_108), (5, .int on), (0, .ref (w.2.2.2.1 20 0)), (1, .int a), (2, .int b)]) C 2 dX6_life_109 rfl (by rw [ex4_109]; rfl) (by decide) rfl ?_
                      refine G.goto (tgt := 43) C dX6_life_112 (by decide) ?_
                      refine G.sub (L1 := [(4, .int x4_109), (3, .int x3_108), (0, .ref (w.2.2.2.1 20 0)), (1, .int a), (2, .int b)]) [0, 1, 3, 4, 5] rfl ?_
                      refine ih_43  (j + 1) _ _ ?_ ?_ ?_ ?_
                      · omega
                      · omega
                      · rw [ex4_109]; exact nI_1 j
                      · rw [ex3_108, i_add0, lifeU_f (by simp only [hr0]; decide)]
                    · refine G.iconst (v := 1) C dX6_life_102 (by decide) ?_
                      refine G.goto (tgt := 107) C dX6_life_103 (by decide) ?_
                      refine G.iadd C dX6_life_107 ?_
                      refine G.topi (fun x3_108 ex3_108 => ?_)
                      refine G.istore_n (L1 := [(3, .int x3_108), (5, .int on), (4, .int (nI j)), (0, .ref (w.2.2.2.1 20 0)), (1, .int a), (2, .int b)]) C dX6_life_108 rfl (by decide) rfl ?_
                      obtain ⟨x4_109, ex4_109⟩ : ∃ z : Int32, z = (nI j) + 1 := ⟨_, rfl⟩
                      refine G.iinc (v := x4_109) (L1 := [(4, .int x4_109), (3, .int x3_108), (5, .int on), (0, .ref (w.2.2.2.1 20 0)), (1, .int a), (2, .int b)]) C 2 dX6_life_109 rfl (by rw [ex4_109]; rfl) (by decide) rfl ?_
                      refine G.goto (tgt := 43) C dX6_life_112 (by decide) ?_
                      refine G.sub (L1 := [(4, .int x4_109), (3, .int x3_108), (0, .ref (w.2.2.2.1 20 0)), (1, .int a), (2, .int b)]) [0, 1, 3, 4, 5] rfl ?_
                      refine ih_43  (j + 1) _ _ ?_ ?_ ?_ ?_
                      · omega
                      · omega
                      · rw [ex4_109]; exact nI_1 j
                      · exfalso
                        rw [c_60] at c_99
                        rw [← c_99] at b_7
                        exact absurd b_7.1 (by decide)
                  · refine G.iload C 0 dX6_life_63 rfl ?_
                    refine G.iload_n C 4 dX6_life_65 rfl rfl ?_
                    refine G.icmp_eq (tgt := 95) C dX6_life_66 (by decide) (fun c_66 => ?_) (fun c_66 => ?_)
                    · have hon : inN (σ.1 20 0 17) on := c_66 ▸ b_7
                      have hr0 : chU (σ.1 34 0) (fun q => fromU (σ.1 33 0) (costU (σ.1 34 0) (σ.1 24 0 3) (σ.1 24 0 4) (σ.1 20 0 17) q) q.toNatClampNeg c) (σ.1 20 0 17) a b 8 (nI j) = true := by
                        rw [← hch]
                        have ht0 : 0 < t := by rcases hinv with q | q
                                               · exact absurd q c_60
                                               · omega
                        obtain ⟨k9, rfl⟩ : ∃ k9, t = k9 + 1 := ⟨t - 1, by omega⟩
                        simp only [chU]
                        rw [if_neg (fun q => q hon), if_neg (fun q => q (by rw [c_66]; exact hbit)), if_pos c_66]
                      refine G.iload_n C 2 dX6_life_95 rfl rfl ?_
                      refine G.iload C 0 dX6_life_96 rfl ?_
                      refine G.iload_n C 4 dX6_life_98 rfl rfl ?_
                      refine G.icmp_ne (tgt := 106) C dX6_life_99 (by decide) (fun c_99 => ?_) (fun c_99 => ?_)
                      · refine G.iconst (v := 0) C dX6_life_106 (by decide) ?_
                        refine G.iadd C dX6_life_107 ?_
                        refine G.topi (fun x3_108 ex3_108 => ?_)
                        refine G.istore_n (L1 := [(3, .int x3_108), (5, .int on), (4, .int (nI j)), (0, .ref (w.2.2.2.1 20 0)), (1, .int a), (2, .int b)]) C dX6_life_108 rfl (by decide) rfl ?_
                        obtain ⟨x4_109, ex4_109⟩ : ∃ z : Int32, z = (nI j) + 1 := ⟨_, rfl⟩
                        refine G.iinc (v := x4_109) (L1 := [(4, .int x4_109), (3, .int x3_108), (5, .int on), (0, .ref (w.2.2.2.1 20 0)), (1, .int a), (2, .int b)]) C 2 dX6_life_109 rfl (by rw [ex4_109]; rfl) (by decide) rfl ?_
                        refine G.goto (tgt := 43) C dX6_life_112 (by decide) ?_
                        refine G.sub (L1 := [(4, .int x4_109), (3, .int x3_108), (0, .ref (w.2.2.2.1 20 0)), (1, .int a), (2, .int b)]) [0, 1, 3, 4, 5] rfl ?_
                        refine ih_43  (j + 1) _ _ ?_ ?_ ?_ ?_
                        · omega
                        · omega
                        · rw [ex4_109]; exact nI_1 j
                        · exact absurd c_66 c_99
                      · refine G.iconst (v := 1) C dX6_life_102 (by decide) ?_
                        refine G.goto (tgt := 107) C dX6_life_103 (by decide) ?_
                        refine G.iadd C dX6_life_107 ?_
                        refine G.topi (fun x3_108 ex3_108 => ?_)
                        refine G.istore_n (L1 := [(3, .int x3_108), (5, .int on), (4, .int (nI j)), (0, .ref (w.2.2.2.1 20 0)), (1, .int a), (2, .int b)]) C dX6_life_108 rfl (by decide) rfl ?_
                        obtain ⟨x4_109, ex4_109⟩ : ∃ z : Int32, z = (nI j) + 1 := ⟨_, rfl⟩
                        refine G.iinc (v := x4_109) (L1 := [(4, .int x4_109), (3, .int x3_108), (5, .int on), (0, .ref (w.2.2.2.1 20 0)), (1, .int a), (2, .int b)]) C 2 dX6_life_109 rfl (by rw [ex4_109]; rfl) (by decide) rfl ?_
                        refine G.goto (tgt := 43) C dX6_life_112 (by decide) ?_
                        refine G.sub (L1 := [(4, .int x4_109), (3, .int x3_108), (0, .ref (w.2.2.2.1 20 0)), (1, .int a), (2, .int b)]) [0, 1, 3, 4, 5] rfl ?_
                        refine ih_43  (j + 1) _ _ ?_ ?_ ?_ ?_
                        · omega
                        · omega
                        · rw [ex4_109]; exact nI_1 j
                        · rw [ex3_108, lifeU_t hr0]
                    · have hon : inN (σ.1 20 0 17) on := hinv.elim (fun q => absurd q c_60) (fun q => q.1)
                      have hrk := hinv.elim (fun q => absurd q c_60) (fun q => q.2)
                      refine G.aload_n C 3 dX6_life_69 rfl rfl ?_
                      refine G.get (g := 20) (i := 0) C 19 none dX6_life_70 (by decide) rfl rfl uX_X6 (by decide) uf_RX6_49 rfl rfl ?_
                      refine G.iload C 0 dX6_life_73 rfl ?_
                      have hin_75 : vp_in on 8 := by
                        exact vp_ofc hon hc hc8 (by decide)
                      refine G.iald (g := 34) (i := 0) (n := 8) C dX6_life_75 (by decide) rfl hin_75 ?_
                      refine G.iload_n C 5 dX6_life_76 rfl rfl ?_
                      refine G.ishr C dX6_life_77 ?_
                      refine G.iconst (v := 1) C dX6_life_78 (by decide) ?_
                      refine G.iand C dX6_life_79 ?_
                      refine G.iconst (v := 1) C dX6_life_80 (by decide) ?_
                      refine G.icmp_ne (tgt := 95) C dX6_life_81 (by decide) (fun c_81 => ?_) (fun c_81 => ?_)
                      · have hr0 : chU (σ.1 34 0) (fun q => fromU (σ.1 33 0) (costU (σ.1 34 0) (σ.1 24 0 3) (σ.1 24 0 4) (σ.1 20 0 17) q) q.toNatClampNeg c) (σ.1 20 0 17) a b 8 (nI j) = false := by
                          rw [← hch]
                          cases t with
                          | zero => rfl
                          | succ t => simp only [chU]; rw [if_neg (fun q => q hon), if_pos c_81]
                        refine G.iload_n C 2 dX6_life_95 rfl rfl ?_
                        refine G.iload C 0 dX6_life_96 rfl ?_
                        refine G.iload_n C 4 dX6_life_98 rfl rfl ?_
                        refine G.icmp_ne (tgt := 106) C dX6_life_99 (by decide) (fun c_99 => ?_) (fun c_99 => ?_)
                        · refine G.iconst (v := 0) C dX6_life_106 (by decide) ?_
                          refine G.iadd C dX6_life_107 ?_
                          refine G.topi (fun x3_108 ex3_108 => ?_)
                          refine G.istore_n (L1 := [(3, .int x3_108), (5, .int on), (4, .int (nI j)), (0, .ref (w.2.2.2.1 20 0)), (1, .int a), (2, .int b)]) C dX6_life_108 rfl (by decide) rfl ?_
                          obtain ⟨x4_109, ex4_109⟩ : ∃ z : Int32, z = (nI j) + 1 := ⟨_, rfl⟩
                          refine G.iinc (v := x4_109) (L1 := [(4, .int x4_109), (3, .int x3_108), (5, .int on), (0, .ref (w.2.2.2.1 20 0)), (1, .int a), (2, .int b)]) C 2 dX6_life_109 rfl (by rw [ex4_109]; rfl) (by decide) rfl ?_
                          refine G.goto (tgt := 43) C dX6_life_112 (by decide) ?_
                          refine G.sub (L1 := [(4, .int x4_109), (3, .int x3_108), (0, .ref (w.2.2.2.1 20 0)), (1, .int a), (2, .int b)]) [0, 1, 3, 4, 5] rfl ?_
                          refine ih_43  (j + 1) _ _ ?_ ?_ ?_ ?_
                          · omega
                          · omega
                          · rw [ex4_109]; exact nI_1 j
                          · rw [ex3_108, i_add0, lifeU_f (by simp only [hr0]; decide)]
                        · refine G.iconst (v := 1) C dX6_life_102 (by decide) ?_
                          refine G.goto (tgt := 107) C dX6_life_103 (by decide) ?_
                          refine G.iadd C dX6_life_107 ?_
                          refine G.topi (fun x3_108 ex3_108 => ?_)
                          refine G.istore_n (L1 := [(3, .int x3_108), (5, .int on), (4, .int (nI j)), (0, .ref (w.2.2.2.1 20 0)), (1, .int a), (2, .int b)]) C dX6_life_108 rfl (by decide) rfl ?_
                          obtain ⟨x4_109, ex4_109⟩ : ∃ z : Int32, z = (nI j) + 1 := ⟨_, rfl⟩
                          refine G.iinc (v := x4_109) (L1 := [(4, .int x4_109), (3, .int x3_108), (5, .int on), (0, .ref (w.2.2.2.1 20 0)), (1, .int a), (2, .int b)]) C 2 dX6_life_109 rfl (by rw [ex4_109]; rfl) (by decide) rfl ?_
                          refine G.goto (tgt := 43) C dX6_life_112 (by decide) ?_
                          refine G.sub (L1 := [(4, .int x4_109), (3, .int x3_108), (0, .ref (w.2.2.2.1 20 0)), (1, .int a), (2, .int b)]) [0, 1, 3, 4, 5] rfl ?_
                          refine ih_43  (j + 1) _ _ ?_ ?_ ?_ ?_
                          · omega
                          · omega
                          · rw [ex4_109]; exact nI_1 j
                          · exact absurd c_99 c_66
                      · obtain ⟨k9, hk9⟩ : ∃ k9, t = k9 + 1 := ⟨t - 1, by omega⟩
                        refine G.aload_n C 3 dX6_life_84 rfl rfl ?_
                        refine G.iload C 0 dX6_life_85 rfl ?_
                        have hM_2 := ok_X6_fromOf hw σ on hc hc8 hE hon
                        refine G.callV C (g := 20) (i := 0) none hM_2 dX6_life_87 (by decide) rfl rfl rfl uv_X6_fromOf ul_RX6_121 rfl rfl (by decide) (Nat.le_of_ble_eq_true rfl) (fun r_87 τ_87 h_87 => ?_)
                        obtain ⟨h_87, e_87⟩ := h_87; subst h_87
                        refine G.istore (L1 := [(5, .int r_87), (4, .int (nI j)), (3, .int (lifeU (fun q => chU (σ.1 34 0) (fun q => fromU (σ.1 33 0) (costU (σ.1 34 0) (σ.1 24 0 3) (σ.1 24 0 4) (σ.1 20 0 17) q) q.toNatClampNeg c) (σ.1 20 0 17) a b 8 q) j)), (0, .ref (w.2.2.2.1 20 0)), (1, .int a), (2, .int b)]) C dX6_life_90 (by decide) rfl ?_
                        refine G.goto (tgt := 56) C dX6_life_92 (by decide) ?_
                        refine ih_56  k9 _ ?_ ?_ ?_ ?_
                        · omega
                        · omega
                        · rw [← hch, hk9, e_87]
                          simp only [chU]
                          rw [if_neg (fun q => q hon), if_neg (fun q => q c_81), if_neg c_66]
                        · rw [e_87]
                          rcases fromU_rng (y := σ.1 33 0) (f := costU (σ.1 34 0) (σ.1 24 0 3) (σ.1 24 0 4) (σ.1 20 0 17) on) (m := on.toNatClampNeg) (n := c) (by omega) c (Nat.le_refl c) with q | q
                          · exact Or.inl q
                          · refine Or.inr ⟨hc ▸ q, ?_⟩
                            have h1 := fromU_yr (y := σ.1 33 0) (f := costU (σ.1 34 0) (σ.1 24 0 3) (σ.1 24 0 4) (σ.1 20 0 17) on) (m := on.toNatClampNeg) c (by omega) (fun z => by rw [z] at q; exact absurd q.1 (by decide))
                            have h2 := rank_step h1 c (vp_ofl q (by omega))
                            omega
              refine cut_56 9 8 _ ?_ ?_ ?_ ?_
              · omega
              · omega
              · rw [ex5_54]
              · rw [ex5_54]
                refine Or.inr ⟨hc ▸ inN_nI hjn (by omega), ?_⟩
                rw [nI_clamp (by omega)]
                have := rank_lt (y := σ.1 33 0) c hjn
                omega
        refine cut_43 (c + 1) 0 _ _ ?_ ?_ ?_ ?_
        · omega
        · omega
        · rfl
        · rfl
      · refine G.iconst (v := -1) C dX6_life_36 (by decide) ?_
        subst hQ
        exact G.iret C hr dX6_life_37 (by
            refine ⟨rfl, Or.inl ⟨fun q => ?_, rfl⟩⟩
            first | exact b_7 q.1 | exact b_17 (w_le11.mpr q.2.1) | (exact absurd q.2.2 (by rw [c_33]; decide)))
