set_option maxHeartbeats 4000000 in
set_option maxRecDepth 100000 in
theorem ok_X5_areYears {w : wD} (hw : wOK w) (σ : wSt) (a b : Int32)  : MI w yX5_areYears cX5_areYears 2 (some .boolean) 1 20 [.int a, .int b] σ (fun r τ => σ = τ ∧ r = wb (okYY a b)) := by
  refine MI.of hw (by decide +kernel) (Nat.le_of_ble_eq_true rfl) (fun x C hr => ?_)
  suffices key : ∀ Q, Q = QI w x (fun r τ => σ = τ ∧ r = wb (okYY a b)) → G w x 2 Q 0 [(0, .int a), (1, .int b)] [] σ from key _ rfl
  intro Q hQ
  refine G.iload_n C 0 dX5_areYears_0 rfl rfl ?_
  have hM_0 := ok_X5_isYear hw σ a
  refine G.callS C none hM_0 dX5_areYears_1 us_X5_isYear ul_RX5_136 rfl rfl (by decide) (Nat.le_of_ble_eq_true rfl) (fun r_1 τ_1 h_1 => ?_)
  obtain ⟨h_1, e_1⟩ := h_1; subst h_1
  refine G.if_eq (tgt := 23) C dX5_areYears_4 (by decide) (fun c_4 => ?_) (fun c_4 => ?_)
  · have b_1 := wb_0 e_1 c_4
    refine G.iconst (v := 0) C dX5_areYears_23 (by decide) ?_
    subst hQ
    exact G.zret C hr (by rfl) dX5_areYears_24 (by
        exact ⟨rfl, (wb_f (fun q => b_1 q.1)).symm⟩)
  · have b_1 := wb_1 e_1 c_4
    refine G.iload_n C 1 dX5_areYears_7 rfl rfl ?_
    have hM_1 := ok_X5_isYear hw σ b
    refine G.callS C none hM_1 dX5_areYears_8 us_X5_isYear ul_RX5_136 rfl rfl (by decide) (Nat.le_of_ble_eq_true rfl) (fun r_8 τ_8 h_8 => ?_)
    obtain ⟨h_8, e_8⟩ := h_8; subst h_8
    refine G.if_eq (tgt := 23) C dX5_areYears_11 (by decide) (fun c_11 => ?_) (fun c_11 => ?_)
    · have b_8 := wb_0 e_8 c_11
      refine G.iconst (v := 0) C dX5_areYears_23 (by decide) ?_
      subst hQ
      exact G.zret C hr (by rfl) dX5_areYears_24 (by
          exact ⟨rfl, (wb_f (fun q => b_8 q.2.1)).symm⟩)
    · have b_8 := wb_1 e_8 c_11
      refine G.iload_n C 0 dX5_areYears_14 rfl rfl ?_
      refine G.iload_n C 1 dX5_areYears_15 rfl rfl ?_
      refine G.icmp_gt (tgt := 23) C dX5_areYears_16 (by decide) (fun c_16 => ?_) (fun c_16 => ?_)
      · refine G.iconst (v := 0) C dX5_areYears_23 (by decide) ?_
        subst hQ
        exact G.zret C hr (by rfl) dX5_areYears_24 (by
            exact ⟨rfl, (wb_f (fun q => Int32.not_le.mpr c_16 q.2.2)).symm⟩)
      · refine G.iconst (v := 1) C dX5_areYears_19 (by decide) ?_
        refine G.goto (tgt := 24) C dX5_areYears_20 (by decide) ?_
        subst hQ
        exact G.zret C hr (by rfl) dX5_areYears_24 (by
            exact ⟨rfl, (wb_t ⟨b_1, b_8, Int32.not_lt.mp c_16⟩).symm⟩)
set_option maxHeartbeats 4000000 in
set_option maxRecDepth 100000 in
theorem ok_X3_addState {w : wD} (hw : wOK w) (σ : wSt) (a b c : Int32) {n : Nat} (hn : σ.1 1 0 5 = nI n) (h6 : n ≤ 6) : MI w yX3_addState cX3_addState 4 (some .int) 1 22 [.ref (w.2.2.2.1 1 0), .int a, .int b, .int c] σ (fun r τ => (6 ≤ n ∧ σ = τ ∧ r = -3) ∨ (n < 6 ∧ wUp (wUp (wUp (wUp σ 6 0 n a) 11 n 0 b) 11 n 1 c) 1 0 5 (nI (n + 1)) = τ ∧ r = nI n)) := by
  refine MI.of hw (by decide +kernel) (Nat.le_of_ble_eq_true rfl) (fun x C hr => ?_)
  suffices key : ∀ Q, Q = QI w x (fun r τ => (6 ≤ n ∧ σ = τ ∧ r = -3) ∨ (n < 6 ∧ wUp (wUp (wUp (wUp σ 6 0 n a) 11 n 0 b) 11 n 1 c) 1 0 5 (nI (n + 1)) = τ ∧ r = nI n)) → G w x 4 Q 0 [(0, .ref (w.2.2.2.1 1 0)), (1, .int a), (2, .int b), (3, .int c)] [] σ from key _ rfl
  intro Q hQ
  refine G.aload_n C 0 dX3_addState_0 rfl rfl ?_
  refine G.get (g := 1) (i := 0) C 5 none dX3_addState_1 (by decide) rfl rfl uX_X3 (by decide) uf_RX3_31 rfl rfl ?_
  refine G.bipush (v := 6) C dX3_addState_4 (by decide) ?_
  refine G.icmp_lt (tgt := 12) C dX3_addState_6 (by decide) (fun c_6 => ?_) (fun c_6 => ?_)
  · have hh9 : n < 6 := by
      rw [hn] at c_6
      exact (nI_ltI (by omega) (by decide)).mp c_6
    refine G.aload_n C 0 dX3_addState_12 rfl rfl ?_
    refine G.get (g := 1) (i := 0) C 3 none dX3_addState_13 (by decide) rfl rfl uX_X3 (by decide) uf_RX3_21 rfl rfl ?_
    refine G.aload_n C 0 dX3_addState_16 rfl rfl ?_
    refine G.get (g := 1) (i := 0) C 5 none dX3_addState_17 (by decide) rfl rfl uX_X3 (by decide) uf_RX3_31 rfl rfl ?_
    refine G.iload_n C 1 dX3_addState_20 rfl rfl ?_
    have hin_21 : vp_in (σ.1 1 0 5) 6 := by
      rw [hn]; exact vp_in_nI (by omega) (by decide)
    refine G.iast (g := 6) (i := 0) (n := 6) C dX3_addState_21 (by decide) rfl hin_21 w_ast_6 ?_
    refine G.aload_n C 0 dX3_addState_22 rfl rfl ?_
    refine G.get (g := 1) (i := 0) C 4 none dX3_addState_23 (by decide) rfl rfl uX_X3 (by decide) uf_RX3_27 rfl rfl ?_
    refine G.aload_n C 0 dX3_addState_26 rfl rfl ?_
    refine G.get (g := 1) (i := 0) C 5 none dX3_addState_27 (by decide) rfl rfl uX_X3 (by decide) uf_RX3_31 rfl rfl ?_
    have hin_30 : vp_in ((wUp σ 6 0 (σ.1 1 0 5).toNatClampNeg a).1 1 0 5) 6 := by
      rw [wUp_ng (by decide), hn]; exact vp_in_nI (by omega) (by decide)
    refine G.aald (g := 7) (i := 0) (n := 6) (f := fun q => w.2.2.2.1 11 q) C 2 dX3_addState_30 (by decide) rfl rfl rfl hin_30 ?_
    refine G.iload_n C 2 dX3_addState_31 rfl rfl ?_
    refine G.iload_n C 3 dX3_addState_32 rfl rfl ?_
    have hM_0 := ok_X4_put_11 hw (wUp σ 6 0 (σ.1 1 0 5).toNatClampNeg a) (((wUp σ 6 0 (σ.1 1 0 5).toNatClampNeg a).1 1 0 5).toNatClampNeg) b c (vp_lt hin_30)
    refine G.callVv C (g := 11) (i := (((wUp σ 6 0 (σ.1 1 0 5).toNatClampNeg a).1 1 0 5).toNatClampNeg)) (some "PlateRoom") hM_0 dX3_addState_33 (vp_lt hin_30) rfl rfl rfl uv_X4_put unm_RX3_43 rfl rfl (by decide) (Nat.le_of_ble_eq_true rfl) (fun τ_33 h_33 => ?_)
    subst h_33
    refine G.aload_n C 0 dX3_addState_36 rfl rfl ?_
    refine G.dup C dX3_addState_37 rfl ?_
    refine G.get (g := 1) (i := 0) C 5 none dX3_addState_38 (by decide) rfl rfl uX_X3 (by decide) uf_RX3_31 rfl rfl ?_
    refine G.dup_x1 C dX3_addState_41 rfl rfl ?_
    refine G.iconst (v := 1) C dX3_addState_42 (by decide) ?_
    refine G.iadd C dX3_addState_43 ?_
    refine G.put (g := 1) (i := 0) C 5 none dX3_addState_44 (by decide) rfl rfl uX_X3 tyX3 tyX3_ok nmX3 (by decide) uf_RX3_31 rfl rfl (by decide +kernel) (Nat.le_of_ble_eq_true rfl) w_up_1_5 ?_
    subst hQ
    exact G.iret C hr dX3_addState_47 (by
        refine Or.inr ⟨hh9, ?_, ?_⟩
        · simp only [wUp_ng (show 1 ≠ 6 by decide), wUp_ng (show 1 ≠ 11 by decide), hn, nI_clamp (show n < 2 ^ 31 by omega), nI_1]
        · simp only [wUp_ng (show 1 ≠ 6 by decide), wUp_ng (show 1 ≠ 11 by decide), hn, nI_clamp (show n < 2 ^ 31 by omega), nI_1])
  · have hh9 : 6 ≤ n := by
      rw [hn] at c_6
      rcases Nat.lt_or_ge n 6 with q | q
      · exact absurd (nI_lt q (by decide)) c_6
      · exact q
    refine G.bipush (v := -3) C dX3_addState_9 (by decide) ?_
    subst hQ
    exact G.iret C hr dX3_addState_11 (by
        exact Or.inl ⟨hh9, rfl, rfl⟩)
set_option maxHeartbeats 4000000 in
set_option maxRecDepth 100000 in
theorem ok_X5_state {w : wD} (hw : wOK w) (σ : wSt) (a b c : Int32) {n : Nat} (hn : σ.1 1 0 5 = nI n) (h6 : n ≤ 6) : MI w yX5_state cX5_state 4 (some .int) 2 45 [.ref (w.2.2.2.1 0 0), .int a, .int b, .int c] σ (fun r τ => (¬ (rng12 a ∧ okYY b c) ∧ σ = τ ∧ r = -1) ∨ ((rng12 a ∧ okYY b c) ∧ ((6 ≤ n ∧ σ = τ ∧ r = -3) ∨ (n < 6 ∧ wUp (wUp (wUp (wUp σ 6 0 n a) 11 n 0 b) 11 n 1 c) 1 0 5 (nI (n + 1)) = τ ∧ r = nI n)))) := by
  refine MI.of hw (by decide +kernel) (Nat.le_of_ble_eq_true rfl) (fun x C hr => ?_)
  suffices key : ∀ Q, Q = QI w x (fun r τ => (¬ (rng12 a ∧ okYY b c) ∧ σ = τ ∧ r = -1) ∨ ((rng12 a ∧ okYY b c) ∧ ((6 ≤ n ∧ σ = τ ∧ r = -3) ∨ (n < 6 ∧ wUp (wUp (wUp (wUp σ 6 0 n a) 11 n 0 b) 11 n 1 c) 1 0 5 (nI (n + 1)) = τ ∧ r = nI n)))) → G w x 4 Q 0 [(0, .ref (w.2.2.2.1 0 0)), (1, .int a), (2, .int b), (3, .int c)] [] σ from key _ rfl
  intro Q hQ
  refine G.iload_n C 1 dX5_state_0 rfl rfl ?_
  have hM_0 := ok_X5_areLines hw σ a
  refine G.callS C none hM_0 dX5_state_1 us_X5_areLines ul_RX5_55 rfl rfl (by decide) (Nat.le_of_ble_eq_true rfl) (fun r_1 τ_1 h_1 => ?_)
  obtain ⟨h_1, e_1⟩ := h_1; subst h_1
  refine G.if_eq (tgt := 15) C dX5_state_4 (by decide) (fun c_4 => ?_) (fun c_4 => ?_)
  · have b_1 := wb_0 e_1 c_4
    refine G.iconst (v := -1) C dX5_state_15 (by decide) ?_
    subst hQ
    exact G.iret C hr dX5_state_16 (by
        refine Or.inl ⟨fun q => ?_, rfl, rfl⟩
        first | exact b_1 q.1 | exact b_9 q.2)
  · have b_1 := wb_1 e_1 c_4
    refine G.iload_n C 2 dX5_state_7 rfl rfl ?_
    refine G.iload_n C 3 dX5_state_8 rfl rfl ?_
    have hM_1 := ok_X5_areYears hw σ b c
    refine G.callS C none hM_1 dX5_state_9 us_X5_areYears ul_RX5_59 rfl rfl (by decide) (Nat.le_of_ble_eq_true rfl) (fun r_9 τ_9 h_9 => ?_)
    obtain ⟨h_9, e_9⟩ := h_9; subst h_9
    refine G.if_ne (tgt := 17) C dX5_state_12 (by decide) (fun c_12 => ?_) (fun c_12 => ?_)
    · have b_9 := wb_1 e_9 c_12
      refine G.aload_n C 0 dX5_state_17 rfl rfl ?_
      refine G.get (g := 0) (i := 0) C 0 none dX5_state_18 (by decide) rfl rfl uX_X5 (by decide) uf_RX5_10 rfl rfl ?_
      refine G.iload_n C 1 dX5_state_21 rfl rfl ?_
      refine G.iload_n C 2 dX5_state_22 rfl rfl ?_
      refine G.iload_n C 3 dX5_state_23 rfl rfl ?_
      have hM_2 := ok_X3_addState hw σ a b c hn h6
      refine G.callV C (g := 1) (i := 0) (some "PlateRoom") hM_2 dX5_state_24 (by decide) rfl rfl rfl uv_X3_addState unm_RX5_63 rfl rfl (by decide) (Nat.le_of_ble_eq_true rfl) (fun r_24 τ_24 h_24 => ?_)
      subst hQ
      exact G.iret C hr dX5_state_27 (by
          exact Or.inr ⟨⟨b_1, b_9⟩, h_24⟩)
    · have b_9 := wb_0 e_9 c_12
      refine G.iconst (v := -1) C dX5_state_15 (by decide) ?_
      subst hQ
      exact G.iret C hr dX5_state_16 (by
          refine Or.inl ⟨fun q => ?_, rfl, rfl⟩
          first | exact b_1 q.1 | exact b_9 q.2)
set_option maxHeartbeats 4000000 in
set_option maxRecDepth 100000 in
theorem ok_X5_about {w : wD} (hw : wOK w) (σ : wSt) (a b : Int32) {n : Nat} (hn : σ.1 1 0 5 = nI n) (h6 : n ≤ 6) : MI w yX5_about cX5_about 3 (some .int) 1 21 [.ref (w.2.2.2.1 0 0), .int a, .int b] σ (fun r τ => σ = τ ∧ ((¬ (inN (σ.1 1 0 5) a ∧ 0 ≤ b ∧ b ≤ 2) ∧ r = -1) ∨ ((inN (σ.1 1 0 5) a ∧ 0 ≤ b ∧ b ≤ 2) ∧ r = if b = 0 then σ.1 6 0 a.toNatClampNeg else if b = 1 then σ.1 11 a.toNatClampNeg 0 else σ.1 11 a.toNatClampNeg 1))) := by
  refine MI.of hw (by decide +kernel) (Nat.le_of_ble_eq_true rfl) (fun x C hr => ?_)
  suffices key : ∀ Q, Q = QI w x (fun r τ => σ = τ ∧ ((¬ (inN (σ.1 1 0 5) a ∧ 0 ≤ b ∧ b ≤ 2) ∧ r = -1) ∨ ((inN (σ.1 1 0 5) a ∧ 0 ≤ b ∧ b ≤ 2) ∧ r = if b = 0 then σ.1 6 0 a.toNatClampNeg else if b = 1 then σ.1 11 a.toNatClampNeg 0 else σ.1 11 a.toNatClampNeg 1))) → G w x 3 Q 0 [(0, .ref (w.2.2.2.1 0 0)), (1, .int a), (2, .int b)] [] σ from key _ rfl
  intro Q hQ
  refine G.aload_n C 0 dX5_about_0 rfl rfl ?_
  refine G.get (g := 0) (i := 0) C 0 none dX5_about_1 (by decide) rfl rfl uX_X5 (by decide) uf_RX5_10 rfl rfl ?_
  refine G.iload_n C 1 dX5_about_4 rfl rfl ?_
  have hM_0 := ok_X3_hasState hw σ a
  refine G.callV C (g := 1) (i := 0) (some "PlateRoom") hM_0 dX5_about_5 (by decide) rfl rfl rfl uv_X3_hasState unm_RX5_67 rfl rfl (by decide) (Nat.le_of_ble_eq_true rfl) (fun r_5 τ_5 h_5 => ?_)
  obtain ⟨h_5, e_5⟩ := h_5; subst h_5
  refine G.if_ne (tgt := 13) C dX5_about_8 (by decide) (fun c_8 => ?_) (fun c_8 => ?_)
  · have b_5 := wb_1 e_5 c_8
    refine G.iload_n C 2 dX5_about_13 rfl rfl ?_
    refine G.table C dX5_about_14 (fun j off hj hb ho => ?_) (by decide) (fun hj => ?_)
    · have hj9 : j < 3 := by have := (Array.getElem?_eq_some_iff.mp ho).1; simpa using this
      rcases (show j = 0 ∨ j = 1 ∨ j = 2 by omega) with rfl | rfl | rfl
      · cases ho
        refine ⟨40, by decide, ?_⟩
        have c_14 : b = 0 := w_ofInt (by simpa using hj)
        refine G.aload_n C 0 dX5_about_40 rfl rfl ?_
        refine G.get (g := 0) (i := 0) C 0 none dX5_about_41 (by decide) rfl rfl uX_X5 (by decide) uf_RX5_10 rfl rfl ?_
        refine G.get (g := 1) (i := 0) C 3 (some "PlateRoom") dX5_about_44 (by decide) rfl rfl uX_X3 (by decide) unf_RX5_70 rfl rfl ?_
        refine G.iload_n C 1 dX5_about_47 rfl rfl ?_
        have hin_48 : vp_in a 6 := by
          exact vp_ofc b_5 hn h6 (by decide)
        refine G.iald (g := 6) (i := 0) (n := 6) C dX5_about_48 (by decide) rfl hin_48 ?_
        subst hQ
        exact G.iret C hr dX5_about_49 (by
            subst c_14
            exact ⟨rfl, Or.inr ⟨⟨b_5, by decide, by decide⟩, rfl⟩⟩)
      · cases ho
        refine ⟨50, by decide, ?_⟩
        have c_14 : b = 1 := w_ofInt (by simpa using hj)
        refine G.aload_n C 0 dX5_about_50 rfl rfl ?_
        refine G.get (g := 0) (i := 0) C 0 none dX5_about_51 (by decide) rfl rfl uX_X5 (by decide) uf_RX5_10 rfl rfl ?_
        refine G.get (g := 1) (i := 0) C 4 (some "PlateRoom") dX5_about_54 (by decide) rfl rfl uX_X3 (by decide) unf_RX5_74 rfl rfl ?_
        refine G.iload_n C 1 dX5_about_57 rfl rfl ?_
        have hin_58 : vp_in a 6 := by
          exact vp_ofc b_5 hn h6 (by decide)
        refine G.aald (g := 7) (i := 0) (n := 6) (f := fun q => w.2.2.2.1 11 q) C 2 dX5_about_58 (by decide) rfl rfl rfl hin_58 ?_
        refine G.get (g := 11) (i := a.toNatClampNeg) C 0 (some "PlateRoom") dX5_about_59 (vp_lt hin_58) rfl rfl uX_X4 (by decide) unf_RX5_77 rfl rfl ?_
        subst hQ
        exact G.iret C hr dX5_about_62 (by
            subst c_14
            exact ⟨rfl, Or.inr ⟨⟨b_5, by decide, by decide⟩, rfl⟩⟩)
      · cases ho
        refine ⟨63, by decide, ?_⟩
        have c_14 : b = 2 := w_ofInt (by simpa using hj)
        refine G.aload_n C 0 dX5_about_63 rfl rfl ?_
        refine G.get (g := 0) (i := 0) C 0 none dX5_about_64 (by decide) rfl rfl uX_X5 (by decide) uf_RX5_10 rfl rfl ?_
        refine G.get (g := 1) (i := 0) C 4 (some "PlateRoom") dX5_about_67 (by decide) rfl rfl uX_X3 (by decide) unf_RX5_74 rfl rfl ?_
        refine G.iload_n C 1 dX5_about_70 rfl rfl ?_
        have hin_71 : vp_in a 6 := by
          exact vp_ofc b_5 hn h6 (by decide)
        refine G.aald (g := 7) (i := 0) (n := 6) (f := fun q => w.2.2.2.1 11 q) C 2 dX5_about_71 (by decide) rfl rfl rfl hin_71 ?_
        refine G.get (g := 11) (i := a.toNatClampNeg) C 1 (some "PlateRoom") dX5_about_72 (vp_lt hin_71) rfl rfl uX_X4 (by decide) unf_RX5_80 rfl rfl ?_
        subst hQ
        exact G.iret C hr dX5_about_75 (by
            subst c_14
            exact ⟨rfl, Or.inr ⟨⟨b_5, by decide, by decide⟩, rfl⟩⟩)
    · refine ⟨76, by decide, ?_⟩
      have c_14 := hj
      refine G.iconst (v := -1) C dX5_about_76 (by decide) ?_
      subst hQ
      exact G.iret C hr dX5_about_77 (by
          refine ⟨rfl, Or.inl ⟨fun q => ?_, rfl⟩⟩
          exact w_out (k := 2) c_14 q.2.1 q.2.2)
  · have b_5 := wb_0 e_5 c_8
    refine G.iconst (v := -1) C dX5_about_11 (by decide) ?_
    subst hQ
    exact G.iret C hr dX5_about_12 (by
        refine ⟨rfl, Or.inl ⟨fun q => ?_, rfl⟩⟩
        first | exact b_5 q.1)
set_option maxHeartbeats 4000000 in
set_option maxRecDepth 100000 in
theorem ok_X5_mostOfCharge {w : wD} (hw : wOK w) (σ : wSt) (a : Int32)  : MI w yX5_mostOfCharge cX5_mostOfCharge 1 (some .int) 0 0 [.int a] σ (fun r τ => σ = τ ∧ r = mostC a) := by
  refine MI.of hw (by decide +kernel) (Nat.le_of_ble_eq_true rfl) (fun x C hr => ?_)
  suffices key : ∀ Q, Q = QI w x (fun r τ => σ = τ ∧ r = mostC a) → G w x 1 Q 0 [(0, .int a)] [] σ from key _ rfl
  intro Q hQ
  refine G.iload_n C 0 dX5_mostOfCharge_0 rfl rfl ?_
  refine G.table C dX5_mostOfCharge_1 (fun j off hj hb ho => ?_) (by decide) (fun hj => ?_)
  · have hj9 : j < 5 := by have := (Array.getElem?_eq_some_iff.mp ho).1; simpa using this
    rcases (show j = 0 ∨ j = 1 ∨ j = 2 ∨ j = 3 ∨ j = 4 by omega) with rfl | rfl | rfl | rfl | rfl
    · cases ho
      refine ⟨36, by decide, ?_⟩
      have c_1 : a = 0 := w_ofInt (by simpa using hj)
      refine G.bipush (v := 9) C dX5_mostOfCharge_36 (by decide) ?_
      subst hQ
      exact G.iret C hr dX5_mostOfCharge_38 (by
          subst c_1
          exact ⟨rfl, rfl⟩)
    · cases ho
      refine ⟨36, by decide, ?_⟩
      have c_1 : a = 1 := w_ofInt (by simpa using hj)
      refine G.bipush (v := 9) C dX5_mostOfCharge_36 (by decide) ?_
      subst hQ
      exact G.iret C hr dX5_mostOfCharge_38 (by
          subst c_1
          exact ⟨rfl, rfl⟩)
    · cases ho
      refine ⟨39, by decide, ?_⟩
      have c_1 : a = 2 := w_ofInt (by simpa using hj)
      refine G.bipush (v := 50) C dX5_mostOfCharge_39 (by decide) ?_
      subst hQ
      exact G.iret C hr dX5_mostOfCharge_41 (by
          subst c_1
          exact ⟨rfl, rfl⟩)
    · cases ho
      refine ⟨36, by decide, ?_⟩
      have c_1 : a = 3 := w_ofInt (by simpa using hj)
      refine G.bipush (v := 9) C dX5_mostOfCharge_36 (by decide) ?_
      subst hQ
      exact G.iret C hr dX5_mostOfCharge_38 (by
          subst c_1
          exact ⟨rfl, rfl⟩)
    · cases ho
      refine ⟨42, by decide, ?_⟩
      have c_1 : a = 4 := w_ofInt (by simpa using hj)
      refine G.bipush (v := 20) C dX5_mostOfCharge_42 (by decide) ?_
      subst hQ
      exact G.iret C hr dX5_mostOfCharge_44 (by
          subst c_1
          exact ⟨rfl, rfl⟩)
  · refine ⟨45, by decide, ?_⟩
    have c_1 := hj
    refine G.iconst (v := -1) C dX5_mostOfCharge_45 (by decide) ?_
    subst hQ
    exact G.iret C hr dX5_mostOfCharge_46 (by
        exact ⟨rfl, (mostC_out2 c_1).symm⟩)
set_option maxHeartbeats 4000000 in
set_option maxRecDepth 100000 in
theorem ok_X5_chargeOf {w : wD} (hw : wOK w) (σ : wSt) (a : Int32) (hk0 : 0 ≤ a) (hk5 : a ≤ 4) : MI w yX5_chargeOf cX5_chargeOf 2 (some .int) 0 0 [.ref (w.2.2.2.1 0 0), .int a] σ (fun r τ => σ = τ ∧ r = if a = 0 then σ.1 1 0 0 else if a = 1 then σ.1 1 0 1 else if a = 2 then σ.1 1 0 2 else if a = 3 then σ.1 2 0 0 else σ.1 2 0 1) := by
  refine MI.of hw (by decide +kernel) (Nat.le_of_ble_eq_true rfl) (fun x C hr => ?_)
  suffices key : ∀ Q, Q = QI w x (fun r τ => σ = τ ∧ r = if a = 0 then σ.1 1 0 0 else if a = 1 then σ.1 1 0 1 else if a = 2 then σ.1 1 0 2 else if a = 3 then σ.1 2 0 0 else σ.1 2 0 1) → G w x 2 Q 0 [(0, .ref (w.2.2.2.1 0 0)), (1, .int a)] [] σ from key _ rfl
  intro Q hQ
  refine G.iload_n C 1 dX5_chargeOf_0 rfl rfl ?_
  refine G.table C dX5_chargeOf_1 (fun j off hj hb ho => ?_) (by decide) (fun hj => ?_)
  · have hj9 : j < 5 := by have := (Array.getElem?_eq_some_iff.mp ho).1; simpa using this
    rcases (show j = 0 ∨ j = 1 ∨ j = 2 ∨ j = 3 ∨ j = 4 by omega) with rfl | rfl | rfl | rfl | rfl
    · cases ho
      refine ⟨36, by decide, ?_⟩
      have c_1 : a = 0 := w_ofInt (by simpa using hj)
      refine G.aload_n C 0 dX5_chargeOf_36 rfl rfl ?_
      refine G.get (g := 0) (i := 0) C 0 none dX5_chargeOf_37 (by decide) rfl rfl uX_X5 (by decide) uf_RX5_10 rfl rfl ?_
      refine G.get (g := 1) (i := 0) C 0 (some "PlateRoom") dX5_chargeOf_40 (by decide) rfl rfl uX_X3 (by decide) unf_RX5_229 rfl rfl ?_
      subst hQ
      exact G.iret C hr dX5_chargeOf_43 (by
          subst c_1
          exact ⟨rfl, rfl⟩)
    · cases ho
      refine ⟨44, by decide, ?_⟩
      have c_1 : a = 1 := w_ofInt (by simpa using hj)
      refine G.aload_n C 0 dX5_chargeOf_44 rfl rfl ?_
      refine G.get (g := 0) (i := 0) C 0 none dX5_chargeOf_45 (by decide) rfl rfl uX_X5 (by decide) uf_RX5_10 rfl rfl ?_
      refine G.get (g := 1) (i := 0) C 1 (some "PlateRoom") dX5_chargeOf_48 (by decide) rfl rfl uX_X3 (by decide) unf_RX5_232 rfl rfl ?_
      subst hQ
      exact G.iret C hr dX5_chargeOf_51 (by
          subst c_1
          exact ⟨rfl, rfl⟩)
    · cases ho
      refine ⟨52, by decide, ?_⟩
      have c_1 : a = 2 := w_ofInt (by simpa using hj)
      refine G.aload_n C 0 dX5_chargeOf_52 rfl rfl ?_
      refine G.get (g := 0) (i := 0) C 0 none dX5_chargeOf_53 (by decide) rfl rfl uX_X5 (by decide) uf_RX5_10 rfl rfl ?_
      refine G.get (g := 1) (i := 0) C 2 (some "PlateRoom") dX5_chargeOf_56 (by decide) rfl rfl uX_X3 (by decide) unf_RX5_235 rfl rfl ?_
      subst hQ
      exact G.iret C hr dX5_chargeOf_59 (by
          subst c_1
          exact ⟨rfl, rfl⟩)
    · cases ho
      refine ⟨60, by decide, ?_⟩
      have c_1 : a = 3 := w_ofInt (by simpa using hj)
      refine G.aload_n C 0 dX5_chargeOf_60 rfl rfl ?_
      refine G.get (g := 0) (i := 0) C 1 none dX5_chargeOf_61 (by decide) rfl rfl uX_X5 (by decide) uf_RX5_19 rfl rfl ?_
      refine G.get (g := 2) (i := 0) C 0 (some "PlateRoom") dX5_chargeOf_64 (by decide) rfl rfl uX_X0 (by decide) unf_RX5_238 rfl rfl ?_
      subst hQ
      exact G.iret C hr dX5_chargeOf_67 (by
          subst c_1
          exact ⟨rfl, rfl⟩)
    · cases ho
      refine ⟨68, by decide, ?_⟩
      have c_1 : a = 4 := w_ofInt (by simpa using hj)
      refine G.aload_n C 0 dX5_chargeOf_68 rfl rfl ?_
      refine G.get (g := 0) (i := 0) C 1 none dX5_chargeOf_69 (by decide) rfl rfl uX_X5 (by decide) uf_RX5_19 rfl rfl ?_
      refine G.get (g := 2) (i := 0) C 1 (some "PlateRoom") dX5_chargeOf_72 (by decide) rfl rfl uX_X0 (by decide) unf_RX5_241 rfl rfl ?_
      subst hQ
      exact G.iret C hr dX5_chargeOf_75 (by
          subst c_1
          exact ⟨rfl, rfl⟩)
  · refine ⟨76, by decide, ?_⟩
    have c_1 := hj
    refine G.iconst (v := -1) C dX5_chargeOf_76 (by decide) ?_
    subst hQ
    exact G.iret C hr dX5_chargeOf_77 (by
        exact absurd hk5 (fun q => w_out (k := 4) c_1 hk0 q))
set_option maxHeartbeats 4000000 in
set_option maxRecDepth 100000 in
theorem ok_X5_putCharge {w : wD} (hw : wOK w) (σ : wSt) (a b : Int32) (hk0 : 0 ≤ a) (hk5 : a ≤ 4) : MV w yX5_putCharge cX5_putCharge 3 none 0 0 [.ref (w.2.2.2.1 0 0), .int a, .int b] σ (fun τ => (if a = 0 then wUp σ 1 0 0 b else if a = 1 then wUp σ 1 0 1 b else if a = 2 then wUp σ 1 0 2 b else if a = 3 then wUp σ 2 0 0 b else wUp σ 2 0 1 b) = τ) := by
  refine MV.of hw (by decide +kernel) (Nat.le_of_ble_eq_true rfl) (fun x C hr => ?_)
  suffices key : ∀ Q, Q = QV w x (fun τ => (if a = 0 then wUp σ 1 0 0 b else if a = 1 then wUp σ 1 0 1 b else if a = 2 then wUp σ 1 0 2 b else if a = 3 then wUp σ 2 0 0 b else wUp σ 2 0 1 b) = τ) → G w x 3 Q 0 [(0, .ref (w.2.2.2.1 0 0)), (1, .int a), (2, .int b)] [] σ from key _ rfl
  intro Q hQ
  refine G.iload_n C 1 dX5_putCharge_0 rfl rfl ?_
  refine G.table C dX5_putCharge_1 (fun j off hj hb ho => ?_) (by decide) (fun hj => ?_)
  · have hj9 : j < 5 := by have := (Array.getElem?_eq_some_iff.mp ho).1; simpa using this
    rcases (show j = 0 ∨ j = 1 ∨ j = 2 ∨ j = 3 ∨ j = 4 by omega) with rfl | rfl | rfl | rfl | rfl
    · cases ho
      refine ⟨36, by decide, ?_⟩
      have c_1 : a = 0 := w_ofInt (by simpa using hj)
      refine G.aload_n C 0 dX5_putCharge_36 rfl rfl ?_
      refine G.get (g := 0) (i := 0) C 0 none dX5_putCharge_37 (by decide) rfl rfl uX_X5 (by decide) uf_RX5_10 rfl rfl ?_
      refine G.iload_n C 2 dX5_putCharge_40 rfl rfl ?_
      refine G.put (g := 1) (i := 0) C 0 (some "PlateRoom") dX5_putCharge_41 (by decide) rfl rfl uX_X3 tyX3 tyX3_ok nmX3 (by decide) unf_RX5_229 rfl rfl (by decide +kernel) (Nat.le_of_ble_eq_true rfl) w_up_1_0 ?_
      refine G.goto (tgt := 91) C dX5_putCharge_44 (by decide) ?_
      subst hQ
      exact G.vret C hr dX5_putCharge_91 (by
          subst c_1
          exact rfl)
    · cases ho
      refine ⟨47, by decide, ?_⟩
      have c_1 : a = 1 := w_ofInt (by simpa using hj)
      refine G.aload_n C 0 dX5_putCharge_47 rfl rfl ?_
      refine G.get (g := 0) (i := 0) C 0 none dX5_putCharge_48 (by decide) rfl rfl uX_X5 (by decide) uf_RX5_10 rfl rfl ?_
      refine G.iload_n C 2 dX5_putCharge_51 rfl rfl ?_
      refine G.put (g := 1) (i := 0) C 1 (some "PlateRoom") dX5_putCharge_52 (by decide) rfl rfl uX_X3 tyX3 tyX3_ok nmX3 (by decide) unf_RX5_232 rfl rfl (by decide +kernel) (Nat.le_of_ble_eq_true rfl) w_up_1_1 ?_
      refine G.goto (tgt := 91) C dX5_putCharge_55 (by decide) ?_
      subst hQ
      exact G.vret C hr dX5_putCharge_91 (by
          subst c_1
          exact rfl)
    · cases ho
      refine ⟨58, by decide, ?_⟩
      have c_1 : a = 2 := w_ofInt (by simpa using hj)
      refine G.aload_n C 0 dX5_putCharge_58 rfl rfl ?_
      refine G.get (g := 0) (i := 0) C 0 none dX5_putCharge_59 (by decide) rfl rfl uX_X5 (by decide) uf_RX5_10 rfl rfl ?_
      refine G.iload_n C 2 dX5_putCharge_62 rfl rfl ?_
      refine G.put (g := 1) (i := 0) C 2 (some "PlateRoom") dX5_putCharge_63 (by decide) rfl rfl uX_X3 tyX3 tyX3_ok nmX3 (by decide) unf_RX5_235 rfl rfl (by decide +kernel) (Nat.le_of_ble_eq_true rfl) w_up_1_2 ?_
      refine G.goto (tgt := 91) C dX5_putCharge_66 (by decide) ?_
      subst hQ
      exact G.vret C hr dX5_putCharge_91 (by
          subst c_1
          exact rfl)
    · cases ho
      refine ⟨69, by decide, ?_⟩
      have c_1 : a = 3 := w_ofInt (by simpa using hj)
      refine G.aload_n C 0 dX5_putCharge_69 rfl rfl ?_
      refine G.get (g := 0) (i := 0) C 1 none dX5_putCharge_70 (by decide) rfl rfl uX_X5 (by decide) uf_RX5_19 rfl rfl ?_
      refine G.iload_n C 2 dX5_putCharge_73 rfl rfl ?_
      refine G.put (g := 2) (i := 0) C 0 (some "PlateRoom") dX5_putCharge_74 (by decide) rfl rfl uX_X0 tyX0 tyX0_ok nmX0 (by decide) unf_RX5_238 rfl rfl (by decide +kernel) (Nat.le_of_ble_eq_true rfl) w_up_2_0 ?_
      refine G.goto (tgt := 91) C dX5_putCharge_77 (by decide) ?_
      subst hQ
      exact G.vret C hr dX5_putCharge_91 (by
          subst c_1
          exact rfl)
    · cases ho
      refine ⟨80, by decide, ?_⟩
      have c_1 : a = 4 := w_ofInt (by simpa using hj)
      refine G.aload_n C 0 dX5_putCharge_80 rfl rfl ?_
      refine G.get (g := 0) (i := 0) C 1 none dX5_putCharge_81 (by decide) rfl rfl uX_X5 (by decide) uf_RX5_19 rfl rfl ?_
      refine G.iload_n C 2 dX5_putCharge_84 rfl rfl ?_
      refine G.put (g := 2) (i := 0) C 1 (some "PlateRoom") dX5_putCharge_85 (by decide) rfl rfl uX_X0 tyX0 tyX0_ok nmX0 (by decide) unf_RX5_241 rfl rfl (by decide +kernel) (Nat.le_of_ble_eq_true rfl) w_up_2_1 ?_
      refine G.goto (tgt := 91) C dX5_putCharge_88 (by decide) ?_
      subst hQ
      exact G.vret C hr dX5_putCharge_91 (by
          subst c_1
          exact rfl)
  · refine ⟨91, by decide, ?_⟩
    have c_1 := hj
    subst hQ
    exact G.vret C hr dX5_putCharge_91 (by
        exact absurd hk5 (fun q => w_out (k := 4) c_1 hk0 q))
set_option maxHeartbeats 4000000 in
set_option maxRecDepth 100000 in
theorem ok_X5_set {w : wD} (hw : wOK w) (σ : wSt) (a b : Int32)  : MI w yX5_set cX5_set 4 (some .int) 1 22 [.ref (w.2.2.2.1 0 0), .int a, .int b] σ (fun r τ => (¬ (0 ≤ b ∧ b ≤ mostC a) ∧ σ = τ ∧ r = -1) ∨ ((0 ≤ b ∧ b ≤ mostC a) ∧ (if a = 0 then wUp σ 1 0 0 b else if a = 1 then wUp σ 1 0 1 b else if a = 2 then wUp σ 1 0 2 b else if a = 3 then wUp σ 2 0 0 b else wUp σ 2 0 1 b) = τ ∧ r = if a = 0 then σ.1 1 0 0 else if a = 1 then σ.1 1 0 1 else if a = 2 then σ.1 1 0 2 else if a = 3 then σ.1 2 0 0 else σ.1 2 0 1)) := by
  refine MI.of hw (by decide +kernel) (Nat.le_of_ble_eq_true rfl) (fun x C hr => ?_)
  suffices key : ∀ Q, Q = QI w x (fun r τ => (¬ (0 ≤ b ∧ b ≤ mostC a) ∧ σ = τ ∧ r = -1) ∨ ((0 ≤ b ∧ b ≤ mostC a) ∧ (if a = 0 then wUp σ 1 0 0 b else if a = 1 then wUp σ 1 0 1 b else if a = 2 then wUp σ 1 0 2 b else if a = 3 then wUp σ 2 0 0 b else wUp σ 2 0 1 b) = τ ∧ r = if a = 0 then σ.1 1 0 0 else if a = 1 then σ.1 1 0 1 else if a = 2 then σ.1 1 0 2 else if a = 3 then σ.1 2 0 0 else σ.1 2 0 1)) → G w x 4 Q 0 [(0, .ref (w.2.2.2.1 0 0)), (1, .int a), (2, .int b)] [] σ from key _ rfl
  intro Q hQ
  refine G.iload_n C 2 dX5_set_0 rfl rfl ?_
  refine G.if_lt (tgt := 12) C dX5_set_1 (by decide) (fun c_1 => ?_) (fun c_1 => ?_)
  · refine G.iconst (v := -1) C dX5_set_12 (by decide) ?_
    subst hQ
    exact G.iret C hr dX5_set_13 (by
        refine Or.inl ⟨fun q => ?_, rfl, rfl⟩
        exact Int32.not_le.mpr c_1 q.1)
  · refine G.iload_n C 2 dX5_set_4 rfl rfl ?_
    refine G.iload_n C 1 dX5_set_5 rfl rfl ?_
    have hM_0 := ok_X5_mostOfCharge hw σ a
    refine G.callS C none hM_0 dX5_set_6 us_X5_mostOfCharge ul_RX5_83 rfl rfl (by decide) (Nat.le_of_ble_eq_true rfl) (fun r_6 τ_6 h_6 => ?_)
    obtain ⟨h_6, e_6⟩ := h_6; subst h_6
    refine G.icmp_le (tgt := 14) C dX5_set_9 (by decide) (fun c_9 => ?_) (fun c_9 => ?_)
    · rw [e_6] at c_9
      have hk9 := mostC_in (Int32.not_lt.mp c_1) c_9
      refine G.aload_n C 0 dX5_set_14 rfl rfl ?_
      refine G.iload_n C 1 dX5_set_15 rfl rfl ?_
      have hM_1 := ok_X5_chargeOf hw σ a hk9.1 hk9.2
      refine G.callV C (g := 0) (i := 0) none hM_1 dX5_set_16 (by decide) rfl rfl rfl uv_X5_chargeOf ul_RX5_87 rfl rfl (by decide) (Nat.le_of_ble_eq_true rfl) (fun r_16 τ_16 h_16 => ?_)
      obtain ⟨h_16, e_16⟩ := h_16; subst h_16
      refine G.istore_n (L1 := [(3, .int r_16), (0, .ref (w.2.2.2.1 0 0)), (1, .int a), (2, .int b)]) C dX5_set_19 rfl (by decide) rfl ?_
      refine G.aload_n C 1 dX5_set_20 rfl rfl ?_
      refine G.iload_n C 2 dX5_set_21 rfl rfl ?_
      refine G.iload_n C 3 dX5_set_22 rfl rfl ?_
      have hM_2 := ok_X5_putCharge hw σ a b hk9.1 hk9.2
      refine G.callVv C (g := 0) (i := 0) none hM_2 dX5_set_23 (by decide) rfl rfl rfl uv_X5_putCharge ul_RX5_90 rfl rfl (by decide) (Nat.le_of_ble_eq_true rfl) (fun τ_23 h_23 => ?_)
      subst h_23
      refine G.iload_n C 0 dX5_set_26 rfl rfl ?_
      subst hQ
      exact G.iret C hr dX5_set_27 (by
          exact Or.inr ⟨⟨Int32.not_lt.mp c_1, c_9⟩, rfl, e_16⟩)
    · refine G.iconst (v := -1) C dX5_set_12 (by decide) ?_
      subst hQ
      exact G.iret C hr dX5_set_13 (by
          refine Or.inl ⟨fun q => ?_, rfl, rfl⟩
          exact c_9 (e_6 ▸ q.2))
set_option maxHeartbeats 4000000 in
set_option maxRecDepth 100000 in
theorem ok_X5_leaf {w : wD} (hw : wOK w) (σ : wSt) (a b c d : Int32) {l : Nat} (hl : σ.1 0 0 3 = nI l) (hl20 : l ≤ 20) : MI w yX5_leaf cX5_leaf 5 (some .int) 1 24 [.ref (w.2.2.2.1 0 0), .int a, .int b, .int c, .int d] σ (fun r τ => (¬ okLeaf a b c d ∧ σ = τ ∧ r = -1) ∨ (okLeaf a b c d ∧ 20 ≤ l ∧ σ = τ ∧ r = -3) ∨ (okLeaf a b c d ∧ l < 20 ∧ wUp (wUp (wUp (wUp (wUp σ 14 l 0 a) 14 l 1 b) 14 l 2 c) 14 l 3 d) 0 0 3 (nI (l + 1)) = τ ∧ r = nI l)) := by
  refine MI.of hw (by decide +kernel) (Nat.le_of_ble_eq_true rfl) (fun x C hr => ?_)
  suffices key : ∀ Q, Q = QI w x (fun r τ => (¬ okLeaf a b c d ∧ σ = τ ∧ r = -1) ∨ (okLeaf a b c d ∧ 20 ≤ l ∧ σ = τ ∧ r = -3) ∨ (okLeaf a b c d ∧ l < 20 ∧ wUp (wUp (wUp (wUp (wUp σ 14 l 0 a) 14 l 1 b) 14 l 2 c) 14 l 3 d) 0 0 3 (nI (l + 1)) = τ ∧ r = nI l)) → G w x 5 Q 0 [(0, .ref (w.2.2.2.1 0 0)), (1, .int a), (2, .int b), (3, .int c), (4, .int d)] [] σ from key _ rfl
  intro Q hQ
  refine G.iload_n C 1 dX5_leaf_0 rfl rfl ?_
  have hM_0 := ok_X5_areLines hw σ a
  refine G.callS C none hM_0 dX5_leaf_1 us_X5_areLines ul_RX5_55 rfl rfl (by decide) (Nat.le_of_ble_eq_true rfl) (fun r_1 τ_1 h_1 => ?_)
  obtain ⟨h_1, e_1⟩ := h_1; subst h_1
  refine G.if_eq (tgt := 20) C dX5_leaf_4 (by decide) (fun c_4 => ?_) (fun c_4 => ?_)
  · have b_1 := wb_0 e_1 c_4
    refine G.iconst (v := -1) C dX5_leaf_20 (by decide) ?_
    subst hQ
    exact G.iret C hr dX5_leaf_21 (by
        refine Or.inl ⟨fun q => ?_, rfl, rfl⟩
        obtain ⟨q1, q2, q3, q4, q5⟩ := q
        exact b_1 q1)
  · have b_1 := wb_1 e_1 c_4
    refine G.iload_n C 2 dX5_leaf_7 rfl rfl ?_
    have hM_1 := ok_X5_areLines hw σ b
    refine G.callS C none hM_1 dX5_leaf_8 us_X5_areLines ul_RX5_55 rfl rfl (by decide) (Nat.le_of_ble_eq_true rfl) (fun r_8 τ_8 h_8 => ?_)
    obtain ⟨h_8, e_8⟩ := h_8; subst h_8
    refine G.if_eq (tgt := 20) C dX5_leaf_11 (by decide) (fun c_11 => ?_) (fun c_11 => ?_)
    · have b_8 := wb_0 e_8 c_11
      refine G.iconst (v := -1) C dX5_leaf_20 (by decide) ?_
      subst hQ
      exact G.iret C hr dX5_leaf_21 (by
          refine Or.inl ⟨fun q => ?_, rfl, rfl⟩
          obtain ⟨q1, q2, q3, q4, q5⟩ := q
          exact b_8 q2)
    · have b_8 := wb_1 e_8 c_11
      refine G.iload_n C 1 dX5_leaf_14 rfl rfl ?_
      refine G.iload_n C 2 dX5_leaf_15 rfl rfl ?_
      refine G.iand C dX5_leaf_16 ?_
      refine G.if_eq (tgt := 22) C dX5_leaf_17 (by decide) (fun c_17 => ?_) (fun c_17 => ?_)
      · have c_17b := c_17
        refine G.iload_n C 3 dX5_leaf_22 rfl rfl ?_
        refine G.if_lt (tgt := 44) C dX5_leaf_23 (by decide) (fun c_23 => ?_) (fun c_23 => ?_)
        · refine G.iconst (v := -1) C dX5_leaf_44 (by decide) ?_
          subst hQ
          exact G.iret C hr dX5_leaf_45 (by
              refine Or.inl ⟨fun q => ?_, rfl, rfl⟩
              obtain ⟨q1, q2, q3, q4, q5⟩ := q
              exact Int32.not_le.mpr c_23 q4.1)
        · refine G.iload_n C 3 dX5_leaf_26 rfl rfl ?_
          refine G.sipush (v := 1000) C dX5_leaf_27 (by decide) ?_
          refine G.icmp_gt (tgt := 44) C dX5_leaf_30 (by decide) (fun c_30 => ?_) (fun c_30 => ?_)
          · refine G.iconst (v := -1) C dX5_leaf_44 (by decide) ?_
            subst hQ
            exact G.iret C hr dX5_leaf_45 (by
                refine Or.inl ⟨fun q => ?_, rfl, rfl⟩
                obtain ⟨q1, q2, q3, q4, q5⟩ := q
                exact Int32.not_le.mpr c_30 q4.2)
          · refine G.iload C 4 dX5_leaf_33 rfl ?_
            refine G.if_lt (tgt := 44) C dX5_leaf_35 (by decide) (fun c_35 => ?_) (fun c_35 => ?_)
            · refine G.iconst (v := -1) C dX5_leaf_44 (by decide) ?_
              subst hQ
              exact G.iret C hr dX5_leaf_45 (by
                  refine Or.inl ⟨fun q => ?_, rfl, rfl⟩
                  obtain ⟨q1, q2, q3, q4, q5⟩ := q
                  exact Int32.not_le.mpr c_35 q5.1)
            · refine G.iload C 4 dX5_leaf_38 rfl ?_
              refine G.iconst (v := 3) C dX5_leaf_40 (by decide) ?_
              refine G.icmp_lt (tgt := 46) C dX5_leaf_41 (by decide) (fun c_41 => ?_) (fun c_41 => ?_)
              · have hok : okLeaf a b c d := ⟨b_1, b_8, c_17, ⟨Int32.not_lt.mp c_23, Int32.not_lt.mp c_30⟩, ⟨Int32.not_lt.mp c_35, w_lt3 c_41⟩⟩
                refine G.aload_n C 0 dX5_leaf_46 rfl rfl ?_
                refine G.get (g := 0) (i := 0) C 3 none dX5_leaf_47 (by decide) rfl rfl uX_X5 (by decide) uf_RX5_29 rfl rfl ?_
                refine G.bipush (v := 20) C dX5_leaf_50 (by decide) ?_
                refine G.icmp_lt (tgt := 58) C dX5_leaf_52 (by decide) (fun c_52 => ?_) (fun c_52 => ?_)
                · have hh9 : l < 20 := by
                    rw [hl] at c_52
                    exact (nI_ltI (by omega) (by decide)).mp c_52
                  refine G.aload_n C 0 dX5_leaf_58 rfl rfl ?_
                  refine G.get (g := 0) (i := 0) C 2 none dX5_leaf_59 (by decide) rfl rfl uX_X5 (by decide) uf_RX5_25 rfl rfl ?_
                  refine G.aload_n C 0 dX5_leaf_62 rfl rfl ?_
                  refine G.get (g := 0) (i := 0) C 3 none dX5_leaf_63 (by decide) rfl rfl uX_X5 (by decide) uf_RX5_29 rfl rfl ?_
                  have hin_66 : vp_in (σ.1 0 0 3) 20 := by
                    rw [hl]; exact vp_in_nI (by omega) (by decide)
                  refine G.aald (g := 3) (i := 0) (n := 20) (f := fun q => w.2.2.2.1 14 q) C 1 dX5_leaf_66 (by decide) rfl rfl rfl hin_66 ?_
                  refine G.iload_n C 1 dX5_leaf_67 rfl rfl ?_
                  refine G.iload_n C 2 dX5_leaf_68 rfl rfl ?_
                  refine G.iload_n C 3 dX5_leaf_69 rfl rfl ?_
                  refine G.iload C 4 dX5_leaf_70 rfl ?_
                  have hM_2 := ok_X2_strike hw σ ((σ.1 0 0 3).toNatClampNeg) a b c d (vp_lt hin_66)
                  refine G.callVv C (g := 14) (i := ((σ.1 0 0 3).toNatClampNeg)) (some "PlateRoom") hM_2 dX5_leaf_72 (vp_lt hin_66) rfl rfl rfl uv_X2_strike unm_RX5_107 rfl rfl (by decide) (Nat.le_of_ble_eq_true rfl) (fun τ_72 h_72 => ?_)
                  subst h_72
                  refine G.aload_n C 0 dX5_leaf_75 rfl rfl ?_
                  refine G.dup C dX5_leaf_76 rfl ?_
                  refine G.get (g := 0) (i := 0) C 3 none dX5_leaf_77 (by decide) rfl rfl uX_X5 (by decide) uf_RX5_29 rfl rfl ?_
                  refine G.dup_x1 C dX5_leaf_80 rfl rfl ?_
                  refine G.iconst (v := 1) C dX5_leaf_81 (by decide) ?_
                  refine G.iadd C dX5_leaf_82 ?_
                  refine G.put (g := 0) (i := 0) C 3 none dX5_leaf_83 (by decide) rfl rfl uX_X5 tyX5 tyX5_ok nmX5 (by decide) uf_RX5_29 rfl rfl (by decide +kernel) (Nat.le_of_ble_eq_true rfl) w_up_0_3 ?_
                  subst hQ
                  exact G.iret C hr dX5_leaf_86 (by
                      refine Or.inr (Or.inr ⟨hok, hh9, ?_, ?_⟩)
                      · simp only [wUp_ng (show 0 ≠ 14 by decide), hl, nI_clamp (show l < 2 ^ 31 by omega), nI_1]
                      · simp only [wUp_ng (show 0 ≠ 14 by decide), hl, nI_clamp (show l < 2 ^ 31 by omega), nI_1])
                · have hh9 : 20 ≤ l := by
                    rw [hl] at c_52
                    rcases Nat.lt_or_ge l 20 with q | q
                    · exact absurd (nI_lt q (by decide)) c_52
                    · exact q
                  refine G.bipush (v := -3) C dX5_leaf_55 (by decide) ?_
                  subst hQ
                  exact G.iret C hr dX5_leaf_57 (by
                      exact Or.inr (Or.inl ⟨hok, hh9, rfl, rfl⟩))
              · refine G.iconst (v := -1) C dX5_leaf_44 (by decide) ?_
                subst hQ
                exact G.iret C hr dX5_leaf_45 (by
                    refine Or.inl ⟨fun q => ?_, rfl, rfl⟩
                    obtain ⟨q1, q2, q3, q4, q5⟩ := q
                    exact c_41 (w_le2 q5.2))
      · refine G.iconst (v := -1) C dX5_leaf_20 (by decide) ?_
        subst hQ
        exact G.iret C hr dX5_leaf_21 (by
            refine Or.inl ⟨fun q => ?_, rfl, rfl⟩
            obtain ⟨q1, q2, q3, q4, q5⟩ := q
            exact c_17 q3)
set_option maxHeartbeats 4000000 in
set_option maxRecDepth 100000 in
theorem ok_X5_see {w : wD} (hw : wOK w) (σ : wSt) (a b c : Int32) {l : Nat} (hl : σ.1 0 0 3 = nI l) (hl20 : l ≤ 20) : MI w yX5_see cX5_see 5 (some .int) 2 42 [.ref (w.2.2.2.1 0 0), .int a, .int b, .int c] σ (fun r τ => (¬ (inN (σ.1 0 0 3) a ∧ (0 ≤ b ∧ b < 12) ∧ 0 ≤ c ∧ c ≤ 2) ∧ σ = τ ∧ r = -1) ∨ ((inN (σ.1 0 0 3) a ∧ (0 ≤ b ∧ b < 12) ∧ 0 ≤ c ∧ c ≤ 2) ∧ wUp (wUp σ 14 a.toNatClampNeg 0 (lookT (σ.1 14 a.toNatClampNeg 0) b c)) 14 a.toNatClampNeg 1 (lookG (σ.1 14 a.toNatClampNeg 1) b c) = τ ∧ r = lookF (σ.1 14 a.toNatClampNeg 0) (σ.1 14 a.toNatClampNeg 1) b)) := by
  refine MI.of hw (by decide +kernel) (Nat.le_of_ble_eq_true rfl) (fun x C hr => ?_)
  suffices key : ∀ Q, Q = QI w x (fun r τ => (¬ (inN (σ.1 0 0 3) a ∧ (0 ≤ b ∧ b < 12) ∧ 0 ≤ c ∧ c ≤ 2) ∧ σ = τ ∧ r = -1) ∨ ((inN (σ.1 0 0 3) a ∧ (0 ≤ b ∧ b < 12) ∧ 0 ≤ c ∧ c ≤ 2) ∧ wUp (wUp σ 14 a.toNatClampNeg 0 (lookT (σ.1 14 a.toNatClampNeg 0) b c)) 14 a.toNatClampNeg 1 (lookG (σ.1 14 a.toNatClampNeg 1) b c) = τ ∧ r = lookF (σ.1 14 a.toNatClampNeg 0) (σ.1 14 a.toNatClampNeg 1) b)) → G w x 5 Q 0 [(0, .ref (w.2.2.2.1 0 0)), (1, .int a), (2, .int b), (3, .int c)] [] σ from key _ rfl
  intro Q hQ
  refine G.aload_n C 0 dX5_see_0 rfl rfl ?_
  refine G.iload_n C 1 dX5_see_1 rfl rfl ?_
  have hM_0 := ok_X5_isLeaf hw σ a
  refine G.callV C (g := 0) (i := 0) none hM_0 dX5_see_2 (by decide) rfl rfl rfl uv_X5_isLeaf ul_RX5_111 rfl rfl (by decide) (Nat.le_of_ble_eq_true rfl) (fun r_2 τ_2 h_2 => ?_)
  obtain ⟨h_2, e_2⟩ := h_2; subst h_2
  refine G.if_eq (tgt := 24) C dX5_see_5 (by decide) (fun c_5 => ?_) (fun c_5 => ?_)
  · have b_2 := wb_0 e_2 c_5
    refine G.iconst (v := -1) C dX5_see_24 (by decide) ?_
    subst hQ
    exact G.iret C hr dX5_see_25 (by
        refine Or.inl ⟨fun q => ?_, rfl, rfl⟩
        first | exact b_2 q.1 | exact b_9 q.2.1 | exact Int32.not_le.mpr c_16 q.2.2.1 | exact c_21 q.2.2.2)
  · have b_2 := wb_1 e_2 c_5
    refine G.iload_n C 2 dX5_see_8 rfl rfl ?_
    have hM_1 := ok_X5_isLine hw σ b
    refine G.callS C none hM_1 dX5_see_9 us_X5_isLine ul_RX5_114 rfl rfl (by decide) (Nat.le_of_ble_eq_true rfl) (fun r_9 τ_9 h_9 => ?_)
    obtain ⟨h_9, e_9⟩ := h_9; subst h_9
    refine G.if_eq (tgt := 24) C dX5_see_12 (by decide) (fun c_12 => ?_) (fun c_12 => ?_)
    · have b_9 := wb_0 e_9 c_12
      refine G.iconst (v := -1) C dX5_see_24 (by decide) ?_
      subst hQ
      exact G.iret C hr dX5_see_25 (by
          refine Or.inl ⟨fun q => ?_, rfl, rfl⟩
          first | exact b_2 q.1 | exact b_9 q.2.1 | exact Int32.not_le.mpr c_16 q.2.2.1 | exact c_21 q.2.2.2)
    · have b_9 := wb_1 e_9 c_12
      refine G.iload_n C 3 dX5_see_15 rfl rfl ?_
      refine G.if_lt (tgt := 24) C dX5_see_16 (by decide) (fun c_16 => ?_) (fun c_16 => ?_)
      · refine G.iconst (v := -1) C dX5_see_24 (by decide) ?_
        subst hQ
        exact G.iret C hr dX5_see_25 (by
            refine Or.inl ⟨fun q => ?_, rfl, rfl⟩
            first | exact b_2 q.1 | exact b_9 q.2.1 | exact Int32.not_le.mpr c_16 q.2.2.1 | exact c_21 q.2.2.2)
      · refine G.iload_n C 3 dX5_see_19 rfl rfl ?_
        refine G.iconst (v := 2) C dX5_see_20 (by decide) ?_
        refine G.icmp_le (tgt := 26) C dX5_see_21 (by decide) (fun c_21 => ?_) (fun c_21 => ?_)
        · refine G.aload_n C 0 dX5_see_26 rfl rfl ?_
          refine G.get (g := 0) (i := 0) C 2 none dX5_see_27 (by decide) rfl rfl uX_X5 (by decide) uf_RX5_25 rfl rfl ?_
          refine G.iload_n C 1 dX5_see_30 rfl rfl ?_
          have hin_31 : vp_in a 20 := by
            exact vp_ofc b_2 hl hl20 (by decide)
          refine G.aald (g := 3) (i := 0) (n := 20) (f := fun q => w.2.2.2.1 14 q) C 1 dX5_see_31 (by decide) rfl rfl rfl hin_31 ?_
          refine G.iload_n C 2 dX5_see_32 rfl rfl ?_
          have hM_2 := ok_X2_lookOf hw σ a.toNatClampNeg b (vp_lt hin_31)
          refine G.callV C (g := 14) (i := a.toNatClampNeg) (some "PlateRoom") hM_2 dX5_see_33 (vp_lt hin_31) rfl rfl rfl uv_X2_lookOf unm_RX5_117 rfl rfl (by decide) (Nat.le_of_ble_eq_true rfl) (fun r_33 τ_33 h_33 => ?_)
          obtain ⟨h_33, e_33⟩ := h_33; subst h_33
          refine G.istore (L1 := [(4, .int r_33), (0, .ref (w.2.2.2.1 0 0)), (1, .int a), (2, .int b), (3, .int c)]) C dX5_see_36 (by decide) rfl ?_
          refine G.aload_n C 1 dX5_see_38 rfl rfl ?_
          refine G.get (g := 0) (i := 0) C 2 none dX5_see_39 (by decide) rfl rfl uX_X5 (by decide) uf_RX5_25 rfl rfl ?_
          refine G.iload_n C 2 dX5_see_42 rfl rfl ?_
          have hin_43 : vp_in a 20 := by
            exact vp_ofc b_2 hl hl20 (by decide)
          refine G.aald (g := 3) (i := 0) (n := 20) (f := fun q => w.2.2.2.1 14 q) C 1 dX5_see_43 (by decide) rfl rfl rfl hin_43 ?_
          refine G.iload_n C 3 dX5_see_44 rfl rfl ?_
          refine G.iload_n C 4 dX5_see_45 rfl rfl ?_
          have hM_3 := ok_X2_look hw σ a.toNatClampNeg b c (vp_lt hin_43)
          refine G.callVv C (g := 14) (i := a.toNatClampNeg) (some "PlateRoom") hM_3 dX5_see_46 (vp_lt hin_43) rfl rfl rfl uv_X2_look unm_RX5_120 rfl rfl (by decide) (Nat.le_of_ble_eq_true rfl) (fun τ_46 h_46 => ?_)
          subst h_46
          refine G.iload C 0 dX5_see_49 rfl ?_
          subst hQ
          exact G.iret C hr dX5_see_51 (by
              exact Or.inr ⟨⟨b_2, b_9, Int32.not_lt.mp c_16, c_21⟩, rfl, e_33⟩)
        · refine G.iconst (v := -1) C dX5_see_24 (by decide) ?_
          subst hQ
          exact G.iret C hr dX5_see_25 (by
              refine Or.inl ⟨fun q => ?_, rfl, rfl⟩
              first | exact b_2 q.1 | exact b_9 q.2.1 | exact Int32.not_le.mpr c_16 q.2.2.1 | exact c_21 q.2.2.2)
set_option maxHeartbeats 4000000 in
set_option maxRecDepth 100000 in
theorem ok_X5_candidatesOf {w : wD} (hw : wOK w) (σ : wSt) (i : Nat) (hi : i < wN 14) {n : Nat} (hn : σ.1 1 0 5 = nI n) (h6 : n ≤ 6) : MI w yX5_candidatesOf cX5_candidatesOf 2 (some .int) 1 24 [.ref (w.2.2.2.1 0 0), .ref (w.2.2.2.1 14 i)] σ (fun r τ => σ = τ ∧ r = candU (σ.1 6 0) (σ.1 14 i 0) (σ.1 14 i 1) n) := by
  refine MI.of hw (by decide +kernel) (Nat.le_of_ble_eq_true rfl) (fun x C hr => ?_)
  suffices key : ∀ Q, Q = QI w x (fun r τ => σ = τ ∧ r = candU (σ.1 6 0) (σ.1 14 i 0) (σ.1 14 i 1) n) → G w x 2 Q 0 [(0, .ref (w.2.2.2.1 0 0)), (1, .ref (w.2.2.2.1 14 i))] [] σ from key _ rfl
  intro Q hQ
  refine G.aload_n C 0 dX5_candidatesOf_0 rfl rfl ?_
  refine G.get (g := 0) (i := 0) C 0 none dX5_candidatesOf_1 (by decide) rfl rfl uX_X5 (by decide) uf_RX5_10 rfl rfl ?_
  refine G.aload_n C 1 dX5_candidatesOf_4 rfl rfl ?_
  refine G.get (g := 14) (i := i) C 0 (some "PlateRoom") dX5_candidatesOf_5 hi rfl rfl uX_X2 (by decide) unf_RX5_244 rfl rfl ?_
  refine G.aload_n C 1 dX5_candidatesOf_8 rfl rfl ?_
  refine G.get (g := 14) (i := i) C 1 (some "PlateRoom") dX5_candidatesOf_9 hi rfl rfl uX_X2 (by decide) unf_RX5_247 rfl rfl ?_
  have hM_0 := ok_X3_statesWith hw σ (σ.1 14 i 0) (σ.1 14 i 1) hn h6
  refine G.callV C (g := 1) (i := 0) (some "PlateRoom") hM_0 dX5_candidatesOf_12 (by decide) rfl rfl rfl uv_X3_statesWith unm_RX5_250 rfl rfl (by decide) (Nat.le_of_ble_eq_true rfl) (fun r_12 τ_12 h_12 => ?_)
  obtain ⟨h_12, e_12⟩ := h_12; subst h_12
  subst hQ
  exact G.iret C hr dX5_candidatesOf_15 (by
      exact ⟨rfl, e_12⟩)
set_option maxHeartbeats 4000000 in
set_option maxRecDepth 100000 in
theorem ok_X5_candidates {w : wD} (hw : wOK w) (σ : wSt) (a : Int32) {n : Nat} (hn : σ.1 1 0 5 = nI n) (h6 : n ≤ 6) {l : Nat} (hl : σ.1 0 0 3 = nI l) (hl20 : l ≤ 20) : MI w yX5_candidates cX5_candidates 2 (some .int) 2 45 [.ref (w.2.2.2.1 0 0), .int a] σ (fun r τ => σ = τ ∧ ((¬ inN (σ.1 0 0 3) a ∧ r = -1) ∨ (inN (σ.1 0 0 3) a ∧ r = candU (σ.1 6 0) (σ.1 14 a.toNatClampNeg 0) (σ.1 14 a.toNatClampNeg 1) n))) := by
  refine MI.of hw (by decide +kernel) (Nat.le_of_ble_eq_true rfl) (fun x C hr => ?_)
  suffices key : ∀ Q, Q = QI w x (fun r τ => σ = τ ∧ ((¬ inN (σ.1 0 0 3) a ∧ r = -1) ∨ (inN (σ.1 0 0 3) a ∧ r = candU (σ.1 6 0) (σ.1 14 a.toNatClampNeg 0) (σ.1 14 a.toNatClampNeg 1) n))) → G w x 2 Q 0 [(0, .ref (w.2.2.2.1 0 0)), (1, .int a)] [] σ from key _ rfl
  intro Q hQ
  refine G.aload_n C 0 dX5_candidates_0 rfl rfl ?_
  refine G.iload_n C 1 dX5_candidates_1 rfl rfl ?_
  have hM_0 := ok_X5_isLeaf hw σ a
  refine G.callV C (g := 0) (i := 0) none hM_0 dX5_candidates_2 (by decide) rfl rfl rfl uv_X5_isLeaf ul_RX5_111 rfl rfl (by decide) (Nat.le_of_ble_eq_true rfl) (fun r_2 τ_2 h_2 => ?_)
  obtain ⟨h_2, e_2⟩ := h_2; subst h_2
  refine G.if_ne (tgt := 10) C dX5_candidates_5 (by decide) (fun c_5 => ?_) (fun c_5 => ?_)
  · have b_2 := wb_1 e_2 c_5
    refine G.aload_n C 0 dX5_candidates_10 rfl rfl ?_
    refine G.aload_n C 0 dX5_candidates_11 rfl rfl ?_
    refine G.get (g := 0) (i := 0) C 2 none dX5_candidates_12 (by decide) rfl rfl uX_X5 (by decide) uf_RX5_25 rfl rfl ?_
    refine G.iload_n C 1 dX5_candidates_15 rfl rfl ?_
    have hin_16 : vp_in a 20 := by
      exact vp_ofc b_2 hl hl20 (by decide)
    refine G.aald (g := 3) (i := 0) (n := 20) (f := fun q => w.2.2.2.1 14 q) C 1 dX5_candidates_16 (by decide) rfl rfl rfl hin_16 ?_
    have hM_1 := ok_X5_candidatesOf hw σ a.toNatClampNeg (vp_lt hin_16) hn h6
    refine G.callV C (g := 0) (i := 0) none hM_1 dX5_candidates_17 (by decide) rfl rfl rfl uv_X5_candidatesOf ul_RX5_123 rfl rfl (by decide) (Nat.le_of_ble_eq_true rfl) (fun r_17 τ_17 h_17 => ?_)
    obtain ⟨h_17, e_17⟩ := h_17; subst h_17
    subst hQ
    exact G.iret C hr dX5_candidates_20 (by
        exact ⟨rfl, Or.inr ⟨b_2, e_17⟩⟩)
  · have b_2 := wb_0 e_2 c_5
    refine G.iconst (v := -1) C dX5_candidates_8 (by decide) ?_
    subst hQ
    exact G.iret C hr dX5_candidates_9 (by
        refine ⟨rfl, Or.inl ⟨fun q => ?_, rfl⟩⟩
        first | exact b_2 q)
set_option maxHeartbeats 4000000 in
set_option maxRecDepth 100000 in
theorem ok_X5_mould {w : wD} (hw : wOK w) (σ : wSt) (a b : Int32) {m : Nat} (hm0 : σ.1 0 0 5 = nI m) (hm8 : m ≤ 8) : MI w yX5_mould cX5_mould 3 (some .int) 2 41 [.ref (w.2.2.2.1 0 0), .int a, .int b] σ (fun r τ => (¬ okYY a b ∧ σ = τ ∧ r = -1) ∨ (okYY a b ∧ 8 ≤ m ∧ σ = τ ∧ r = -3) ∨ (okYY a b ∧ m < 8 ∧ wUp (wUp (wUp σ 17 m 0 a) 17 m 1 b) 0 0 5 (nI (m + 1)) = τ ∧ r = nI m)) := by
  refine MI.of hw (by decide +kernel) (Nat.le_of_ble_eq_true rfl) (fun x C hr => ?_)
  suffices key : ∀ Q, Q = QI w x (fun r τ => (¬ okYY a b ∧ σ = τ ∧ r = -1) ∨ (okYY a b ∧ 8 ≤ m ∧ σ = τ ∧ r = -3) ∨ (okYY a b ∧ m < 8 ∧ wUp (wUp (wUp σ 17 m 0 a) 17 m 1 b) 0 0 5 (nI (m + 1)) = τ ∧ r = nI m)) → G w x 3 Q 0 [(0, .ref (w.2.2.2.1 0 0)), (1, .int a), (2, .int b)] [] σ from key _ rfl
  intro Q hQ
  refine G.iload_n C 1 dX5_mould_0 rfl rfl ?_
  refine G.iload_n C 2 dX5_mould_1 rfl rfl ?_
  have hM_0 := ok_X5_areYears hw σ a b
  refine G.callS C none hM_0 dX5_mould_2 us_X5_areYears ul_RX5_59 rfl rfl (by decide) (Nat.le_of_ble_eq_true rfl) (fun r_2 τ_2 h_2 => ?_)
  obtain ⟨h_2, e_2⟩ := h_2; subst h_2
  refine G.if_ne (tgt := 10) C dX5_mould_5 (by decide) (fun c_5 => ?_) (fun c_5 => ?_)
  · have b_2 := wb_1 e_2 c_5
    refine G.aload_n C 0 dX5_mould_10 rfl rfl ?_
    refine G.get (g := 0) (i := 0) C 5 none dX5_mould_11 (by decide) rfl rfl uX_X5 (by decide) uf_RX5_39 rfl rfl ?_
    refine G.bipush (v := 8) C dX5_mould_14 (by decide) ?_
    refine G.icmp_lt (tgt := 22) C dX5_mould_16 (by decide) (fun c_16 => ?_) (fun c_16 => ?_)
    · have hh9 : m < 8 := by
        rw [hm0] at c_16
        exact (nI_ltI (by omega) (by decide)).mp c_16
      refine G.aload_n C 0 dX5_mould_22 rfl rfl ?_
      refine G.get (g := 0) (i := 0) C 4 none dX5_mould_23 (by decide) rfl rfl uX_X5 (by decide) uf_RX5_35 rfl rfl ?_
      refine G.aload_n C 0 dX5_mould_26 rfl rfl ?_
      refine G.get (g := 0) (i := 0) C 5 none dX5_mould_27 (by decide) rfl rfl uX_X5 (by decide) uf_RX5_39 rfl rfl ?_
      have hin_30 : vp_in (σ.1 0 0 5) 8 := by
        rw [hm0]; exact vp_in_nI (by omega) (by decide)
      refine G.aald (g := 4) (i := 0) (n := 8) (f := fun q => w.2.2.2.1 17 q) C 2 dX5_mould_30 (by decide) rfl rfl rfl hin_30 ?_
      refine G.iload_n C 1 dX5_mould_31 rfl rfl ?_
      refine G.iload_n C 2 dX5_mould_32 rfl rfl ?_
      have hM_1 := ok_X4_put_17 hw σ ((σ.1 0 0 5).toNatClampNeg) a b (vp_lt hin_30)
      refine G.callVv C (g := 17) (i := ((σ.1 0 0 5).toNatClampNeg)) (some "PlateRoom") hM_1 dX5_mould_33 (vp_lt hin_30) rfl rfl rfl uv_X4_put unm_RX5_127 rfl rfl (by decide) (Nat.le_of_ble_eq_true rfl) (fun τ_33 h_33 => ?_)
      subst h_33
      refine G.aload_n C 0 dX5_mould_36 rfl rfl ?_
      refine G.dup C dX5_mould_37 rfl ?_
      refine G.get (g := 0) (i := 0) C 5 none dX5_mould_38 (by decide) rfl rfl uX_X5 (by decide) uf_RX5_39 rfl rfl ?_
      refine G.dup_x1 C dX5_mould_41 rfl rfl ?_
      refine G.iconst (v := 1) C dX5_mould_42 (by decide) ?_
      refine G.iadd C dX5_mould_43 ?_
      refine G.put (g := 0) (i := 0) C 5 none dX5_mould_44 (by decide) rfl rfl uX_X5 tyX5 tyX5_ok nmX5 (by decide) uf_RX5_39 rfl rfl (by decide +kernel) (Nat.le_of_ble_eq_true rfl) w_up_0_5 ?_
      subst hQ
      exact G.iret C hr dX5_mould_47 (by
          refine Or.inr (Or.inr ⟨b_2, hh9, ?_, ?_⟩)
          · simp only [wUp_ng (show 0 ≠ 17 by decide), hm0, nI_clamp (show m < 2 ^ 31 by omega), nI_1]
          · simp only [wUp_ng (show 0 ≠ 17 by decide), hm0, nI_clamp (show m < 2 ^ 31 by omega), nI_1])
    · have hh9 : 8 ≤ m := by
        rw [hm0] at c_16
        rcases Nat.lt_or_ge m 8 with q | q
        · exact absurd (nI_lt q (by decide)) c_16
        · exact q
      refine G.bipush (v := -3) C dX5_mould_19 (by decide) ?_
      subst hQ
      exact G.iret C hr dX5_mould_21 (by
          exact Or.inr (Or.inl ⟨b_2, hh9, rfl, rfl⟩))
  · have b_2 := wb_0 e_2 c_5
    refine G.iconst (v := -1) C dX5_mould_8 (by decide) ?_
    subst hQ
    exact G.iret C hr dX5_mould_9 (by
        refine Or.inl ⟨fun q => ?_, rfl, rfl⟩
        first | exact b_2 q)
set_option maxHeartbeats 4000000 in
set_option maxRecDepth 100000 in
theorem ok_X5_paper {w : wD} (hw : wOK w) (σ : wSt) (a b : Int32) {l : Nat} (hl : σ.1 0 0 3 = nI l) (hl20 : l ≤ 20) : MI w yX5_paper cX5_paper 4 (some .int) 1 21 [.ref (w.2.2.2.1 0 0), .int a, .int b] σ (fun r τ => (¬ (inN (σ.1 0 0 3) a ∧ (b = -9 ∨ inN (σ.1 0 0 5) b)) ∧ σ = τ ∧ r = -2) ∨ ((inN (σ.1 0 0 3) a ∧ (b = -9 ∨ inN (σ.1 0 0 5) b)) ∧ wUp σ 14 a.toNatClampNeg 4 b = τ ∧ r = σ.1 14 a.toNatClampNeg 4)) := by
  refine MI.of hw (by decide +kernel) (Nat.le_of_ble_eq_true rfl) (fun x C hr => ?_)
  suffices key : ∀ Q, Q = QI w x (fun r τ => (¬ (inN (σ.1 0 0 3) a ∧ (b = -9 ∨ inN (σ.1 0 0 5) b)) ∧ σ = τ ∧ r = -2) ∨ ((inN (σ.1 0 0 3) a ∧ (b = -9 ∨ inN (σ.1 0 0 5) b)) ∧ wUp σ 14 a.toNatClampNeg 4 b = τ ∧ r = σ.1 14 a.toNatClampNeg 4)) → G w x 4 Q 0 [(0, .ref (w.2.2.2.1 0 0)), (1, .int a), (2, .int b)] [] σ from key _ rfl
  intro Q hQ
  refine G.aload_n C 0 dX5_paper_0 rfl rfl ?_
  refine G.iload_n C 1 dX5_paper_1 rfl rfl ?_
  have hM_0 := ok_X5_isLeaf hw σ a
  refine G.callV C (g := 0) (i := 0) none hM_0 dX5_paper_2 (by decide) rfl rfl rfl uv_X5_isLeaf ul_RX5_111 rfl rfl (by decide) (Nat.le_of_ble_eq_true rfl) (fun r_2 τ_2 h_2 => ?_)
  obtain ⟨h_2, e_2⟩ := h_2; subst h_2
  refine G.if_eq (tgt := 22) C dX5_paper_5 (by decide) (fun c_5 => ?_) (fun c_5 => ?_)
  · have b_2 := wb_0 e_2 c_5
    refine G.bipush (v := -2) C dX5_paper_22 (by decide) ?_
    subst hQ
    exact G.iret C hr dX5_paper_24 (by
        refine Or.inl ⟨fun q => ?_, rfl, rfl⟩
        first | exact b_2 q.1 | exact q.2.elim c_11 b_16)
  · have b_2 := wb_1 e_2 c_5
    refine G.iload_n C 2 dX5_paper_8 rfl rfl ?_
    refine G.bipush (v := -9) C dX5_paper_9 (by decide) ?_
    refine G.icmp_eq (tgt := 25) C dX5_paper_11 (by decide) (fun c_11 => ?_) (fun c_11 => ?_)
    · refine G.aload_n C 0 dX5_paper_25 rfl rfl ?_
      refine G.get (g := 0) (i := 0) C 2 none dX5_paper_26 (by decide) rfl rfl uX_X5 (by decide) uf_RX5_25 rfl rfl ?_
      refine G.iload_n C 1 dX5_paper_29 rfl rfl ?_
      have hin_30 : vp_in a 20 := by
        exact vp_ofc b_2 hl hl20 (by decide)
      refine G.aald (g := 3) (i := 0) (n := 20) (f := fun q => w.2.2.2.1 14 q) C 1 dX5_paper_30 (by decide) rfl rfl rfl hin_30 ?_
      refine G.get (g := 14) (i := a.toNatClampNeg) C 4 (some "PlateRoom") dX5_paper_31 (vp_lt hin_30) rfl rfl uX_X2 (by decide) unf_RX5_133 rfl rfl ?_
      refine G.topi (fun x3_34 ex3_34 => ?_)
      refine G.istore_n (L1 := [(3, .int x3_34), (0, .ref (w.2.2.2.1 0 0)), (1, .int a), (2, .int b)]) C dX5_paper_34 rfl (by decide) rfl ?_
      refine G.aload_n C 1 dX5_paper_35 rfl rfl ?_
      refine G.get (g := 0) (i := 0) C 2 none dX5_paper_36 (by decide) rfl rfl uX_X5 (by decide) uf_RX5_25 rfl rfl ?_
      refine G.iload_n C 2 dX5_paper_39 rfl rfl ?_
      have hin_40 : vp_in a 20 := by
        exact vp_ofc b_2 hl hl20 (by decide)
      refine G.aald (g := 3) (i := 0) (n := 20) (f := fun q => w.2.2.2.1 14 q) C 1 dX5_paper_40 (by decide) rfl rfl rfl hin_40 ?_
      refine G.iload_n C 3 dX5_paper_41 rfl rfl ?_
      refine G.put (g := 14) (i := a.toNatClampNeg) C 4 (some "PlateRoom") dX5_paper_42 (vp_lt hin_40) rfl rfl uX_X2 tyX2 tyX2_ok nmX2 (by decide) unf_RX5_133 rfl rfl (by decide +kernel) (Nat.le_of_ble_eq_true rfl) w_up_14_4 ?_
      refine G.iload_n C 0 dX5_paper_45 rfl rfl ?_
      subst hQ
      exact G.iret C hr dX5_paper_46 (by
          exact Or.inr ⟨⟨b_2, Or.inl c_11⟩, rfl, ex3_34⟩)
    · refine G.aload_n C 0 dX5_paper_14 rfl rfl ?_
      refine G.iload_n C 2 dX5_paper_15 rfl rfl ?_
      have hM_1 := ok_X5_isMould hw σ b
      refine G.callV C (g := 0) (i := 0) none hM_1 dX5_paper_16 (by decide) rfl rfl rfl uv_X5_isMould ul_RX5_130 rfl rfl (by decide) (Nat.le_of_ble_eq_true rfl) (fun r_16 τ_16 h_16 => ?_)
      obtain ⟨h_16, e_16⟩ := h_16; subst h_16
      refine G.if_ne (tgt := 25) C dX5_paper_19 (by decide) (fun c_19 => ?_) (fun c_19 => ?_)
      · have b_16 := wb_1 e_16 c_19
        refine G.aload_n C 0 dX5_paper_25 rfl rfl ?_
        refine G.get (g := 0) (i := 0) C 2 none dX5_paper_26 (by decide) rfl rfl uX_X5 (by decide) uf_RX5_25 rfl rfl ?_
        refine G.iload_n C 1 dX5_paper_29 rfl rfl ?_
        have hin_30 : vp_in a 20 := by
          exact vp_ofc b_2 hl hl20 (by decide)
        refine G.aald (g := 3) (i := 0) (n := 20) (f := fun q => w.2.2.2.1 14 q) C 1 dX5_paper_30 (by decide) rfl rfl rfl hin_30 ?_
        refine G.get (g := 14) (i := a.toNatClampNeg) C 4 (some "PlateRoom") dX5_paper_31 (vp_lt hin_30) rfl rfl uX_X2 (by decide) unf_RX5_133 rfl rfl ?_
        refine G.topi (fun x3_34 ex3_34 => ?_)
        refine G.istore_n (L1 := [(3, .int x3_34), (0, .ref (w.2.2.2.1 0 0)), (1, .int a), (2, .int b)]) C dX5_paper_34 rfl (by decide) rfl ?_
        refine G.aload_n C 1 dX5_paper_35 rfl rfl ?_
        refine G.get (g := 0) (i := 0) C 2 none dX5_paper_36 (by decide) rfl rfl uX_X5 (by decide) uf_RX5_25 rfl rfl ?_
        refine G.iload_n C 2 dX5_paper_39 rfl rfl ?_
        have hin_40 : vp_in a 20 := by
          exact vp_ofc b_2 hl hl20 (by decide)
        refine G.aald (g := 3) (i := 0) (n := 20) (f := fun q => w.2.2.2.1 14 q) C 1 dX5_paper_40 (by decide) rfl rfl rfl hin_40 ?_
        refine G.iload_n C 3 dX5_paper_41 rfl rfl ?_
        refine G.put (g := 14) (i := a.toNatClampNeg) C 4 (some "PlateRoom") dX5_paper_42 (vp_lt hin_40) rfl rfl uX_X2 tyX2 tyX2_ok nmX2 (by decide) unf_RX5_133 rfl rfl (by decide +kernel) (Nat.le_of_ble_eq_true rfl) w_up_14_4 ?_
        refine G.iload_n C 0 dX5_paper_45 rfl rfl ?_
        subst hQ
        exact G.iret C hr dX5_paper_46 (by
            exact Or.inr ⟨⟨b_2, Or.inr b_16⟩, rfl, ex3_34⟩)
      · have b_16 := wb_0 e_16 c_19
        refine G.bipush (v := -2) C dX5_paper_22 (by decide) ?_
        subst hQ
        exact G.iret C hr dX5_paper_24 (by
            refine Or.inl ⟨fun q => ?_, rfl, rfl⟩
            first | exact b_2 q.1 | exact q.2.elim c_11 b_16)
set_option maxHeartbeats 4000000 in
set_option maxRecDepth 100000 in
theorem ok_X5_imprint {w : wD} (hw : wOK w) (σ : wSt) (a b : Int32) {l : Nat} (hl : σ.1 0 0 3 = nI l) (hl20 : l ≤ 20) : MI w yX5_imprint cX5_imprint 4 (some .int) 1 21 [.ref (w.2.2.2.1 0 0), .int a, .int b] σ (fun r τ => (¬ (inN (σ.1 0 0 3) a ∧ (b = -9 ∨ okY b)) ∧ σ = τ ∧ r = -2) ∨ ((inN (σ.1 0 0 3) a ∧ (b = -9 ∨ okY b)) ∧ wUp σ 14 a.toNatClampNeg 5 b = τ ∧ r = σ.1 14 a.toNatClampNeg 5)) := by
  refine MI.of hw (by decide +kernel) (Nat.le_of_ble_eq_true rfl) (fun x C hr => ?_)
  suffices key : ∀ Q, Q = QI w x (fun r τ => (¬ (inN (σ.1 0 0 3) a ∧ (b = -9 ∨ okY b)) ∧ σ = τ ∧ r = -2) ∨ ((inN (σ.1 0 0 3) a ∧ (b = -9 ∨ okY b)) ∧ wUp σ 14 a.toNatClampNeg 5 b = τ ∧ r = σ.1 14 a.toNatClampNeg 5)) → G w x 4 Q 0 [(0, .ref (w.2.2.2.1 0 0)), (1, .int a), (2, .int b)] [] σ from key _ rfl
  intro Q hQ
  refine G.aload_n C 0 dX5_imprint_0 rfl rfl ?_
  refine G.iload_n C 1 dX5_imprint_1 rfl rfl ?_
  have hM_0 := ok_X5_isLeaf hw σ a
  refine G.callV C (g := 0) (i := 0) none hM_0 dX5_imprint_2 (by decide) rfl rfl rfl uv_X5_isLeaf ul_RX5_111 rfl rfl (by decide) (Nat.le_of_ble_eq_true rfl) (fun r_2 τ_2 h_2 => ?_)
  obtain ⟨h_2, e_2⟩ := h_2; subst h_2
  refine G.if_eq (tgt := 21) C dX5_imprint_5 (by decide) (fun c_5 => ?_) (fun c_5 => ?_)
  · have b_2 := wb_0 e_2 c_5
    refine G.bipush (v := -2) C dX5_imprint_21 (by decide) ?_
    subst hQ
    exact G.iret C hr dX5_imprint_23 (by
        refine Or.inl ⟨fun q => ?_, rfl, rfl⟩
        first | exact b_2 q.1 | exact q.2.elim c_11 b_15)
  · have b_2 := wb_1 e_2 c_5
    refine G.iload_n C 2 dX5_imprint_8 rfl rfl ?_
    refine G.bipush (v := -9) C dX5_imprint_9 (by decide) ?_
    refine G.icmp_eq (tgt := 24) C dX5_imprint_11 (by decide) (fun c_11 => ?_) (fun c_11 => ?_)
    · refine G.aload_n C 0 dX5_imprint_24 rfl rfl ?_
      refine G.get (g := 0) (i := 0) C 2 none dX5_imprint_25 (by decide) rfl rfl uX_X5 (by decide) uf_RX5_25 rfl rfl ?_
      refine G.iload_n C 1 dX5_imprint_28 rfl rfl ?_
      have hin_29 : vp_in a 20 := by
        exact vp_ofc b_2 hl hl20 (by decide)
      refine G.aald (g := 3) (i := 0) (n := 20) (f := fun q => w.2.2.2.1 14 q) C 1 dX5_imprint_29 (by decide) rfl rfl rfl hin_29 ?_
      refine G.get (g := 14) (i := a.toNatClampNeg) C 5 (some "PlateRoom") dX5_imprint_30 (vp_lt hin_29) rfl rfl uX_X2 (by decide) unf_RX5_139 rfl rfl ?_
      refine G.topi (fun x3_33 ex3_33 => ?_)
      refine G.istore_n (L1 := [(3, .int x3_33), (0, .ref (w.2.2.2.1 0 0)), (1, .int a), (2, .int b)]) C dX5_imprint_33 rfl (by decide) rfl ?_
      refine G.aload_n C 1 dX5_imprint_34 rfl rfl ?_
      refine G.get (g := 0) (i := 0) C 2 none dX5_imprint_35 (by decide) rfl rfl uX_X5 (by decide) uf_RX5_25 rfl rfl ?_
      refine G.iload_n C 2 dX5_imprint_38 rfl rfl ?_
      have hin_39 : vp_in a 20 := by
        exact vp_ofc b_2 hl hl20 (by decide)
      refine G.aald (g := 3) (i := 0) (n := 20) (f := fun q => w.2.2.2.1 14 q) C 1 dX5_imprint_39 (by decide) rfl rfl rfl hin_39 ?_
      refine G.iload_n C 3 dX5_imprint_40 rfl rfl ?_
      refine G.put (g := 14) (i := a.toNatClampNeg) C 5 (some "PlateRoom") dX5_imprint_41 (vp_lt hin_39) rfl rfl uX_X2 tyX2 tyX2_ok nmX2 (by decide) unf_RX5_139 rfl rfl (by decide +kernel) (Nat.le_of_ble_eq_true rfl) w_up_14_5 ?_
      refine G.iload_n C 0 dX5_imprint_44 rfl rfl ?_
      subst hQ
      exact G.iret C hr dX5_imprint_45 (by
          exact Or.inr ⟨⟨b_2, Or.inl c_11⟩, rfl, ex3_33⟩)
    · refine G.iload_n C 2 dX5_imprint_14 rfl rfl ?_
      have hM_1 := ok_X5_isYear hw σ b
      refine G.callS C none hM_1 dX5_imprint_15 us_X5_isYear ul_RX5_136 rfl rfl (by decide) (Nat.le_of_ble_eq_true rfl) (fun r_15 τ_15 h_15 => ?_)
      obtain ⟨h_15, e_15⟩ := h_15; subst h_15
      refine G.if_ne (tgt := 24) C dX5_imprint_18 (by decide) (fun c_18 => ?_) (fun c_18 => ?_)
      · have b_15 := wb_1 e_15 c_18
        refine G.aload_n C 0 dX5_imprint_24 rfl rfl ?_
        refine G.get (g := 0) (i := 0) C 2 none dX5_imprint_25 (by decide) rfl rfl uX_X5 (by decide) uf_RX5_25 rfl rfl ?_
        refine G.iload_n C 1 dX5_imprint_28 rfl rfl ?_
        have hin_29 : vp_in a 20 := by
          exact vp_ofc b_2 hl hl20 (by decide)
        refine G.aald (g := 3) (i := 0) (n := 20) (f := fun q => w.2.2.2.1 14 q) C 1 dX5_imprint_29 (by decide) rfl rfl rfl hin_29 ?_
        refine G.get (g := 14) (i := a.toNatClampNeg) C 5 (some "PlateRoom") dX5_imprint_30 (vp_lt hin_29) rfl rfl uX_X2 (by decide) unf_RX5_139 rfl rfl ?_
        refine G.topi (fun x3_33 ex3_33 => ?_)
        refine G.istore_n (L1 := [(3, .int x3_33), (0, .ref (w.2.2.2.1 0 0)), (1, .int a), (2, .int b)]) C dX5_imprint_33 rfl (by decide) rfl ?_
        refine G.aload_n C 1 dX5_imprint_34 rfl rfl ?_
        refine G.get (g := 0) (i := 0) C 2 none dX5_imprint_35 (by decide) rfl rfl uX_X5 (by decide) uf_RX5_25 rfl rfl ?_
        refine G.iload_n C 2 dX5_imprint_38 rfl rfl ?_
        have hin_39 : vp_in a 20 := by
          exact vp_ofc b_2 hl hl20 (by decide)
        refine G.aald (g := 3) (i := 0) (n := 20) (f := fun q => w.2.2.2.1 14 q) C 1 dX5_imprint_39 (by decide) rfl rfl rfl hin_39 ?_
        refine G.iload_n C 3 dX5_imprint_40 rfl rfl ?_
        refine G.put (g := 14) (i := a.toNatClampNeg) C 5 (some "PlateRoom") dX5_imprint_41 (vp_lt hin_39) rfl rfl uX_X2 tyX2 tyX2_ok nmX2 (by decide) unf_RX5_139 rfl rfl (by decide +kernel) (Nat.le_of_ble_eq_true rfl) w_up_14_5 ?_
        refine G.iload_n C 0 dX5_imprint_44 rfl rfl ?_
        subst hQ
        exact G.iret C hr dX5_imprint_45 (by
            exact Or.inr ⟨⟨b_2, Or.inr b_15⟩, rfl, ex3_33⟩)
      · have b_15 := wb_0 e_15 c_18
        refine G.bipush (v := -2) C dX5_imprint_21 (by decide) ?_
        subst hQ
        exact G.iret C hr dX5_imprint_23 (by
            refine Or.inl ⟨fun q => ?_, rfl, rfl⟩
            first | exact b_2 q.1 | exact q.2.elim c_11 b_15)
