set_option maxHeartbeats 4000000 in
set_option maxRecDepth 100000 in
theorem ok_X1_isWithin_15 {w : wD} (hw : wOK w) (σ : wSt) (i : Nat) (a f : Int32) (hi : i < wN 15) {h : Nat} (hh : σ.1 15 i 1 = nI h) (hh6 : h ≤ 6) : MI w yX1_isWithin cX1_isWithin 4 (some .boolean) 1 21 [.ref (w.2.2.2.1 15 i), .int a, .int f] σ (fun r τ => σ = τ ∧ r = wb (nearB (σ.1 16 i) a f h = true)) := by
  refine MI.of hw (by decide +kernel) (Nat.le_of_ble_eq_true rfl) (fun x C hr => ?_)
  suffices key : ∀ Q, Q = QI w x (fun r τ => σ = τ ∧ r = wb (nearB (σ.1 16 i) a f h = true)) → G w x 4 Q 0 [(0, .ref (w.2.2.2.1 15 i)), (1, .int a), (2, .int f)] [] σ from key _ rfl
  intro Q hQ
  refine G.iconst (v := 0) C dX1_isWithin_0 (by decide) ?_
  refine G.istore_n (L1 := [(3, .int 0), (0, .ref (w.2.2.2.1 15 i)), (1, .int a), (2, .int f)]) C dX1_isWithin_1 rfl (by decide) rfl ?_
  have cut_2 : ∀ (m9 : Nat) (j : Nat) (x3 : Int32), j ≤ h → h < j + m9 → nearB (σ.1 16 i) a f j = false → x3 = nI j → G w x 4 Q 2 [(3, .int x3), (0, .ref (w.2.2.2.1 15 i)), (1, .int a), (2, .int f)] [] σ := by
    intro m9
    induction m9 with
    | zero =>
      intro j x3 hj hm hf hx3
      exfalso
      omega
    | succ m9 ih_2 =>
      intro j x3 hj hm hf hx3
      subst hx3
      refine G.iload_n C 0 dX1_isWithin_2 rfl rfl ?_
      refine G.aload_n C 1 dX1_isWithin_3 rfl rfl ?_
      refine G.get (g := 15) (i := i) C 1 none dX1_isWithin_4 hi rfl rfl uX_X1 (by decide) uf_RX1_15 rfl rfl ?_
      refine G.icmp_ge (tgt := 33) C dX1_isWithin_7 (by decide) (fun c_7 => ?_) (fun c_7 => ?_)
      · have hjn : j = h := by
          rw [hh, nI_leI (by omega) (by omega)] at c_7; omega
        refine G.iconst (v := 0) C dX1_isWithin_33 (by decide) ?_
        subst hQ
        exact G.zret C hr (by rfl) dX1_isWithin_34 (by
            exact ⟨rfl, (wb_f (by rw [← hjn, hf]; decide)).symm⟩)
      · have hjn : j < h := by
          rw [hh, nI_leI (by omega) (by omega)] at c_7; omega
        refine G.aload_n C 1 dX1_isWithin_10 rfl rfl ?_
        refine G.get (g := 15) (i := i) C 0 none dX1_isWithin_11 hi rfl rfl uX_X1 (by decide) uf_RX1_11 rfl rfl ?_
        refine G.iload_n C 0 dX1_isWithin_14 rfl rfl ?_
        have hin_15 : vp_in (nI j) 6 := by
          exact vp_in_nI (by omega) (by decide)
        refine G.iald (g := 16) (i := i) (n := 6) C dX1_isWithin_15 hi rfl hin_15 ?_
        refine G.iload_n C 2 dX1_isWithin_16 rfl rfl ?_
        refine G.isub C dX1_isWithin_17 ?_
        refine G.mabs C dX1_isWithin_18 ul_RX1_23 (by decide) (Nat.le_of_ble_eq_true rfl) ?_
        refine G.iload_n C 3 dX1_isWithin_21 rfl rfl ?_
        refine G.icmp_gt (tgt := 27) C dX1_isWithin_22 (by decide) (fun c_22 => ?_) (fun c_22 => ?_)
        · obtain ⟨x3_27, ex3_27⟩ : ∃ z : Int32, z = (nI j) + 1 := ⟨_, rfl⟩
          refine G.iinc (v := x3_27) (L1 := [(3, .int x3_27), (0, .ref (w.2.2.2.1 15 i)), (1, .int a), (2, .int f)]) C 0 dX1_isWithin_27 rfl (by rw [ex3_27]; rfl) (by decide) rfl ?_
          refine G.goto (tgt := 2) C dX1_isWithin_30 (by decide) ?_
          refine ih_2  (j + 1) _ ?_ ?_ ?_ ?_
          · omega
          · omega
          · rw [nI_clamp (by omega)] at c_22
            simp only [nearB, hf, Bool.false_or, decide_eq_false_iff_not]
            exact Int32.not_le.mpr c_22
          · rw [ex3_27]; exact nI_1 j
        · refine G.iconst (v := 1) C dX1_isWithin_25 (by decide) ?_
          subst hQ
          exact G.zret C hr (by rfl) dX1_isWithin_26 (by
              rw [nI_clamp (by omega)] at c_22
              exact ⟨rfl, (wb_t (near_mono (a := j + 1) (by omega) (by simp only [nearB, hf, Bool.false_or, decide_eq_true_eq]; exact Int32.not_lt.mp c_22))).symm⟩)
  refine cut_2 (h + 1) 0 _ ?_ ?_ ?_ ?_
  · omega
  · omega
  · rfl
  · rfl
set_option maxHeartbeats 4000000 in
set_option maxRecDepth 100000 in
theorem ok_X1_isWithin_18 {w : wD} (hw : wOK w) (σ : wSt) (i : Nat) (a f : Int32) (hi : i < wN 18) {h : Nat} (hh : σ.1 18 i 1 = nI h) (hh6 : h ≤ 6) : MI w yX1_isWithin cX1_isWithin 4 (some .boolean) 1 21 [.ref (w.2.2.2.1 18 i), .int a, .int f] σ (fun r τ => σ = τ ∧ r = wb (nearB (σ.1 19 i) a f h = true)) := by
  refine MI.of hw (by decide +kernel) (Nat.le_of_ble_eq_true rfl) (fun x C hr => ?_)
  suffices key : ∀ Q, Q = QI w x (fun r τ => σ = τ ∧ r = wb (nearB (σ.1 19 i) a f h = true)) → G w x 4 Q 0 [(0, .ref (w.2.2.2.1 18 i)), (1, .int a), (2, .int f)] [] σ from key _ rfl
  intro Q hQ
  refine G.iconst (v := 0) C dX1_isWithin_0 (by decide) ?_
  refine G.istore_n (L1 := [(3, .int 0), (0, .ref (w.2.2.2.1 18 i)), (1, .int a), (2, .int f)]) C dX1_isWithin_1 rfl (by decide) rfl ?_
  have cut_2 : ∀ (m9 : Nat) (j : Nat) (x3 : Int32), j ≤ h → h < j + m9 → nearB (σ.1 19 i) a f j = false → x3 = nI j → G w x 4 Q 2 [(3, .int x3), (0, .ref (w.2.2.2.1 18 i)), (1, .int a), (2, .int f)] [] σ := by
    intro m9
    induction m9 with
    | zero =>
      intro j x3 hj hm hf hx3
      exfalso
      omega
    | succ m9 ih_2 =>
      intro j x3 hj hm hf hx3
      subst hx3
      refine G.iload_n C 0 dX1_isWithin_2 rfl rfl ?_
      refine G.aload_n C 1 dX1_isWithin_3 rfl rfl ?_
      refine G.get (g := 18) (i := i) C 1 none dX1_isWithin_4 hi rfl rfl uX_X1 (by decide) uf_RX1_15 rfl rfl ?_
      refine G.icmp_ge (tgt := 33) C dX1_isWithin_7 (by decide) (fun c_7 => ?_) (fun c_7 => ?_)
      · have hjn : j = h := by
          rw [hh, nI_leI (by omega) (by omega)] at c_7; omega
        refine G.iconst (v := 0) C dX1_isWithin_33 (by decide) ?_
        subst hQ
        exact G.zret C hr (by rfl) dX1_isWithin_34 (by
            exact ⟨rfl, (wb_f (by rw [← hjn, hf]; decide)).symm⟩)
      · have hjn : j < h := by
          rw [hh, nI_leI (by omega) (by omega)] at c_7; omega
        refine G.aload_n C 1 dX1_isWithin_10 rfl rfl ?_
        refine G.get (g := 18) (i := i) C 0 none dX1_isWithin_11 hi rfl rfl uX_X1 (by decide) uf_RX1_11 rfl rfl ?_
        refine G.iload_n C 0 dX1_isWithin_14 rfl rfl ?_
        have hin_15 : vp_in (nI j) 6 := by
          exact vp_in_nI (by omega) (by decide)
        refine G.iald (g := 19) (i := i) (n := 6) C dX1_isWithin_15 hi rfl hin_15 ?_
        refine G.iload_n C 2 dX1_isWithin_16 rfl rfl ?_
        refine G.isub C dX1_isWithin_17 ?_
        refine G.mabs C dX1_isWithin_18 ul_RX1_23 (by decide) (Nat.le_of_ble_eq_true rfl) ?_
        refine G.iload_n C 3 dX1_isWithin_21 rfl rfl ?_
        refine G.icmp_gt (tgt := 27) C dX1_isWithin_22 (by decide) (fun c_22 => ?_) (fun c_22 => ?_)
        · obtain ⟨x3_27, ex3_27⟩ : ∃ z : Int32, z = (nI j) + 1 := ⟨_, rfl⟩
          refine G.iinc (v := x3_27) (L1 := [(3, .int x3_27), (0, .ref (w.2.2.2.1 18 i)), (1, .int a), (2, .int f)]) C 0 dX1_isWithin_27 rfl (by rw [ex3_27]; rfl) (by decide) rfl ?_
          refine G.goto (tgt := 2) C dX1_isWithin_30 (by decide) ?_
          refine ih_2  (j + 1) _ ?_ ?_ ?_ ?_
          · omega
          · omega
          · rw [nI_clamp (by omega)] at c_22
            simp only [nearB, hf, Bool.false_or, decide_eq_false_iff_not]
            exact Int32.not_le.mpr c_22
          · rw [ex3_27]; exact nI_1 j
        · refine G.iconst (v := 1) C dX1_isWithin_25 (by decide) ?_
          subst hQ
          exact G.zret C hr (by rfl) dX1_isWithin_26 (by
              rw [nI_clamp (by omega)] at c_22
              exact ⟨rfl, (wb_t (near_mono (a := j + 1) (by omega) (by simp only [nearB, hf, Bool.false_or, decide_eq_true_eq]; exact Int32.not_lt.mp c_22))).symm⟩)
  refine cut_2 (h + 1) 0 _ ?_ ?_ ?_ ?_
  · omega
  · omega
  · rfl
  · rfl
set_option maxHeartbeats 4000000 in
set_option maxRecDepth 100000 in
theorem ok_X1_bore_15 {w : wD} (hw : wOK w) (σ : wSt) (i : Nat) (a : Int32) (hi : i < wN 15) {h : Nat} (hh : σ.1 15 i 1 = nI h) (hh6 : h ≤ 6) : MI w yX1_bore cX1_bore 2 (some .int) 2 44 [.ref (w.2.2.2.1 15 i), .int a] σ (fun r τ => (nearB (σ.1 16 i) a 0 h = true ∧ σ = τ ∧ r = nI h) ∨ (nearB (σ.1 16 i) a 0 h = false ∧ 6 ≤ h ∧ σ = τ ∧ r = -3) ∨ (nearB (σ.1 16 i) a 0 h = false ∧ h < 6 ∧ wUp (wUp σ 16 i h a) 15 i 1 (nI (h + 1)) = τ ∧ r = nI (h + 1))) := by
  refine MI.of hw (by decide +kernel) (Nat.le_of_ble_eq_true rfl) (fun x C hr => ?_)
  suffices key : ∀ Q, Q = QI w x (fun r τ => (nearB (σ.1 16 i) a 0 h = true ∧ σ = τ ∧ r = nI h) ∨ (nearB (σ.1 16 i) a 0 h = false ∧ 6 ≤ h ∧ σ = τ ∧ r = -3) ∨ (nearB (σ.1 16 i) a 0 h = false ∧ h < 6 ∧ wUp (wUp σ 16 i h a) 15 i 1 (nI (h + 1)) = τ ∧ r = nI (h + 1))) → G w x 2 Q 0 [(0, .ref (w.2.2.2.1 15 i)), (1, .int a)] [] σ from key _ rfl
  intro Q hQ
  refine G.aload_n C 0 dX1_bore_0 rfl rfl ?_
  refine G.iload_n C 1 dX1_bore_1 rfl rfl ?_
  refine G.iconst (v := 0) C dX1_bore_2 (by decide) ?_
  have hM_0 := ok_X1_isWithin_15 hw σ i a 0 hi hh hh6
  refine G.callV C (g := 15) (i := i) none hM_0 dX1_bore_3 hi rfl rfl rfl uv_X1_isWithin ul_RX1_19 rfl rfl (by decide) (Nat.le_of_ble_eq_true rfl) (fun r_3 τ_3 h_3 => ?_)
  obtain ⟨h_3, e_3⟩ := h_3; subst h_3
  refine G.if_eq (tgt := 14) C dX1_bore_6 (by decide) (fun c_6 => ?_) (fun c_6 => ?_)
  · have b_3 := wb_0 e_3 c_6
    refine G.aload_n C 0 dX1_bore_14 rfl rfl ?_
    refine G.get (g := 15) (i := i) C 1 none dX1_bore_15 hi rfl rfl uX_X1 (by decide) uf_RX1_15 rfl rfl ?_
    refine G.bipush (v := 6) C dX1_bore_18 (by decide) ?_
    refine G.icmp_lt (tgt := 26) C dX1_bore_20 (by decide) (fun c_20 => ?_) (fun c_20 => ?_)
    · have hh9 : h < 6 := by
        rw [hh] at c_20
        exact (nI_ltI (by omega) (by decide)).mp c_20
      refine G.aload_n C 0 dX1_bore_26 rfl rfl ?_
      refine G.get (g := 15) (i := i) C 0 none dX1_bore_27 hi rfl rfl uX_X1 (by decide) uf_RX1_11 rfl rfl ?_
      refine G.aload_n C 0 dX1_bore_30 rfl rfl ?_
      refine G.get (g := 15) (i := i) C 1 none dX1_bore_31 hi rfl rfl uX_X1 (by decide) uf_RX1_15 rfl rfl ?_
      refine G.iload_n C 1 dX1_bore_34 rfl rfl ?_
      have hin_35 : vp_in (σ.1 15 i 1) 6 := by
        rw [hh]; exact vp_in_nI (by omega) (by decide)
      refine G.iast (g := 16) (i := i) (n := 6) C dX1_bore_35 hi rfl hin_35 w_ast_16 ?_
      refine G.aload_n C 0 dX1_bore_36 rfl rfl ?_
      refine G.dup C dX1_bore_37 rfl ?_
      refine G.get (g := 15) (i := i) C 1 none dX1_bore_38 hi rfl rfl uX_X1 (by decide) uf_RX1_15 rfl rfl ?_
      refine G.iconst (v := 1) C dX1_bore_41 (by decide) ?_
      refine G.iadd C dX1_bore_42 ?_
      refine G.put (g := 15) (i := i) C 1 none dX1_bore_43 hi rfl rfl uX_X1 tyX1 tyX1_ok nmX1 (by decide) uf_RX1_15 rfl rfl (by decide +kernel) (Nat.le_of_ble_eq_true rfl) w_up_15_1 ?_
      refine G.aload_n C 0 dX1_bore_46 rfl rfl ?_
      refine G.get (g := 15) (i := i) C 1 none dX1_bore_47 hi rfl rfl uX_X1 (by decide) uf_RX1_15 rfl rfl ?_
      subst hQ
      exact G.iret C hr dX1_bore_50 (by
          refine Or.inr (Or.inr ⟨Bool.eq_false_iff.mpr b_3, hh9, ?_, ?_⟩)
          · rw [wUp_ng (by decide), hh, nI_clamp (by omega), nI_1]
          · rw [wUp_eq, wUp_ng (by decide), hh, nI_1])
    · have hh9 : 6 ≤ h := by
        rw [hh] at c_20
        rcases Nat.lt_or_ge h 6 with q | q
        · exact absurd (nI_lt q (by decide)) c_20
        · exact q
      refine G.bipush (v := -3) C dX1_bore_23 (by decide) ?_
      subst hQ
      exact G.iret C hr dX1_bore_25 (by
          exact Or.inr (Or.inl ⟨Bool.eq_false_iff.mpr b_3, hh9, rfl, rfl⟩))
  · have b_3 := wb_1 e_3 c_6
    have b9 := b_3
    refine G.aload_n C 0 dX1_bore_9 rfl rfl ?_
    refine G.get (g := 15) (i := i) C 1 none dX1_bore_10 hi rfl rfl uX_X1 (by decide) uf_RX1_15 rfl rfl ?_
    subst hQ
    exact G.iret C hr dX1_bore_13 (by
        exact Or.inl ⟨b_3, rfl, hh⟩)
set_option maxHeartbeats 4000000 in
set_option maxRecDepth 100000 in
theorem ok_X1_bore_18 {w : wD} (hw : wOK w) (σ : wSt) (i : Nat) (a : Int32) (hi : i < wN 18) {h : Nat} (hh : σ.1 18 i 1 = nI h) (hh6 : h ≤ 6) : MI w yX1_bore cX1_bore 2 (some .int) 2 44 [.ref (w.2.2.2.1 18 i), .int a] σ (fun r τ => (nearB (σ.1 19 i) a 0 h = true ∧ σ = τ ∧ r = nI h) ∨ (nearB (σ.1 19 i) a 0 h = false ∧ 6 ≤ h ∧ σ = τ ∧ r = -3) ∨ (nearB (σ.1 19 i) a 0 h = false ∧ h < 6 ∧ wUp (wUp σ 19 i h a) 18 i 1 (nI (h + 1)) = τ ∧ r = nI (h + 1))) := by
  refine MI.of hw (by decide +kernel) (Nat.le_of_ble_eq_true rfl) (fun x C hr => ?_)
  suffices key : ∀ Q, Q = QI w x (fun r τ => (nearB (σ.1 19 i) a 0 h = true ∧ σ = τ ∧ r = nI h) ∨ (nearB (σ.1 19 i) a 0 h = false ∧ 6 ≤ h ∧ σ = τ ∧ r = -3) ∨ (nearB (σ.1 19 i) a 0 h = false ∧ h < 6 ∧ wUp (wUp σ 19 i h a) 18 i 1 (nI (h + 1)) = τ ∧ r = nI (h + 1))) → G w x 2 Q 0 [(0, .ref (w.2.2.2.1 18 i)), (1, .int a)] [] σ from key _ rfl
  intro Q hQ
  refine G.aload_n C 0 dX1_bore_0 rfl rfl ?_
  refine G.iload_n C 1 dX1_bore_1 rfl rfl ?_
  refine G.iconst (v := 0) C dX1_bore_2 (by decide) ?_
  have hM_0 := ok_X1_isWithin_18 hw σ i a 0 hi hh hh6
  refine G.callV C (g := 18) (i := i) none hM_0 dX1_bore_3 hi rfl rfl rfl uv_X1_isWithin ul_RX1_19 rfl rfl (by decide) (Nat.le_of_ble_eq_true rfl) (fun r_3 τ_3 h_3 => ?_)
  obtain ⟨h_3, e_3⟩ := h_3; subst h_3
  refine G.if_eq (tgt := 14) C dX1_bore_6 (by decide) (fun c_6 => ?_) (fun c_6 => ?_)
  · have b_3 := wb_0 e_3 c_6
    refine G.aload_n C 0 dX1_bore_14 rfl rfl ?_
    refine G.get (g := 18) (i := i) C 1 none dX1_bore_15 hi rfl rfl uX_X1 (by decide) uf_RX1_15 rfl rfl ?_
    refine G.bipush (v := 6) C dX1_bore_18 (by decide) ?_
    refine G.icmp_lt (tgt := 26) C dX1_bore_20 (by decide) (fun c_20 => ?_) (fun c_20 => ?_)
    · have hh9 : h < 6 := by
        rw [hh] at c_20
        exact (nI_ltI (by omega) (by decide)).mp c_20
      refine G.aload_n C 0 dX1_bore_26 rfl rfl ?_
      refine G.get (g := 18) (i := i) C 0 none dX1_bore_27 hi rfl rfl uX_X1 (by decide) uf_RX1_11 rfl rfl ?_
      refine G.aload_n C 0 dX1_bore_30 rfl rfl ?_
      refine G.get (g := 18) (i := i) C 1 none dX1_bore_31 hi rfl rfl uX_X1 (by decide) uf_RX1_15 rfl rfl ?_
      refine G.iload_n C 1 dX1_bore_34 rfl rfl ?_
      have hin_35 : vp_in (σ.1 18 i 1) 6 := by
        rw [hh]; exact vp_in_nI (by omega) (by decide)
      refine G.iast (g := 19) (i := i) (n := 6) C dX1_bore_35 hi rfl hin_35 w_ast_19 ?_
      refine G.aload_n C 0 dX1_bore_36 rfl rfl ?_
      refine G.dup C dX1_bore_37 rfl ?_
      refine G.get (g := 18) (i := i) C 1 none dX1_bore_38 hi rfl rfl uX_X1 (by decide) uf_RX1_15 rfl rfl ?_
      refine G.iconst (v := 1) C dX1_bore_41 (by decide) ?_
      refine G.iadd C dX1_bore_42 ?_
      refine G.put (g := 18) (i := i) C 1 none dX1_bore_43 hi rfl rfl uX_X1 tyX1 tyX1_ok nmX1 (by decide) uf_RX1_15 rfl rfl (by decide +kernel) (Nat.le_of_ble_eq_true rfl) w_up_18_1 ?_
      refine G.aload_n C 0 dX1_bore_46 rfl rfl ?_
      refine G.get (g := 18) (i := i) C 1 none dX1_bore_47 hi rfl rfl uX_X1 (by decide) uf_RX1_15 rfl rfl ?_
      subst hQ
      exact G.iret C hr dX1_bore_50 (by
          refine Or.inr (Or.inr ⟨Bool.eq_false_iff.mpr b_3, hh9, ?_, ?_⟩)
          · rw [wUp_ng (by decide), hh, nI_clamp (by omega), nI_1]
          · rw [wUp_eq, wUp_ng (by decide), hh, nI_1])
    · have hh9 : 6 ≤ h := by
        rw [hh] at c_20
        rcases Nat.lt_or_ge h 6 with q | q
        · exact absurd (nI_lt q (by decide)) c_20
        · exact q
      refine G.bipush (v := -3) C dX1_bore_23 (by decide) ?_
      subst hQ
      exact G.iret C hr dX1_bore_25 (by
          exact Or.inr (Or.inl ⟨Bool.eq_false_iff.mpr b_3, hh9, rfl, rfl⟩))
  · have b_3 := wb_1 e_3 c_6
    have b9 := b_3
    refine G.aload_n C 0 dX1_bore_9 rfl rfl ?_
    refine G.get (g := 18) (i := i) C 1 none dX1_bore_10 hi rfl rfl uX_X1 (by decide) uf_RX1_15 rfl rfl ?_
    subst hQ
    exact G.iret C hr dX1_bore_13 (by
        exact Or.inl ⟨b_3, rfl, hh⟩)
set_option maxHeartbeats 4000000 in
set_option maxRecDepth 100000 in
theorem ok_X1_fitting {w : wD} (hw : wOK w) (σ : wSt) (i j : Nat) (s : Int32) (hi : i < wN 15) (hj9 : j < wN 18) {h b : Nat} (hh : σ.1 15 i 1 = nI h) (hh6 : h ≤ 6) (hb : σ.1 18 j 1 = nI b) (hb6 : b ≤ 6) : MI w yX1_fitting cX1_fitting 5 (some .int) 2 44 [.ref (w.2.2.2.1 15 i), .ref (w.2.2.2.1 18 j), .int s] σ (fun r τ => σ = τ ∧ r = fitU (σ.1 16 i) (σ.1 19 j) b s h) := by
  refine MI.of hw (by decide +kernel) (Nat.le_of_ble_eq_true rfl) (fun x C hr => ?_)
  suffices key : ∀ Q, Q = QI w x (fun r τ => σ = τ ∧ r = fitU (σ.1 16 i) (σ.1 19 j) b s h) → G w x 5 Q 0 [(0, .ref (w.2.2.2.1 15 i)), (1, .ref (w.2.2.2.1 18 j)), (2, .int s)] [] σ from key _ rfl
  intro Q hQ
  refine G.iconst (v := 0) C dX1_fitting_0 (by decide) ?_
  refine G.istore_n (L1 := [(3, .int 0), (0, .ref (w.2.2.2.1 15 i)), (1, .ref (w.2.2.2.1 18 j)), (2, .int s)]) C dX1_fitting_1 rfl (by decide) rfl ?_
  refine G.iconst (v := 0) C dX1_fitting_2 (by decide) ?_
  refine G.istore (L1 := [(4, .int 0), (3, .int 0), (0, .ref (w.2.2.2.1 15 i)), (1, .ref (w.2.2.2.1 18 j)), (2, .int s)]) C dX1_fitting_3 (by decide) rfl ?_
  have cut_5 : ∀ (m9 : Nat) (k : Nat) (x4 x3 : Int32), k ≤ h → h < k + m9 → x4 = nI k → x3 = fitU (σ.1 16 i) (σ.1 19 j) b s k → G w x 5 Q 5 [(4, .int x4), (3, .int x3), (0, .ref (w.2.2.2.1 15 i)), (1, .ref (w.2.2.2.1 18 j)), (2, .int s)] [] σ := by
    intro m9
    induction m9 with
    | zero =>
      intro k x4 x3 hk hm hx4 hx3
      exfalso
      omega
    | succ m9 ih_5 =>
      intro k x4 x3 hk hm hx4 hx3
      subst hx4
      subst hx3
      refine G.iload C 0 dX1_fitting_5 rfl ?_
      refine G.aload_n C 2 dX1_fitting_7 rfl rfl ?_
      refine G.get (g := 15) (i := i) C 1 none dX1_fitting_8 hi rfl rfl uX_X1 (by decide) uf_RX1_15 rfl rfl ?_
      refine G.icmp_ge (tgt := 40) C dX1_fitting_11 (by decide) (fun c_11 => ?_) (fun c_11 => ?_)
      · have hkn : k = h := by
          rw [hh, nI_leI (by omega) (by omega)] at c_11; omega
        refine G.iload_n C 1 dX1_fitting_40 rfl rfl ?_
        subst hQ
        exact G.iret C hr dX1_fitting_41 (by
            rw [hkn]
            exact ⟨rfl, rfl⟩)
      · have hkn : k < h := by
          rw [hh, nI_leI (by omega) (by omega)] at c_11; omega
        refine G.aload_n C 3 dX1_fitting_14 rfl rfl ?_
        refine G.aload_n C 2 dX1_fitting_15 rfl rfl ?_
        refine G.get (g := 15) (i := i) C 0 none dX1_fitting_16 hi rfl rfl uX_X1 (by decide) uf_RX1_11 rfl rfl ?_
        refine G.iload C 0 dX1_fitting_19 rfl ?_
        have hin_21 : vp_in (nI k) 6 := by
          exact vp_in_nI (by omega) (by decide)
        refine G.iald (g := 16) (i := i) (n := 6) C dX1_fitting_21 hi rfl hin_21 ?_
        refine G.iload_n C 4 dX1_fitting_22 rfl rfl ?_
        refine G.iadd C dX1_fitting_23 ?_
        refine G.iconst (v := 1) C dX1_fitting_24 (by decide) ?_
        have hM_0 := ok_X1_isWithin_18 hw σ j ((σ.1 16 i (nI k).toNatClampNeg) + s) 1 hj9 hb hb6
        refine G.callV C (g := 18) (i := j) none hM_0 dX1_fitting_25 hj9 rfl rfl rfl uv_X1_isWithin ul_RX1_19 rfl rfl (by decide) (Nat.le_of_ble_eq_true rfl) (fun r_25 τ_25 h_25 => ?_)
        obtain ⟨h_25, e_25⟩ := h_25; subst h_25
        refine G.if_eq (tgt := 34) C dX1_fitting_28 (by decide) (fun c_28 => ?_) (fun c_28 => ?_)
        · have b_25 := wb_0 e_25 c_28
          obtain ⟨x4_34, ex4_34⟩ : ∃ z : Int32, z = (nI k) + 1 := ⟨_, rfl⟩
          refine G.iinc (v := x4_34) (L1 := [(4, .int x4_34), (3, .int (fitU (σ.1 16 i) (σ.1 19 j) b s k)), (0, .ref (w.2.2.2.1 15 i)), (1, .ref (w.2.2.2.1 18 j)), (2, .int s)]) C 0 dX1_fitting_34 rfl (by rw [ex4_34]; rfl) (by decide) rfl ?_
          refine G.goto (tgt := 5) C dX1_fitting_37 (by decide) ?_
          refine ih_5  (k + 1) _ _ ?_ ?_ ?_ ?_
          · omega
          · omega
          · rw [ex4_34]; exact nI_1 k
          · rw [nI_clamp (by omega)] at b_25
            rw [fitU_f b_25]
        · have b_25 := wb_1 e_25 c_28
          obtain ⟨x3_31, ex3_31⟩ : ∃ z : Int32, z = (fitU (σ.1 16 i) (σ.1 19 j) b s k) + 1 := ⟨_, rfl⟩
          refine G.iinc (v := x3_31) (L1 := [(3, .int x3_31), (4, .int (nI k)), (0, .ref (w.2.2.2.1 15 i)), (1, .ref (w.2.2.2.1 18 j)), (2, .int s)]) C 1 dX1_fitting_31 rfl (by rw [ex3_31]; rfl) (by decide) rfl ?_
          obtain ⟨x4_34, ex4_34⟩ : ∃ z : Int32, z = (nI k) + 1 := ⟨_, rfl⟩
          refine G.iinc (v := x4_34) (L1 := [(4, .int x4_34), (3, .int x3_31), (0, .ref (w.2.2.2.1 15 i)), (1, .ref (w.2.2.2.1 18 j)), (2, .int s)]) C 1 dX1_fitting_34 rfl (by rw [ex4_34]; rfl) (by decide) rfl ?_
          refine G.goto (tgt := 5) C dX1_fitting_37 (by decide) ?_
          refine ih_5  (k + 1) _ _ ?_ ?_ ?_ ?_
          · omega
          · omega
          · rw [ex4_34]; exact nI_1 k
          · rw [nI_clamp (by omega)] at b_25
            rw [ex3_31, fitU_t b_25]
  refine cut_5 (h + 1) 0 _ _ ?_ ?_ ?_ ?_
  · omega
  · omega
  · rfl
  · rfl
set_option maxHeartbeats 4000000 in
set_option maxRecDepth 100000 in
theorem ok_X2_strike {w : wD} (hw : wOK w) (σ : wSt) (i : Nat) (a b c d : Int32) (hi : i < wN 14)  : MV w yX2_strike cX2_strike 5 none 0 0 [.ref (w.2.2.2.1 14 i), .int a, .int b, .int c, .int d] σ (fun τ => wUp (wUp (wUp (wUp σ 14 i 0 a) 14 i 1 b) 14 i 2 c) 14 i 3 d = τ) := by
  refine MV.of hw (by decide +kernel) (Nat.le_of_ble_eq_true rfl) (fun x C hr => ?_)
  suffices key : ∀ Q, Q = QV w x (fun τ => wUp (wUp (wUp (wUp σ 14 i 0 a) 14 i 1 b) 14 i 2 c) 14 i 3 d = τ) → G w x 5 Q 0 [(0, .ref (w.2.2.2.1 14 i)), (1, .int a), (2, .int b), (3, .int c), (4, .int d)] [] σ from key _ rfl
  intro Q hQ
  refine G.aload_n C 0 dX2_strike_0 rfl rfl ?_
  refine G.iload_n C 1 dX2_strike_1 rfl rfl ?_
  refine G.put (g := 14) (i := i) C 0 none dX2_strike_2 hi rfl rfl uX_X2 tyX2 tyX2_ok nmX2 (by decide) uf_RX2_9 rfl rfl (by decide +kernel) (Nat.le_of_ble_eq_true rfl) w_up_14_0 ?_
  refine G.aload_n C 0 dX2_strike_5 rfl rfl ?_
  refine G.iload_n C 2 dX2_strike_6 rfl rfl ?_
  refine G.put (g := 14) (i := i) C 1 none dX2_strike_7 hi rfl rfl uX_X2 tyX2 tyX2_ok nmX2 (by decide) uf_RX2_15 rfl rfl (by decide +kernel) (Nat.le_of_ble_eq_true rfl) w_up_14_1 ?_
  refine G.aload_n C 0 dX2_strike_10 rfl rfl ?_
  refine G.iload_n C 3 dX2_strike_11 rfl rfl ?_
  refine G.put (g := 14) (i := i) C 2 none dX2_strike_12 hi rfl rfl uX_X2 tyX2 tyX2_ok nmX2 (by decide) uf_RX2_18 rfl rfl (by decide +kernel) (Nat.le_of_ble_eq_true rfl) w_up_14_2 ?_
  refine G.aload_n C 0 dX2_strike_15 rfl rfl ?_
  refine G.iload C 4 dX2_strike_16 rfl ?_
  refine G.put (g := 14) (i := i) C 3 none dX2_strike_18 hi rfl rfl uX_X2 tyX2 tyX2_ok nmX2 (by decide) uf_RX2_21 rfl rfl (by decide +kernel) (Nat.le_of_ble_eq_true rfl) w_up_14_3 ?_
  subst hQ
  exact G.vret C hr dX2_strike_21 (by
      exact rfl)
set_option maxHeartbeats 4000000 in
set_option maxRecDepth 100000 in
theorem ok_X2_lookOf {w : wD} (hw : wOK w) (σ : wSt) (i : Nat) (a : Int32) (hi : i < wN 14)  : MI w yX2_lookOf cX2_lookOf 2 (some .int) 1 21 [.ref (w.2.2.2.1 14 i), .int a] σ (fun r τ => σ = τ ∧ r = lookF (σ.1 14 i 0) (σ.1 14 i 1) a) := by
  refine MI.of hw (by decide +kernel) (Nat.le_of_ble_eq_true rfl) (fun x C hr => ?_)
  suffices key : ∀ Q, Q = QI w x (fun r τ => σ = τ ∧ r = lookF (σ.1 14 i 0) (σ.1 14 i 1) a) → G w x 2 Q 0 [(0, .ref (w.2.2.2.1 14 i)), (1, .int a)] [] σ from key _ rfl
  intro Q hQ
  refine G.aload_n C 0 dX2_lookOf_0 rfl rfl ?_
  refine G.get (g := 14) (i := i) C 0 none dX2_lookOf_1 hi rfl rfl uX_X2 (by decide) uf_RX2_9 rfl rfl ?_
  refine G.iload_n C 1 dX2_lookOf_4 rfl rfl ?_
  have hM_0 := ok_X5_has hw σ (σ.1 14 i 0) a
  refine G.callS C (some "PlateRoom") hM_0 dX2_lookOf_5 us_X5_has unm_RX2_37 rfl rfl (by decide) (Nat.le_of_ble_eq_true rfl) (fun r_5 τ_5 h_5 => ?_)
  obtain ⟨h_5, e_5⟩ := h_5; subst h_5
  refine G.if_eq (tgt := 13) C dX2_lookOf_8 (by decide) (fun c_8 => ?_) (fun c_8 => ?_)
  · have b_5 := wb_0 e_5 c_8
    refine G.aload_n C 0 dX2_lookOf_13 rfl rfl ?_
    refine G.get (g := 14) (i := i) C 1 none dX2_lookOf_14 hi rfl rfl uX_X2 (by decide) uf_RX2_15 rfl rfl ?_
    refine G.iload_n C 1 dX2_lookOf_17 rfl rfl ?_
    have hM_1 := ok_X5_has hw σ (σ.1 14 i 1) a
    refine G.callS C (some "PlateRoom") hM_1 dX2_lookOf_18 us_X5_has unm_RX2_37 rfl rfl (by decide) (Nat.le_of_ble_eq_true rfl) (fun r_18 τ_18 h_18 => ?_)
    obtain ⟨h_18, e_18⟩ := h_18; subst h_18
    refine G.if_eq (tgt := 28) C dX2_lookOf_21 (by decide) (fun c_21 => ?_) (fun c_21 => ?_)
    · have b_18 := wb_0 e_18 c_21
      refine G.iconst (v := 0) C dX2_lookOf_28 (by decide) ?_
      subst hQ
      exact G.iret C hr dX2_lookOf_29 (by
          exact ⟨rfl, ((if_neg b_5).trans (if_neg b_18)).symm⟩)
    · have b_18 := wb_1 e_18 c_21
      refine G.iconst (v := 2) C dX2_lookOf_24 (by decide) ?_
      refine G.goto (tgt := 29) C dX2_lookOf_25 (by decide) ?_
      subst hQ
      exact G.iret C hr dX2_lookOf_29 (by
          exact ⟨rfl, ((if_neg b_5).trans (if_pos b_18)).symm⟩)
  · have b_5 := wb_1 e_5 c_8
    refine G.iconst (v := 1) C dX2_lookOf_11 (by decide) ?_
    subst hQ
    exact G.iret C hr dX2_lookOf_12 (by
        exact ⟨rfl, (if_pos b_5).symm⟩)
set_option maxHeartbeats 4000000 in
set_option maxRecDepth 100000 in
theorem ok_X2_look {w : wD} (hw : wOK w) (σ : wSt) (i : Nat) (a b : Int32) (hi : i < wN 14)  : MV w yX2_look cX2_look 4 none 0 0 [.ref (w.2.2.2.1 14 i), .int a, .int b] σ (fun τ => wUp (wUp σ 14 i 0 (lookT (σ.1 14 i 0) a b)) 14 i 1 (lookG (σ.1 14 i 1) a b) = τ) := by
  refine MV.of hw (by decide +kernel) (Nat.le_of_ble_eq_true rfl) (fun x C hr => ?_)
  suffices key : ∀ Q, Q = QV w x (fun τ => wUp (wUp σ 14 i 0 (lookT (σ.1 14 i 0) a b)) 14 i 1 (lookG (σ.1 14 i 1) a b) = τ) → G w x 4 Q 0 [(0, .ref (w.2.2.2.1 14 i)), (1, .int a), (2, .int b)] [] σ from key _ rfl
  intro Q hQ
  refine G.iconst (v := 1) C dX2_look_0 (by decide) ?_
  refine G.iload_n C 1 dX2_look_1 rfl rfl ?_
  refine G.ishl C dX2_look_2 ?_
  refine G.topi (fun x3_3 ex3_3 => ?_)
  refine G.istore_n (L1 := [(3, .int x3_3), (0, .ref (w.2.2.2.1 14 i)), (1, .int a), (2, .int b)]) C dX2_look_3 rfl (by decide) rfl ?_
  refine G.aload_n C 1 dX2_look_4 rfl rfl ?_
  refine G.iload_n C 3 dX2_look_5 rfl rfl ?_
  refine G.iconst (v := 1) C dX2_look_6 (by decide) ?_
  refine G.icmp_ne (tgt := 19) C dX2_look_7 (by decide) (fun c_7 => ?_) (fun c_7 => ?_)
  · refine G.aload_n C 1 dX2_look_19 rfl rfl ?_
    refine G.get (g := 14) (i := i) C 0 none dX2_look_20 hi rfl rfl uX_X2 (by decide) uf_RX2_9 rfl rfl ?_
    refine G.iload_n C 0 dX2_look_23 rfl rfl ?_
    refine G.iconst (v := -1) C dX2_look_24 (by decide) ?_
    refine G.ixor C dX2_look_25 ?_
    refine G.iand C dX2_look_26 ?_
    refine G.put (g := 14) (i := i) C 0 none dX2_look_27 hi rfl rfl uX_X2 tyX2 tyX2_ok nmX2 (by decide) uf_RX2_9 rfl rfl (by decide +kernel) (Nat.le_of_ble_eq_true rfl) w_up_14_0 ?_
    refine G.aload_n C 1 dX2_look_30 rfl rfl ?_
    refine G.iload_n C 3 dX2_look_31 rfl rfl ?_
    refine G.iconst (v := 2) C dX2_look_32 (by decide) ?_
    refine G.icmp_ne (tgt := 45) C dX2_look_33 (by decide) (fun c_33 => ?_) (fun c_33 => ?_)
    · refine G.aload_n C 1 dX2_look_45 rfl rfl ?_
      refine G.get (g := 14) (i := i) C 1 none dX2_look_46 hi rfl rfl uX_X2 (by decide) uf_RX2_15 rfl rfl ?_
      refine G.iload_n C 0 dX2_look_49 rfl rfl ?_
      refine G.iconst (v := -1) C dX2_look_50 (by decide) ?_
      refine G.ixor C dX2_look_51 ?_
      refine G.iand C dX2_look_52 ?_
      refine G.put (g := 14) (i := i) C 1 none dX2_look_53 hi rfl rfl uX_X2 tyX2 tyX2_ok nmX2 (by decide) uf_RX2_15 rfl rfl (by decide +kernel) (Nat.le_of_ble_eq_true rfl) w_up_14_1 ?_
      subst hQ
      exact G.vret C hr dX2_look_56 (by
          subst ex3_3
          first | (simp [lookT, lookG, c_7, c_33, wUp_ne]; done) | exact absurd (c_7.symm.trans c_33) (by decide))
    · refine G.aload_n C 1 dX2_look_36 rfl rfl ?_
      refine G.get (g := 14) (i := i) C 1 none dX2_look_37 hi rfl rfl uX_X2 (by decide) uf_RX2_15 rfl rfl ?_
      refine G.iload_n C 0 dX2_look_40 rfl rfl ?_
      refine G.ior C dX2_look_41 ?_
      refine G.goto (tgt := 53) C dX2_look_42 (by decide) ?_
      refine G.put (g := 14) (i := i) C 1 none dX2_look_53 hi rfl rfl uX_X2 tyX2 tyX2_ok nmX2 (by decide) uf_RX2_15 rfl rfl (by decide +kernel) (Nat.le_of_ble_eq_true rfl) w_up_14_1 ?_
      subst hQ
      exact G.vret C hr dX2_look_56 (by
          subst ex3_3
          first | (simp [lookT, lookG, c_7, c_33, wUp_ne]; done) | exact absurd (c_7.symm.trans c_33) (by decide))
  · refine G.aload_n C 1 dX2_look_10 rfl rfl ?_
    refine G.get (g := 14) (i := i) C 0 none dX2_look_11 hi rfl rfl uX_X2 (by decide) uf_RX2_9 rfl rfl ?_
    refine G.iload_n C 0 dX2_look_14 rfl rfl ?_
    refine G.ior C dX2_look_15 ?_
    refine G.goto (tgt := 27) C dX2_look_16 (by decide) ?_
    refine G.put (g := 14) (i := i) C 0 none dX2_look_27 hi rfl rfl uX_X2 tyX2 tyX2_ok nmX2 (by decide) uf_RX2_9 rfl rfl (by decide +kernel) (Nat.le_of_ble_eq_true rfl) w_up_14_0 ?_
    refine G.aload_n C 1 dX2_look_30 rfl rfl ?_
    refine G.iload_n C 3 dX2_look_31 rfl rfl ?_
    refine G.iconst (v := 2) C dX2_look_32 (by decide) ?_
    refine G.icmp_ne (tgt := 45) C dX2_look_33 (by decide) (fun c_33 => ?_) (fun c_33 => ?_)
    · refine G.aload_n C 1 dX2_look_45 rfl rfl ?_
      refine G.get (g := 14) (i := i) C 1 none dX2_look_46 hi rfl rfl uX_X2 (by decide) uf_RX2_15 rfl rfl ?_
      refine G.iload_n C 0 dX2_look_49 rfl rfl ?_
      refine G.iconst (v := -1) C dX2_look_50 (by decide) ?_
      refine G.ixor C dX2_look_51 ?_
      refine G.iand C dX2_look_52 ?_
      refine G.put (g := 14) (i := i) C 1 none dX2_look_53 hi rfl rfl uX_X2 tyX2 tyX2_ok nmX2 (by decide) uf_RX2_15 rfl rfl (by decide +kernel) (Nat.le_of_ble_eq_true rfl) w_up_14_1 ?_
      subst hQ
      exact G.vret C hr dX2_look_56 (by
          subst ex3_3
          first | (simp [lookT, lookG, c_7, c_33, wUp_ne]; done) | exact absurd (c_7.symm.trans c_33) (by decide))
    · refine G.aload_n C 1 dX2_look_36 rfl rfl ?_
      refine G.get (g := 14) (i := i) C 1 none dX2_look_37 hi rfl rfl uX_X2 (by decide) uf_RX2_15 rfl rfl ?_
      refine G.iload_n C 0 dX2_look_40 rfl rfl ?_
      refine G.ior C dX2_look_41 ?_
      refine G.goto (tgt := 53) C dX2_look_42 (by decide) ?_
      refine G.put (g := 14) (i := i) C 1 none dX2_look_53 hi rfl rfl uX_X2 tyX2 tyX2_ok nmX2 (by decide) uf_RX2_15 rfl rfl (by decide +kernel) (Nat.le_of_ble_eq_true rfl) w_up_14_1 ?_
      subst hQ
      exact G.vret C hr dX2_look_56 (by
          subst ex3_3
          first | (simp [lookT, lookG, c_7, c_33, wUp_ne]; done) | exact absurd (c_7.symm.trans c_33) (by decide))
set_option maxHeartbeats 4000000 in
set_option maxRecDepth 100000 in
theorem ok_X0_addMap {w : wD} (hw : wOK w) (σ : wSt) (a b : Int32) {c : Nat} (hc : σ.1 2 0 4 = nI c) (hc8 : c ≤ 8) : MI w yX0_addMap cX0_addMap 3 (some .int) 0 0 [.ref (w.2.2.2.1 2 0), .int a, .int b] σ (fun r τ => (8 ≤ c ∧ σ = τ ∧ r = -3) ∨ (c < 8 ∧ wUp (wUp (wUp σ 12 0 c a) 13 0 c b) 2 0 4 (nI (c + 1)) = τ ∧ r = nI c)) := by
  refine MI.of hw (by decide +kernel) (Nat.le_of_ble_eq_true rfl) (fun x C hr => ?_)
  suffices key : ∀ Q, Q = QI w x (fun r τ => (8 ≤ c ∧ σ = τ ∧ r = -3) ∨ (c < 8 ∧ wUp (wUp (wUp σ 12 0 c a) 13 0 c b) 2 0 4 (nI (c + 1)) = τ ∧ r = nI c)) → G w x 3 Q 0 [(0, .ref (w.2.2.2.1 2 0)), (1, .int a), (2, .int b)] [] σ from key _ rfl
  intro Q hQ
  refine G.aload_n C 0 dX0_addMap_0 rfl rfl ?_
  refine G.get (g := 2) (i := 0) C 4 none dX0_addMap_1 (by decide) rfl rfl uX_X0 (by decide) uf_RX0_25 rfl rfl ?_
  refine G.bipush (v := 8) C dX0_addMap_4 (by decide) ?_
  refine G.icmp_lt (tgt := 12) C dX0_addMap_6 (by decide) (fun c_6 => ?_) (fun c_6 => ?_)
  · have hh9 : c < 8 := by
      rw [hc] at c_6
      exact (nI_ltI (by omega) (by decide)).mp c_6
    refine G.aload_n C 0 dX0_addMap_12 rfl rfl ?_
    refine G.get (g := 2) (i := 0) C 2 none dX0_addMap_13 (by decide) rfl rfl uX_X0 (by decide) uf_RX0_18 rfl rfl ?_
    refine G.aload_n C 0 dX0_addMap_16 rfl rfl ?_
    refine G.get (g := 2) (i := 0) C 4 none dX0_addMap_17 (by decide) rfl rfl uX_X0 (by decide) uf_RX0_25 rfl rfl ?_
    refine G.iload_n C 1 dX0_addMap_20 rfl rfl ?_
    have hin_21 : vp_in (σ.1 2 0 4) 8 := by
      rw [hc]; exact vp_in_nI (by omega) (by decide)
    refine G.iast (g := 12) (i := 0) (n := 8) C dX0_addMap_21 (by decide) rfl hin_21 w_ast_12 ?_
    refine G.aload_n C 0 dX0_addMap_22 rfl rfl ?_
    refine G.get (g := 2) (i := 0) C 3 none dX0_addMap_23 (by decide) rfl rfl uX_X0 (by decide) uf_RX0_22 rfl rfl ?_
    refine G.aload_n C 0 dX0_addMap_26 rfl rfl ?_
    refine G.get (g := 2) (i := 0) C 4 none dX0_addMap_27 (by decide) rfl rfl uX_X0 (by decide) uf_RX0_25 rfl rfl ?_
    refine G.iload_n C 2 dX0_addMap_30 rfl rfl ?_
    have hin_31 : vp_in ((wUp σ 12 0 (σ.1 2 0 4).toNatClampNeg a).1 2 0 4) 8 := by
      rw [wUp_ng (by decide), hc]; exact vp_in_nI (by omega) (by decide)
    refine G.iast (g := 13) (i := 0) (n := 8) C dX0_addMap_31 (by decide) rfl hin_31 w_ast_13 ?_
    refine G.aload_n C 0 dX0_addMap_32 rfl rfl ?_
    refine G.dup C dX0_addMap_33 rfl ?_
    refine G.get (g := 2) (i := 0) C 4 none dX0_addMap_34 (by decide) rfl rfl uX_X0 (by decide) uf_RX0_25 rfl rfl ?_
    refine G.dup_x1 C dX0_addMap_37 rfl rfl ?_
    refine G.iconst (v := 1) C dX0_addMap_38 (by decide) ?_
    refine G.iadd C dX0_addMap_39 ?_
    refine G.put (g := 2) (i := 0) C 4 none dX0_addMap_40 (by decide) rfl rfl uX_X0 tyX0 tyX0_ok nmX0 (by decide) uf_RX0_25 rfl rfl (by decide +kernel) (Nat.le_of_ble_eq_true rfl) w_up_2_4 ?_
    subst hQ
    exact G.iret C hr dX0_addMap_43 (by
        refine Or.inr ⟨hh9, ?_, ?_⟩
        · simp only [wUp_ng (show 2 ≠ 12 by decide), wUp_ng (show 2 ≠ 13 by decide), hc, nI_clamp (show c < 2 ^ 31 by omega), nI_1]
        · simp only [wUp_ng (show 2 ≠ 12 by decide), wUp_ng (show 2 ≠ 13 by decide), hc])
  · have hh9 : 8 ≤ c := by
      rw [hc] at c_6
      rcases Nat.lt_or_ge c 8 with q | q
      · exact absurd (nI_lt q (by decide)) c_6
      · exact q
    refine G.bipush (v := -3) C dX0_addMap_9 (by decide) ?_
    subst hQ
    exact G.iret C hr dX0_addMap_11 (by
        exact Or.inl ⟨hh9, rfl, rfl⟩)
set_option maxHeartbeats 4000000 in
set_option maxRecDepth 100000 in
theorem ok_X0_mayComeFrom {w : wD} (hw : wOK w) (σ : wSt) (a b : Int32) {c : Nat} (hc : σ.1 2 0 4 = nI c) (hc8 : c ≤ 8) : MI w yX0_mayComeFrom cX0_mayComeFrom 3 (some .boolean) 1 21 [.ref (w.2.2.2.1 2 0), .int a, .int b] σ (fun r τ => σ = τ ∧ r = wb (mayU (σ.1 12 0) (σ.1 2 0 4) a b)) := by
  refine MI.of hw (by decide +kernel) (Nat.le_of_ble_eq_true rfl) (fun x C hr => ?_)
  suffices key : ∀ Q, Q = QI w x (fun r τ => σ = τ ∧ r = wb (mayU (σ.1 12 0) (σ.1 2 0 4) a b)) → G w x 3 Q 0 [(0, .ref (w.2.2.2.1 2 0)), (1, .int a), (2, .int b)] [] σ from key _ rfl
  intro Q hQ
  refine G.aload_n C 0 dX0_mayComeFrom_0 rfl rfl ?_
  refine G.iload_n C 1 dX0_mayComeFrom_1 rfl rfl ?_
  have hM_0 := ok_X0_hasMap hw σ a
  refine G.callV C (g := 2) (i := 0) none hM_0 dX0_mayComeFrom_2 (by decide) rfl rfl rfl uv_X0_hasMap ul_RX0_28 rfl rfl (by decide) (Nat.le_of_ble_eq_true rfl) (fun r_2 τ_2 h_2 => ?_)
  obtain ⟨h_2, e_2⟩ := h_2; subst h_2
  refine G.if_ne (tgt := 10) C dX0_mayComeFrom_5 (by decide) (fun c_5 => ?_) (fun c_5 => ?_)
  · have b_2 := wb_1 e_2 c_5
    refine G.iload_n C 2 dX0_mayComeFrom_10 rfl rfl ?_
    refine G.bipush (v := -9) C dX0_mayComeFrom_11 (by decide) ?_
    refine G.icmp_eq (tgt := 39) C dX0_mayComeFrom_13 (by decide) (fun c_13 => ?_) (fun c_13 => ?_)
    · refine G.iconst (v := 1) C dX0_mayComeFrom_39 (by decide) ?_
      refine G.goto (tgt := 44) C dX0_mayComeFrom_40 (by decide) ?_
      subst hQ
      exact G.zret C hr (by rfl) dX0_mayComeFrom_44 (by
          exact ⟨rfl, (wb_t ⟨b_2, Or.inl c_13⟩).symm⟩)
    · refine G.aload_n C 0 dX0_mayComeFrom_16 rfl rfl ?_
      refine G.iload_n C 2 dX0_mayComeFrom_17 rfl rfl ?_
      have hM_1 := ok_X0_hasMap hw σ b
      refine G.callV C (g := 2) (i := 0) none hM_1 dX0_mayComeFrom_18 (by decide) rfl rfl rfl uv_X0_hasMap ul_RX0_28 rfl rfl (by decide) (Nat.le_of_ble_eq_true rfl) (fun r_18 τ_18 h_18 => ?_)
      obtain ⟨h_18, e_18⟩ := h_18; subst h_18
      refine G.if_eq (tgt := 43) C dX0_mayComeFrom_21 (by decide) (fun c_21 => ?_) (fun c_21 => ?_)
      · have b_18 := wb_0 e_18 c_21
        refine G.iconst (v := 0) C dX0_mayComeFrom_43 (by decide) ?_
        subst hQ
        exact G.zret C hr (by rfl) dX0_mayComeFrom_44 (by
            exact ⟨rfl, (wb_f (fun h => h.2.elim c_13 (fun q => b_18 q.1))).symm⟩)
      · have b_18 := wb_1 e_18 c_21
        refine G.aload_n C 0 dX0_mayComeFrom_24 rfl rfl ?_
        refine G.get (g := 2) (i := 0) C 2 none dX0_mayComeFrom_25 (by decide) rfl rfl uX_X0 (by decide) uf_RX0_18 rfl rfl ?_
        refine G.iload_n C 2 dX0_mayComeFrom_28 rfl rfl ?_
        have hin_29 : vp_in b 8 := by
          exact vp_ofc b_18 hc hc8 (by decide)
        refine G.iald (g := 12) (i := 0) (n := 8) C dX0_mayComeFrom_29 (by decide) rfl hin_29 ?_
        refine G.aload_n C 0 dX0_mayComeFrom_30 rfl rfl ?_
        refine G.get (g := 2) (i := 0) C 2 none dX0_mayComeFrom_31 (by decide) rfl rfl uX_X0 (by decide) uf_RX0_18 rfl rfl ?_
        refine G.iload_n C 1 dX0_mayComeFrom_34 rfl rfl ?_
        have hin_35 : vp_in a 8 := by
          exact vp_ofc b_2 hc hc8 (by decide)
        refine G.iald (g := 12) (i := 0) (n := 8) C dX0_mayComeFrom_35 (by decide) rfl hin_35 ?_
        refine G.icmp_ge (tgt := 43) C dX0_mayComeFrom_36 (by decide) (fun c_36 => ?_) (fun c_36 => ?_)
        · refine G.iconst (v := 0) C dX0_mayComeFrom_43 (by decide) ?_
          subst hQ
          exact G.zret C hr (by rfl) dX0_mayComeFrom_44 (by
              exact ⟨rfl, (wb_f (fun h => h.2.elim c_13 (fun q => Int32.not_lt.mpr c_36 q.2))).symm⟩)
        · refine G.iconst (v := 1) C dX0_mayComeFrom_39 (by decide) ?_
          refine G.goto (tgt := 44) C dX0_mayComeFrom_40 (by decide) ?_
          subst hQ
          exact G.zret C hr (by rfl) dX0_mayComeFrom_44 (by
              exact ⟨rfl, (wb_t ⟨b_2, Or.inr ⟨b_18, Int32.not_le.mp c_36⟩⟩).symm⟩)
  · have b_2 := wb_0 e_2 c_5
    refine G.iconst (v := 0) C dX0_mayComeFrom_8 (by decide) ?_
    subst hQ
    exact G.zret C hr (by rfl) dX0_mayComeFrom_9 (by
        exact ⟨rfl, (wb_f (fun h => b_2 h.1)).symm⟩)
set_option maxHeartbeats 4000000 in
set_option maxRecDepth 100000 in
theorem ok_X0_costOf {w : wD} (hw : wOK w) (σ : wSt) (a b : Int32) {c : Nat} (hc : σ.1 2 0 4 = nI c) (hc8 : c ≤ 8) (hE : ∀ k, k < c → rng12 (σ.1 13 0 k)) (ha : inN (σ.1 2 0 4) a) : MI w yX0_costOf cX0_costOf 5 (some .int) 1 21 [.ref (w.2.2.2.1 2 0), .int a, .int b] σ (fun r τ => σ = τ ∧ r = costU (σ.1 13 0) (σ.1 2 0 0) (σ.1 2 0 1) (σ.1 2 0 4) a b) := by
  refine MI.of hw (by decide +kernel) (Nat.le_of_ble_eq_true rfl) (fun x C hr => ?_)
  suffices key : ∀ Q, Q = QI w x (fun r τ => σ = τ ∧ r = costU (σ.1 13 0) (σ.1 2 0 0) (σ.1 2 0 1) (σ.1 2 0 4) a b) → G w x 5 Q 0 [(0, .ref (w.2.2.2.1 2 0)), (1, .int a), (2, .int b)] [] σ from key _ rfl
  intro Q hQ
  refine G.aload_n C 0 dX0_costOf_0 rfl rfl ?_
  refine G.iload_n C 2 dX0_costOf_1 rfl rfl ?_
  have hM_0 := ok_X0_hasMap hw σ b
  refine G.callV C (g := 2) (i := 0) none hM_0 dX0_costOf_2 (by decide) rfl rfl rfl uv_X0_hasMap ul_RX0_28 rfl rfl (by decide) (Nat.le_of_ble_eq_true rfl) (fun r_2 τ_2 h_2 => ?_)
  obtain ⟨h_2, e_2⟩ := h_2; subst h_2
  refine G.if_ne (tgt := 23) C dX0_costOf_5 (by decide) (fun c_5 => ?_) (fun c_5 => ?_)
  · have b_2 := wb_1 e_2 c_5
    refine G.aload_n C 0 dX0_costOf_23 rfl rfl ?_
    refine G.get (g := 2) (i := 0) C 3 none dX0_costOf_24 (by decide) rfl rfl uX_X0 (by decide) uf_RX0_22 rfl rfl ?_
    refine G.iload_n C 1 dX0_costOf_27 rfl rfl ?_
    have hin_28 : vp_in a 8 := by
      exact vp_ofc ha hc hc8 (by decide)
    refine G.iald (g := 13) (i := 0) (n := 8) C dX0_costOf_28 (by decide) rfl hin_28 ?_
    refine G.aload_n C 0 dX0_costOf_29 rfl rfl ?_
    refine G.get (g := 2) (i := 0) C 3 none dX0_costOf_30 (by decide) rfl rfl uX_X0 (by decide) uf_RX0_22 rfl rfl ?_
    refine G.iload_n C 2 dX0_costOf_33 rfl rfl ?_
    have hin_34 : vp_in b 8 := by
      exact vp_ofc b_2 hc hc8 (by decide)
    refine G.iald (g := 13) (i := 0) (n := 8) C dX0_costOf_34 (by decide) rfl hin_34 ?_
    refine G.iconst (v := -1) C dX0_costOf_35 (by decide) ?_
    refine G.ixor C dX0_costOf_36 ?_
    refine G.iand C dX0_costOf_37 ?_
    have hM_1 := ok_J6_bitCount_0f7a4 hw σ ((σ.1 13 0 a.toNatClampNeg) &&& ((σ.1 13 0 b.toNatClampNeg) ^^^ (-1))) (rng_and _ (hE _ (vp_ofl (hc ▸ ha) (by omega))))
    refine G.callS C none hM_1 dX0_costOf_38 us_J6_bitCount_0f7a4 ul_RX0_32 rfl rfl (by decide) (Nat.le_of_ble_eq_true rfl) (fun r_38 τ_38 h_38 => ?_)
    obtain ⟨h_38, e_38⟩ := h_38; subst h_38
    refine G.istore_n (L1 := [(3, .int r_38), (0, .ref (w.2.2.2.1 2 0)), (1, .int a), (2, .int b)]) C dX0_costOf_41 rfl (by decide) rfl ?_
    refine G.aload_n C 1 dX0_costOf_42 rfl rfl ?_
    refine G.get (g := 2) (i := 0) C 3 none dX0_costOf_43 (by decide) rfl rfl uX_X0 (by decide) uf_RX0_22 rfl rfl ?_
    refine G.iload_n C 3 dX0_costOf_46 rfl rfl ?_
    have hin_47 : vp_in b 8 := by
      exact vp_ofc b_2 hc hc8 (by decide)
    refine G.iald (g := 13) (i := 0) (n := 8) C dX0_costOf_47 (by decide) rfl hin_47 ?_
    refine G.aload_n C 1 dX0_costOf_48 rfl rfl ?_
    refine G.get (g := 2) (i := 0) C 3 none dX0_costOf_49 (by decide) rfl rfl uX_X0 (by decide) uf_RX0_22 rfl rfl ?_
    refine G.iload_n C 2 dX0_costOf_52 rfl rfl ?_
    have hin_53 : vp_in a 8 := by
      exact vp_ofc ha hc hc8 (by decide)
    refine G.iald (g := 13) (i := 0) (n := 8) C dX0_costOf_53 (by decide) rfl hin_53 ?_
    refine G.iconst (v := -1) C dX0_costOf_54 (by decide) ?_
    refine G.ixor C dX0_costOf_55 ?_
    refine G.iand C dX0_costOf_56 ?_
    have hM_2 := ok_J6_bitCount_0f7a4 hw σ ((σ.1 13 0 b.toNatClampNeg) &&& ((σ.1 13 0 a.toNatClampNeg) ^^^ (-1))) (rng_and _ (hE _ (vp_ofl (hc ▸ b_2) (by omega))))
    refine G.callS C none hM_2 dX0_costOf_57 us_J6_bitCount_0f7a4 ul_RX0_32 rfl rfl (by decide) (Nat.le_of_ble_eq_true rfl) (fun r_57 τ_57 h_57 => ?_)
    obtain ⟨h_57, e_57⟩ := h_57; subst h_57
    refine G.istore (L1 := [(4, .int r_57), (3, .int r_38), (0, .ref (w.2.2.2.1 2 0)), (1, .int a), (2, .int b)]) C dX0_costOf_60 (by decide) rfl ?_
    refine G.iload_n C 1 dX0_costOf_62 rfl rfl ?_
    refine G.iload C 0 dX0_costOf_63 rfl ?_
    refine G.aload_n C 2 dX0_costOf_65 rfl rfl ?_
    refine G.get (g := 2) (i := 0) C 0 none dX0_costOf_66 (by decide) rfl rfl uX_X0 (by decide) uf_RX0_9 rfl rfl ?_
    refine G.imul C dX0_costOf_69 ?_
    refine G.iadd C dX0_costOf_70 ?_
    subst hQ
    exact G.iret C hr dX0_costOf_71 (by
        subst_vars
        exact ⟨rfl, (if_pos b_2).symm⟩)
  · have b_2 := wb_0 e_2 c_5
    refine G.aload_n C 0 dX0_costOf_8 rfl rfl ?_
    refine G.get (g := 2) (i := 0) C 3 none dX0_costOf_9 (by decide) rfl rfl uX_X0 (by decide) uf_RX0_22 rfl rfl ?_
    refine G.iload_n C 1 dX0_costOf_12 rfl rfl ?_
    have hin_13 : vp_in a 8 := by
      exact vp_ofc ha hc hc8 (by decide)
    refine G.iald (g := 13) (i := 0) (n := 8) C dX0_costOf_13 (by decide) rfl hin_13 ?_
    have hM_3 := ok_J6_bitCount_0f7a4 hw σ (σ.1 13 0 a.toNatClampNeg) (hE _ (vp_ofl (hc ▸ ha) (by omega)))
    refine G.callS C none hM_3 dX0_costOf_14 us_J6_bitCount_0f7a4 ul_RX0_32 rfl rfl (by decide) (Nat.le_of_ble_eq_true rfl) (fun r_14 τ_14 h_14 => ?_)
    obtain ⟨h_14, e_14⟩ := h_14; subst h_14
    refine G.aload_n C 0 dX0_costOf_17 rfl rfl ?_
    refine G.get (g := 2) (i := 0) C 1 none dX0_costOf_18 (by decide) rfl rfl uX_X0 (by decide) uf_RX0_15 rfl rfl ?_
    refine G.iadd C dX0_costOf_21 ?_
    subst hQ
    exact G.iret C hr dX0_costOf_22 (by
        exact ⟨rfl, by rw [e_14]; exact (if_neg b_2).symm⟩)
set_option maxHeartbeats 4000000 in
set_option maxRecDepth 100000 in
theorem ok_X0_cheapest {w : wD} (hw : wOK w) (σ : wSt) (a : Int32) {c : Nat} (hc : σ.1 2 0 4 = nI c) (hc8 : c ≤ 8) (hE : ∀ k, k < c → rng12 (σ.1 13 0 k)) (ha : inN (σ.1 2 0 4) a) : MI w yX0_cheapest cX0_cheapest 5 (some .int) 2 45 [.ref (w.2.2.2.1 2 0), .int a] σ (fun r τ => σ = τ ∧ r = fromU (σ.1 12 0) (costU (σ.1 13 0) (σ.1 2 0 0) (σ.1 2 0 1) (σ.1 2 0 4) a) a.toNatClampNeg c) := by
  refine MI.of hw (by decide +kernel) (Nat.le_of_ble_eq_true rfl) (fun x C hr => ?_)
  suffices key : ∀ Q, Q = QI w x (fun r τ => σ = τ ∧ r = fromU (σ.1 12 0) (costU (σ.1 13 0) (σ.1 2 0 0) (σ.1 2 0 1) (σ.1 2 0 4) a) a.toNatClampNeg c) → G w x 5 Q 0 [(0, .ref (w.2.2.2.1 2 0)), (1, .int a)] [] σ from key _ rfl
  intro Q hQ
  refine G.bipush (v := -9) C dX0_cheapest_0 (by decide) ?_
  refine G.istore_n (L1 := [(2, .int (-9)), (0, .ref (w.2.2.2.1 2 0)), (1, .int a)]) C dX0_cheapest_2 rfl (by decide) rfl ?_
  refine G.aload_n C 1 dX0_cheapest_3 rfl rfl ?_
  refine G.iload_n C 2 dX0_cheapest_4 rfl rfl ?_
  refine G.bipush (v := -9) C dX0_cheapest_5 (by decide) ?_
  have hM_0 := ok_X0_costOf hw σ a (-9) hc hc8 hE ha
  refine G.callV C (g := 2) (i := 0) none hM_0 dX0_cheapest_7 (by decide) rfl rfl rfl uv_X0_costOf ul_RX0_38 rfl rfl (by decide) (Nat.le_of_ble_eq_true rfl) (fun r_7 τ_7 h_7 => ?_)
  obtain ⟨h_7, e_7⟩ := h_7; subst h_7
  refine G.istore_n (L1 := [(3, .int r_7), (2, .int (-9)), (0, .ref (w.2.2.2.1 2 0)), (1, .int a)]) C dX0_cheapest_10 rfl (by decide) rfl ?_
  refine G.iconst (v := 0) C dX0_cheapest_11 (by decide) ?_
  refine G.istore (L1 := [(4, .int 0), (3, .int r_7), (2, .int (-9)), (0, .ref (w.2.2.2.1 2 0)), (1, .int a)]) C dX0_cheapest_12 (by decide) rfl ?_
  have cut_14 : ∀ (m9 : Nat) (j : Nat) (x4 x3 x2 : Int32), j ≤ c → c < j + m9 → x4 = nI j → x3 = costU (σ.1 13 0) (σ.1 2 0 0) (σ.1 2 0 1) (σ.1 2 0 4) a (fromU (σ.1 12 0) (costU (σ.1 13 0) (σ.1 2 0 0) (σ.1 2 0 1) (σ.1 2 0 4) a) a.toNatClampNeg j) → x2 = fromU (σ.1 12 0) (costU (σ.1 13 0) (σ.1 2 0 0) (σ.1 2 0 1) (σ.1 2 0 4) a) a.toNatClampNeg j → G w x 5 Q 14 [(4, .int x4), (3, .int x3), (2, .int x2), (0, .ref (w.2.2.2.1 2 0)), (1, .int a)] [] σ := by
    intro m9
    induction m9 with
    | zero =>
      intro j x4 x3 x2 hj hm hx4 hx3 hx2
      exfalso
      omega
    | succ m9 ih_14 =>
      intro j x4 x3 x2 hj hm hx4 hx3 hx2
      subst hx4
      subst hx3
      subst hx2
      refine G.iload C 0 dX0_cheapest_14 rfl ?_
      refine G.aload_n C 3 dX0_cheapest_16 rfl rfl ?_
      refine G.get (g := 2) (i := 0) C 4 none dX0_cheapest_17 (by decide) rfl rfl uX_X0 (by decide) uf_RX0_25 rfl rfl ?_
      refine G.icmp_ge (tgt := 61) C dX0_cheapest_20 (by decide) (fun c_20 => ?_) (fun c_20 => ?_)
      · have hjn : j = c := by
          rw [hc, nI_leI (by omega) (by omega)] at c_20; omega
        refine G.iload_n C 2 dX0_cheapest_61 rfl rfl ?_
        subst hQ
        exact G.iret C hr dX0_cheapest_62 (by
            rw [hjn]
            exact ⟨rfl, rfl⟩)
      · have hjn : j < c := by
          rw [hc, nI_leI (by omega) (by omega)] at c_20; omega
        refine G.aload_n C 3 dX0_cheapest_23 rfl rfl ?_
        refine G.iload_n C 4 dX0_cheapest_24 rfl rfl ?_
        refine G.iload C 0 dX0_cheapest_25 rfl ?_
        have hM_1 := ok_X0_mayComeFrom hw σ a (nI j) hc hc8
        refine G.callV C (g := 2) (i := 0) none hM_1 dX0_cheapest_27 (by decide) rfl rfl rfl uv_X0_mayComeFrom ul_RX0_42 rfl rfl (by decide) (Nat.le_of_ble_eq_true rfl) (fun r_27 τ_27 h_27 => ?_)
        obtain ⟨h_27, e_27⟩ := h_27; subst h_27
        refine G.if_eq (tgt := 55) C dX0_cheapest_30 (by decide) (fun c_30 => ?_) (fun c_30 => ?_)
        · have b_27 := wb_0 e_27 c_30
          have hy9 : ¬ σ.1 12 0 j < σ.1 12 0 a.toNatClampNeg := fun q => b_27 ⟨ha, Or.inr ⟨hc ▸ inN_nI hjn (by omega), by rw [nI_clamp (show j < 2 ^ 31 by omega)]; exact q⟩⟩
          obtain ⟨x4_55, ex4_55⟩ : ∃ z : Int32, z = (nI j) + 1 := ⟨_, rfl⟩
          refine G.iinc (v := x4_55) (L1 := [(4, .int x4_55), (3, .int (costU (σ.1 13 0) (σ.1 2 0 0) (σ.1 2 0 1) (σ.1 2 0 4) a (fromU (σ.1 12 0) (costU (σ.1 13 0) (σ.1 2 0 0) (σ.1 2 0 1) (σ.1 2 0 4) a) a.toNatClampNeg j))), (2, .int (fromU (σ.1 12 0) (costU (σ.1 13 0) (σ.1 2 0 0) (σ.1 2 0 1) (σ.1 2 0 4) a) a.toNatClampNeg j)), (0, .ref (w.2.2.2.1 2 0)), (1, .int a)]) C 0 dX0_cheapest_55 rfl (by rw [ex4_55]; rfl) (by decide) rfl ?_
          refine G.goto (tgt := 14) C dX0_cheapest_58 (by decide) ?_
          refine ih_14  (j + 1) _ _ _ ?_ ?_ ?_ ?_ ?_
          · omega
          · omega
          · rw [ex4_55]; exact nI_1 j
          · rw [fromU_f (fun q => hy9 q.1)]
          · rw [fromU_f (fun q => hy9 q.1)]
        · have b_27 := wb_1 e_27 c_30
          have hy9 : σ.1 12 0 j < σ.1 12 0 a.toNatClampNeg := by
            have q := b_27.2
            rw [nI_clamp (show j < 2 ^ 31 by omega)] at q
            exact q.elim (fun q => absurd q (nI_ne9 (by omega))) (fun q => q.2)
          refine G.aload_n C 3 dX0_cheapest_33 rfl rfl ?_
          refine G.iload_n C 4 dX0_cheapest_34 rfl rfl ?_
          refine G.iload C 0 dX0_cheapest_35 rfl ?_
          have hM_2 := ok_X0_costOf hw σ a (nI j) hc hc8 hE ha
          refine G.callV C (g := 2) (i := 0) none hM_2 dX0_cheapest_37 (by decide) rfl rfl rfl uv_X0_costOf ul_RX0_38 rfl rfl (by decide) (Nat.le_of_ble_eq_true rfl) (fun r_37 τ_37 h_37 => ?_)
          obtain ⟨h_37, e_37⟩ := h_37; subst h_37
          refine G.iload_n C 1 dX0_cheapest_40 rfl rfl ?_
          refine G.icmp_ge (tgt := 55) C dX0_cheapest_41 (by decide) (fun c_41 => ?_) (fun c_41 => ?_)
          · obtain ⟨x4_55, ex4_55⟩ : ∃ z : Int32, z = (nI j) + 1 := ⟨_, rfl⟩
            refine G.iinc (v := x4_55) (L1 := [(4, .int x4_55), (3, .int (costU (σ.1 13 0) (σ.1 2 0 0) (σ.1 2 0 1) (σ.1 2 0 4) a (fromU (σ.1 12 0) (costU (σ.1 13 0) (σ.1 2 0 0) (σ.1 2 0 1) (σ.1 2 0 4) a) a.toNatClampNeg j))), (2, .int (fromU (σ.1 12 0) (costU (σ.1 13 0) (σ.1 2 0 0) (σ.1 2 0 1) (σ.1 2 0 4) a) a.toNatClampNeg j)), (0, .ref (w.2.2.2.1 2 0)), (1, .int a)]) C 0 dX0_cheapest_55 rfl (by rw [ex4_55]; rfl) (by decide) rfl ?_
            refine G.goto (tgt := 14) C dX0_cheapest_58 (by decide) ?_
            refine ih_14  (j + 1) _ _ _ ?_ ?_ ?_ ?_ ?_
            · omega
            · omega
            · rw [ex4_55]; exact nI_1 j
            · rw [fromU_f (fun q => Int32.not_lt.mpr c_41 (e_37 ▸ q.2))]
            · rw [fromU_f (fun q => Int32.not_lt.mpr c_41 (e_37 ▸ q.2))]
          · refine G.iload C 0 dX0_cheapest_44 rfl ?_
            refine G.topi (fun x2_46 ex2_46 => ?_)
            refine G.istore_n (L1 := [(2, .int x2_46), (4, .int (nI j)), (3, .int (costU (σ.1 13 0) (σ.1 2 0 0) (σ.1 2 0 1) (σ.1 2 0 4) a (fromU (σ.1 12 0) (costU (σ.1 13 0) (σ.1 2 0 0) (σ.1 2 0 1) (σ.1 2 0 4) a) a.toNatClampNeg j))), (0, .ref (w.2.2.2.1 2 0)), (1, .int a)]) C dX0_cheapest_46 rfl (by decide) rfl ?_
            refine G.aload_n C 3 dX0_cheapest_47 rfl rfl ?_
            refine G.iload_n C 4 dX0_cheapest_48 rfl rfl ?_
            refine G.iload C 1 dX0_cheapest_49 rfl ?_
            have hM_3 := ok_X0_costOf hw σ a (nI j) hc hc8 hE ha
            refine G.callV C (g := 2) (i := 0) none hM_3 dX0_cheapest_51 (by decide) rfl rfl rfl uv_X0_costOf ul_RX0_38 rfl rfl (by decide) (Nat.le_of_ble_eq_true rfl) (fun r_51 τ_51 h_51 => ?_)
            obtain ⟨h_51, e_51⟩ := h_51; subst h_51
            refine G.istore_n (L1 := [(3, .int r_51), (2, .int x2_46), (4, .int (nI j)), (0, .ref (w.2.2.2.1 2 0)), (1, .int a)]) C dX0_cheapest_54 rfl (by decide) rfl ?_
            obtain ⟨x4_55, ex4_55⟩ : ∃ z : Int32, z = (nI j) + 1 := ⟨_, rfl⟩
            refine G.iinc (v := x4_55) (L1 := [(4, .int x4_55), (3, .int r_51), (2, .int x2_46), (0, .ref (w.2.2.2.1 2 0)), (1, .int a)]) C 2 dX0_cheapest_55 rfl (by rw [ex4_55]; rfl) (by decide) rfl ?_
            refine G.goto (tgt := 14) C dX0_cheapest_58 (by decide) ?_
            refine ih_14  (j + 1) _ _ _ ?_ ?_ ?_ ?_ ?_
            · omega
            · omega
            · rw [ex4_55]; exact nI_1 j
            · rw [e_51, fromU_t ⟨hy9, e_37 ▸ Int32.not_le.mp c_41⟩]
            · rw [ex2_46, fromU_t ⟨hy9, e_37 ▸ Int32.not_le.mp c_41⟩]
  refine cut_14 (c + 1) 0 _ _ _ ?_ ?_ ?_ ?_ ?_
  · omega
  · omega
  · rfl
  · exact e_7
  · rfl
set_option maxHeartbeats 4000000 in
set_option maxRecDepth 100000 in
theorem ok_X0_rivalCount {w : wD} (hw : wOK w) (σ : wSt) (a : Int32) {c : Nat} (hc : σ.1 2 0 4 = nI c) (hc8 : c ≤ 8) (hE : ∀ k, k < c → rng12 (σ.1 13 0 k)) (ha : inN (σ.1 2 0 4) a) : MI w yX0_rivalCount cX0_rivalCount 6 (some .int) 3 69 [.ref (w.2.2.2.1 2 0), .int a] σ (fun r τ => σ = τ ∧ r = rivU (σ.1 12 0) (costU (σ.1 13 0) (σ.1 2 0 0) (σ.1 2 0 1) (σ.1 2 0 4) a) a.toNatClampNeg (fromU (σ.1 12 0) (costU (σ.1 13 0) (σ.1 2 0 0) (σ.1 2 0 1) (σ.1 2 0 4) a) a.toNatClampNeg c) (costU (σ.1 13 0) (σ.1 2 0 0) (σ.1 2 0 1) (σ.1 2 0 4) a (fromU (σ.1 12 0) (costU (σ.1 13 0) (σ.1 2 0 0) (σ.1 2 0 1) (σ.1 2 0 4) a) a.toNatClampNeg c)) c) := by
  refine MI.of hw (by decide +kernel) (Nat.le_of_ble_eq_true rfl) (fun x C hr => ?_)
  suffices key : ∀ Q, Q = QI w x (fun r τ => σ = τ ∧ r = rivU (σ.1 12 0) (costU (σ.1 13 0) (σ.1 2 0 0) (σ.1 2 0 1) (σ.1 2 0 4) a) a.toNatClampNeg (fromU (σ.1 12 0) (costU (σ.1 13 0) (σ.1 2 0 0) (σ.1 2 0 1) (σ.1 2 0 4) a) a.toNatClampNeg c) (costU (σ.1 13 0) (σ.1 2 0 0) (σ.1 2 0 1) (σ.1 2 0 4) a (fromU (σ.1 12 0) (costU (σ.1 13 0) (σ.1 2 0 0) (σ.1 2 0 1) (σ.1 2 0 4) a) a.toNatClampNeg c)) c) → G w x 6 Q 0 [(0, .ref (w.2.2.2.1 2 0)), (1, .int a)] [] σ from key _ rfl
  intro Q hQ
  refine G.aload_n C 0 dX0_rivalCount_0 rfl rfl ?_
  refine G.iload_n C 1 dX0_rivalCount_1 rfl rfl ?_
  have hM_0 := ok_X0_cheapest hw σ a hc hc8 hE ha
  refine G.callV C (g := 2) (i := 0) none hM_0 dX0_rivalCount_2 (by decide) rfl rfl rfl uv_X0_cheapest ul_RX0_46 rfl rfl (by decide) (Nat.le_of_ble_eq_true rfl) (fun r_2 τ_2 h_2 => ?_)
  obtain ⟨h_2, e_2⟩ := h_2; subst h_2
  refine G.istore_n (L1 := [(2, .int r_2), (0, .ref (w.2.2.2.1 2 0)), (1, .int a)]) C dX0_rivalCount_5 rfl (by decide) rfl ?_
  refine G.aload_n C 1 dX0_rivalCount_6 rfl rfl ?_
  refine G.iload_n C 2 dX0_rivalCount_7 rfl rfl ?_
  refine G.iload_n C 0 dX0_rivalCount_8 rfl rfl ?_
  have hM_1 := ok_X0_costOf hw σ a r_2 hc hc8 hE ha
  refine G.callV C (g := 2) (i := 0) none hM_1 dX0_rivalCount_9 (by decide) rfl rfl rfl uv_X0_costOf ul_RX0_38 rfl rfl (by decide) (Nat.le_of_ble_eq_true rfl) (fun r_9 τ_9 h_9 => ?_)
  obtain ⟨h_9, e_9⟩ := h_9; subst h_9
  refine G.istore_n (L1 := [(3, .int r_9), (2, .int r_2), (0, .ref (w.2.2.2.1 2 0)), (1, .int a)]) C dX0_rivalCount_12 rfl (by decide) rfl ?_
  refine G.iconst (v := 0) C dX0_rivalCount_13 (by decide) ?_
  refine G.istore (L1 := [(4, .int 0), (3, .int r_9), (2, .int r_2), (0, .ref (w.2.2.2.1 2 0)), (1, .int a)]) C dX0_rivalCount_14 (by decide) rfl ?_
  refine G.iconst (v := 0) C dX0_rivalCount_16 (by decide) ?_
  refine G.istore (L1 := [(5, .int 0), (4, .int 0), (3, .int r_9), (2, .int r_2), (0, .ref (w.2.2.2.1 2 0)), (1, .int a)]) C dX0_rivalCount_17 (by decide) rfl ?_
  have cut_19 : ∀ (m9 : Nat) (j : Nat) (x5 x4 : Int32), j ≤ c → c < j + m9 → x5 = nI j → x4 = rivU (σ.1 12 0) (costU (σ.1 13 0) (σ.1 2 0 0) (σ.1 2 0 1) (σ.1 2 0 4) a) a.toNatClampNeg r_2 r_9 j → G w x 6 Q 19 [(5, .int x5), (4, .int x4), (3, .int r_9), (2, .int r_2), (0, .ref (w.2.2.2.1 2 0)), (1, .int a)] [] σ := by
    intro m9
    induction m9 with
    | zero =>
      intro j x5 x4 hj hm hx5 hx4
      exfalso
      omega
    | succ m9 ih_19 =>
      intro j x5 x4 hj hm hx5 hx4
      subst hx5
      subst hx4
      refine G.iload C 0 dX0_rivalCount_19 rfl ?_
      refine G.aload_n C 4 dX0_rivalCount_21 rfl rfl ?_
      refine G.get (g := 2) (i := 0) C 4 none dX0_rivalCount_22 (by decide) rfl rfl uX_X0 (by decide) uf_RX0_25 rfl rfl ?_
      refine G.icmp_ge (tgt := 64) C dX0_rivalCount_25 (by decide) (fun c_25 => ?_) (fun c_25 => ?_)
      · have hjn : j = c := by
          rw [hc, nI_leI (by omega) (by omega)] at c_25; omega
        refine G.iload C 1 dX0_rivalCount_64 rfl ?_
        subst hQ
        exact G.iret C hr dX0_rivalCount_66 (by
            rw [hjn, e_9, e_2]
            exact ⟨rfl, rfl⟩)
      · have hjn : j < c := by
          rw [hc, nI_leI (by omega) (by omega)] at c_25; omega
        refine G.iload C 0 dX0_rivalCount_28 rfl ?_
        refine G.iload_n C 3 dX0_rivalCount_30 rfl rfl ?_
        refine G.icmp_eq (tgt := 58) C dX0_rivalCount_31 (by decide) (fun c_31 => ?_) (fun c_31 => ?_)
        · obtain ⟨x5_58, ex5_58⟩ : ∃ z : Int32, z = (nI j) + 1 := ⟨_, rfl⟩
          refine G.iinc (v := x5_58) (L1 := [(5, .int x5_58), (4, .int (rivU (σ.1 12 0) (costU (σ.1 13 0) (σ.1 2 0 0) (σ.1 2 0 1) (σ.1 2 0 4) a) a.toNatClampNeg r_2 r_9 j)), (3, .int r_9), (2, .int r_2), (0, .ref (w.2.2.2.1 2 0)), (1, .int a)]) C 0 dX0_rivalCount_58 rfl (by rw [ex5_58]; rfl) (by decide) rfl ?_
          refine G.goto (tgt := 19) C dX0_rivalCount_61 (by decide) ?_
          refine ih_19  (j + 1) _ _ ?_ ?_ ?_ ?_
          · omega
          · omega
          · rw [ex5_58]; exact nI_1 j
          · rw [rivU_f (fun q => q.1 c_31)]
        · refine G.aload_n C 4 dX0_rivalCount_34 rfl rfl ?_
          refine G.iload_n C 5 dX0_rivalCount_35 rfl rfl ?_
          refine G.iload C 0 dX0_rivalCount_36 rfl ?_
          have hM_2 := ok_X0_mayComeFrom hw σ a (nI j) hc hc8
          refine G.callV C (g := 2) (i := 0) none hM_2 dX0_rivalCount_38 (by decide) rfl rfl rfl uv_X0_mayComeFrom ul_RX0_42 rfl rfl (by decide) (Nat.le_of_ble_eq_true rfl) (fun r_38 τ_38 h_38 => ?_)
          obtain ⟨h_38, e_38⟩ := h_38; subst h_38
          refine G.if_eq (tgt := 58) C dX0_rivalCount_41 (by decide) (fun c_41 => ?_) (fun c_41 => ?_)
          · have b_38 := wb_0 e_38 c_41
            have hy9 : ¬ σ.1 12 0 j < σ.1 12 0 a.toNatClampNeg := fun q => b_38 ⟨ha, Or.inr ⟨hc ▸ inN_nI hjn (by omega), by rw [nI_clamp (show j < 2 ^ 31 by omega)]; exact q⟩⟩
            obtain ⟨x5_58, ex5_58⟩ : ∃ z : Int32, z = (nI j) + 1 := ⟨_, rfl⟩
            refine G.iinc (v := x5_58) (L1 := [(5, .int x5_58), (4, .int (rivU (σ.1 12 0) (costU (σ.1 13 0) (σ.1 2 0 0) (σ.1 2 0 1) (σ.1 2 0 4) a) a.toNatClampNeg r_2 r_9 j)), (3, .int r_9), (2, .int r_2), (0, .ref (w.2.2.2.1 2 0)), (1, .int a)]) C 0 dX0_rivalCount_58 rfl (by rw [ex5_58]; rfl) (by decide) rfl ?_
            refine G.goto (tgt := 19) C dX0_rivalCount_61 (by decide) ?_
            refine ih_19  (j + 1) _ _ ?_ ?_ ?_ ?_
            · omega
            · omega
            · rw [ex5_58]; exact nI_1 j
            · rw [rivU_f (fun q => hy9 q.2.1)]
          · have b_38 := wb_1 e_38 c_41
            have hy9 : σ.1 12 0 j < σ.1 12 0 a.toNatClampNeg := by
              have q := b_38.2
              rw [nI_clamp (show j < 2 ^ 31 by omega)] at q
              exact q.elim (fun q => absurd q (nI_ne9 (by omega))) (fun q => q.2)
            refine G.aload_n C 4 dX0_rivalCount_44 rfl rfl ?_
            refine G.iload_n C 5 dX0_rivalCount_45 rfl rfl ?_
            refine G.iload C 0 dX0_rivalCount_46 rfl ?_
            have hM_3 := ok_X0_costOf hw σ a (nI j) hc hc8 hE ha
            refine G.callV C (g := 2) (i := 0) none hM_3 dX0_rivalCount_48 (by decide) rfl rfl rfl uv_X0_costOf ul_RX0_38 rfl rfl (by decide) (Nat.le_of_ble_eq_true rfl) (fun r_48 τ_48 h_48 => ?_)
            obtain ⟨h_48, e_48⟩ := h_48; subst h_48
            refine G.iload_n C 2 dX0_rivalCount_51 rfl rfl ?_
            refine G.icmp_ne (tgt := 58) C dX0_rivalCount_52 (by decide) (fun c_52 => ?_) (fun c_52 => ?_)
            · obtain ⟨x5_58, ex5_58⟩ : ∃ z : Int32, z = (nI j) + 1 := ⟨_, rfl⟩
              refine G.iinc (v := x5_58) (L1 := [(5, .int x5_58), (4, .int (rivU (σ.1 12 0) (costU (σ.1 13 0) (σ.1 2 0 0) (σ.1 2 0 1) (σ.1 2 0 4) a) a.toNatClampNeg r_2 r_9 j)), (3, .int r_9), (2, .int r_2), (0, .ref (w.2.2.2.1 2 0)), (1, .int a)]) C 0 dX0_rivalCount_58 rfl (by rw [ex5_58]; rfl) (by decide) rfl ?_
              refine G.goto (tgt := 19) C dX0_rivalCount_61 (by decide) ?_
              refine ih_19  (j + 1) _ _ ?_ ?_ ?_ ?_
              · omega
              · omega
              · rw [ex5_58]; exact nI_1 j
              · rw [rivU_f (fun q => c_52 (e_48 ▸ q.2.2))]
            · obtain ⟨x4_55, ex4_55⟩ : ∃ z : Int32, z = (rivU (σ.1 12 0) (costU (σ.1 13 0) (σ.1 2 0 0) (σ.1 2 0 1) (σ.1 2 0 4) a) a.toNatClampNeg r_2 r_9 j) + 1 := ⟨_, rfl⟩
              refine G.iinc (v := x4_55) (L1 := [(4, .int x4_55), (5, .int (nI j)), (3, .int r_9), (2, .int r_2), (0, .ref (w.2.2.2.1 2 0)), (1, .int a)]) C 1 dX0_rivalCount_55 rfl (by rw [ex4_55]; rfl) (by decide) rfl ?_
              obtain ⟨x5_58, ex5_58⟩ : ∃ z : Int32, z = (nI j) + 1 := ⟨_, rfl⟩
              refine G.iinc (v := x5_58) (L1 := [(5, .int x5_58), (4, .int x4_55), (3, .int r_9), (2, .int r_2), (0, .ref (w.2.2.2.1 2 0)), (1, .int a)]) C 1 dX0_rivalCount_58 rfl (by rw [ex5_58]; rfl) (by decide) rfl ?_
              refine G.goto (tgt := 19) C dX0_rivalCount_61 (by decide) ?_
              refine ih_19  (j + 1) _ _ ?_ ?_ ?_ ?_
              · omega
              · omega
              · rw [ex5_58]; exact nI_1 j
              · rw [ex4_55, rivU_t ⟨c_31, hy9, e_48 ▸ c_52⟩]
  refine cut_19 (c + 1) 0 _ _ ?_ ?_ ?_ ?_
  · omega
  · omega
  · rfl
  · rfl
