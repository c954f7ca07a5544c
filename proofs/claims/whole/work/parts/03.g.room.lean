set_option maxHeartbeats 4000000 in
set_option maxRecDepth 100000 in
theorem ok_X5_earliestByPaper {w : wD} (hw : wOK w) (σ : wSt) (i : Nat) (hi : i < wN 14) {m : Nat} (hm0 : σ.1 0 0 5 = nI m) (hm8 : m ≤ 8) : MI w yX5_earliestByPaper cX5_earliestByPaper 3 (some .int) 1 21 [.ref (w.2.2.2.1 0 0), .ref (w.2.2.2.1 14 i)] σ (fun r τ => σ = τ ∧ r = earlF (fun q => σ.1 17 q 0) (σ.1 0 0 5) (σ.1 14 i 4) (σ.1 14 i 5)) := by
  refine MI.of hw (by decide +kernel) (Nat.le_of_ble_eq_true rfl) (fun x C hr => ?_)
  suffices key : ∀ Q, Q = QI w x (fun r τ => σ = τ ∧ r = earlF (fun q => σ.1 17 q 0) (σ.1 0 0 5) (σ.1 14 i 4) (σ.1 14 i 5)) → G w x 3 Q 0 [(0, .ref (w.2.2.2.1 0 0)), (1, .ref (w.2.2.2.1 14 i))] [] σ from key _ rfl
  intro Q hQ
  refine G.aload_n C 0 dX5_earliestByPaper_0 rfl rfl ?_
  refine G.aload_n C 1 dX5_earliestByPaper_1 rfl rfl ?_
  refine G.get (g := 14) (i := i) C 4 (some "PlateRoom") dX5_earliestByPaper_2 hi rfl rfl uX_X2 (by decide) unf_RX5_133 rfl rfl ?_
  have hM_0 := ok_X5_isMould hw σ (σ.1 14 i 4)
  refine G.callV C (g := 0) (i := 0) none hM_0 dX5_earliestByPaper_5 (by decide) rfl rfl rfl uv_X5_isMould ul_RX5_130 rfl rfl (by decide) (Nat.le_of_ble_eq_true rfl) (fun r_5 τ_5 h_5 => ?_)
  obtain ⟨h_5, e_5⟩ := h_5; subst h_5
  refine G.if_eq (tgt := 26) C dX5_earliestByPaper_8 (by decide) (fun c_8 => ?_) (fun c_8 => ?_)
  · have b_5 := wb_0 e_5 c_8
    refine G.sipush (v := 1500) C dX5_earliestByPaper_26 (by decide) ?_
    refine G.istore_n (L1 := [(2, .int 1500), (0, .ref (w.2.2.2.1 0 0)), (1, .ref (w.2.2.2.1 14 i))]) C dX5_earliestByPaper_29 rfl (by decide) rfl ?_
    refine G.aload_n C 2 dX5_earliestByPaper_30 rfl rfl ?_
    refine G.get (g := 14) (i := i) C 5 (some "PlateRoom") dX5_earliestByPaper_31 hi rfl rfl uX_X2 (by decide) unf_RX5_139 rfl rfl ?_
    refine G.bipush (v := -9) C dX5_earliestByPaper_34 (by decide) ?_
    refine G.icmp_ne (tgt := 43) C dX5_earliestByPaper_36 (by decide) (fun c_36 => ?_) (fun c_36 => ?_)
    · refine G.iload_n C 0 dX5_earliestByPaper_43 rfl rfl ?_
      refine G.aload_n C 2 dX5_earliestByPaper_44 rfl rfl ?_
      refine G.get (g := 14) (i := i) C 5 (some "PlateRoom") dX5_earliestByPaper_45 hi rfl rfl uX_X2 (by decide) unf_RX5_139 rfl rfl ?_
      refine G.mmax C dX5_earliestByPaper_48 ul_RX5_148 (by decide) (Nat.le_of_ble_eq_true rfl) ?_
      subst hQ
      exact G.iret C hr dX5_earliestByPaper_51 (by
          exact ⟨rfl, by rw [earlF, if_neg c_36, if_neg b_5]; rfl⟩)
    · refine G.iload_n C 0 dX5_earliestByPaper_39 rfl rfl ?_
      refine G.goto (tgt := 51) C dX5_earliestByPaper_40 (by decide) ?_
      subst hQ
      exact G.iret C hr dX5_earliestByPaper_51 (by
          exact ⟨rfl, by rw [earlF, if_pos c_36, if_neg b_5]⟩)
  · have b_5 := wb_1 e_5 c_8
    refine G.aload_n C 0 dX5_earliestByPaper_11 rfl rfl ?_
    refine G.get (g := 0) (i := 0) C 4 none dX5_earliestByPaper_12 (by decide) rfl rfl uX_X5 (by decide) uf_RX5_35 rfl rfl ?_
    refine G.aload_n C 1 dX5_earliestByPaper_15 rfl rfl ?_
    refine G.get (g := 14) (i := i) C 4 (some "PlateRoom") dX5_earliestByPaper_16 hi rfl rfl uX_X2 (by decide) unf_RX5_133 rfl rfl ?_
    have hin_19 : vp_in (σ.1 14 i 4) 8 := by
      exact vp_ofc b_5 hm0 hm8 (by decide)
    refine G.aald (g := 4) (i := 0) (n := 8) (f := fun q => w.2.2.2.1 17 q) C 2 dX5_earliestByPaper_19 (by decide) rfl rfl rfl hin_19 ?_
    refine G.get (g := 17) (i := ((σ.1 14 i 4).toNatClampNeg)) C 0 (some "PlateRoom") dX5_earliestByPaper_20 (vp_lt hin_19) rfl rfl uX_X4 (by decide) unf_RX5_77 rfl rfl ?_
    refine G.goto (tgt := 29) C dX5_earliestByPaper_23 (by decide) ?_
    refine G.topi (fun x2_29 ex2_29 => ?_)
    refine G.istore_n (L1 := [(2, .int x2_29), (0, .ref (w.2.2.2.1 0 0)), (1, .ref (w.2.2.2.1 14 i))]) C dX5_earliestByPaper_29 rfl (by decide) rfl ?_
    refine G.aload_n C 2 dX5_earliestByPaper_30 rfl rfl ?_
    refine G.get (g := 14) (i := i) C 5 (some "PlateRoom") dX5_earliestByPaper_31 hi rfl rfl uX_X2 (by decide) unf_RX5_139 rfl rfl ?_
    refine G.bipush (v := -9) C dX5_earliestByPaper_34 (by decide) ?_
    refine G.icmp_ne (tgt := 43) C dX5_earliestByPaper_36 (by decide) (fun c_36 => ?_) (fun c_36 => ?_)
    · refine G.iload_n C 0 dX5_earliestByPaper_43 rfl rfl ?_
      refine G.aload_n C 2 dX5_earliestByPaper_44 rfl rfl ?_
      refine G.get (g := 14) (i := i) C 5 (some "PlateRoom") dX5_earliestByPaper_45 hi rfl rfl uX_X2 (by decide) unf_RX5_139 rfl rfl ?_
      refine G.mmax C dX5_earliestByPaper_48 ul_RX5_148 (by decide) (Nat.le_of_ble_eq_true rfl) ?_
      subst hQ
      exact G.iret C hr dX5_earliestByPaper_51 (by
          exact ⟨rfl, by rw [earlF, if_neg c_36, if_pos b_5, ex2_29]; rfl⟩)
    · refine G.iload_n C 0 dX5_earliestByPaper_39 rfl rfl ?_
      refine G.goto (tgt := 51) C dX5_earliestByPaper_40 (by decide) ?_
      subst hQ
      exact G.iret C hr dX5_earliestByPaper_51 (by
          exact ⟨rfl, by rw [earlF, if_pos c_36, if_pos b_5]; exact ex2_29⟩)
set_option maxHeartbeats 4000000 in
set_option maxRecDepth 100000 in
theorem ok_X5_latestByPaper {w : wD} (hw : wOK w) (σ : wSt) (i : Nat) (hi : i < wN 14) {m : Nat} (hm0 : σ.1 0 0 5 = nI m) (hm8 : m ≤ 8) : MI w yX5_latestByPaper cX5_latestByPaper 2 (some .int) 1 21 [.ref (w.2.2.2.1 0 0), .ref (w.2.2.2.1 14 i)] σ (fun r τ => σ = τ ∧ r = lateF (fun q => σ.1 17 q 1) (σ.1 0 0 5) (σ.1 14 i 4)) := by
  refine MI.of hw (by decide +kernel) (Nat.le_of_ble_eq_true rfl) (fun x C hr => ?_)
  suffices key : ∀ Q, Q = QI w x (fun r τ => σ = τ ∧ r = lateF (fun q => σ.1 17 q 1) (σ.1 0 0 5) (σ.1 14 i 4)) → G w x 2 Q 0 [(0, .ref (w.2.2.2.1 0 0)), (1, .ref (w.2.2.2.1 14 i))] [] σ from key _ rfl
  intro Q hQ
  refine G.aload_n C 0 dX5_latestByPaper_0 rfl rfl ?_
  refine G.aload_n C 1 dX5_latestByPaper_1 rfl rfl ?_
  refine G.get (g := 14) (i := i) C 4 (some "PlateRoom") dX5_latestByPaper_2 hi rfl rfl uX_X2 (by decide) unf_RX5_133 rfl rfl ?_
  have hM_0 := ok_X5_isMould hw σ (σ.1 14 i 4)
  refine G.callV C (g := 0) (i := 0) none hM_0 dX5_latestByPaper_5 (by decide) rfl rfl rfl uv_X5_isMould ul_RX5_130 rfl rfl (by decide) (Nat.le_of_ble_eq_true rfl) (fun r_5 τ_5 h_5 => ?_)
  obtain ⟨h_5, e_5⟩ := h_5; subst h_5
  refine G.if_eq (tgt := 26) C dX5_latestByPaper_8 (by decide) (fun c_8 => ?_) (fun c_8 => ?_)
  · have b_5 := wb_0 e_5 c_8
    refine G.sipush (v := 1900) C dX5_latestByPaper_26 (by decide) ?_
    subst hQ
    exact G.iret C hr dX5_latestByPaper_29 (by
        exact ⟨rfl, by rw [lateF, if_neg b_5]⟩)
  · have b_5 := wb_1 e_5 c_8
    refine G.aload_n C 0 dX5_latestByPaper_11 rfl rfl ?_
    refine G.get (g := 0) (i := 0) C 4 none dX5_latestByPaper_12 (by decide) rfl rfl uX_X5 (by decide) uf_RX5_35 rfl rfl ?_
    refine G.aload_n C 1 dX5_latestByPaper_15 rfl rfl ?_
    refine G.get (g := 14) (i := i) C 4 (some "PlateRoom") dX5_latestByPaper_16 hi rfl rfl uX_X2 (by decide) unf_RX5_133 rfl rfl ?_
    have hin_19 : vp_in (σ.1 14 i 4) 8 := by
      exact vp_ofc b_5 hm0 hm8 (by decide)
    refine G.aald (g := 4) (i := 0) (n := 8) (f := fun q => w.2.2.2.1 17 q) C 2 dX5_latestByPaper_19 (by decide) rfl rfl rfl hin_19 ?_
    refine G.get (g := 17) (i := ((σ.1 14 i 4).toNatClampNeg)) C 1 (some "PlateRoom") dX5_latestByPaper_20 (vp_lt hin_19) rfl rfl uX_X4 (by decide) unf_RX5_80 rfl rfl ?_
    refine G.goto (tgt := 29) C dX5_latestByPaper_23 (by decide) ?_
    subst hQ
    exact G.iret C hr dX5_latestByPaper_29 (by
        exact ⟨rfl, by rw [lateF, if_pos b_5]⟩)
set_option maxHeartbeats 4000000 in
set_option maxRecDepth 100000 in
theorem ok_X5_span {w : wD} (hw : wOK w) (σ : wSt) (a b : Int32) {n : Nat} (hn : σ.1 1 0 5 = nI n) (h6 : n ≤ 6) {l : Nat} (hl : σ.1 0 0 3 = nI l) (hl20 : l ≤ 20) {m : Nat} (hm0 : σ.1 0 0 5 = nI m) (hm8 : m ≤ 8) : MI w yX5_span cX5_span 12 (some .int) 2 45 [.ref (w.2.2.2.1 0 0), .int a, .int b] σ (fun r τ => σ = τ ∧ ((¬ (inN (σ.1 0 0 3) a ∧ (b = 0 ∨ b = 1)) ∧ r = -1) ∨ ((inN (σ.1 0 0 3) a ∧ (b = 0 ∨ b = 1)) ∧ r = if b = 0 then (spU (fun q => σ.1 11 q 0) (fun q => σ.1 11 q 1) (candU (σ.1 6 0) (σ.1 14 a.toNatClampNeg 0) (σ.1 14 a.toNatClampNeg 1) n) (earlF (fun q => σ.1 17 q 0) (σ.1 0 0 5) (σ.1 14 a.toNatClampNeg 4) (σ.1 14 a.toNatClampNeg 5)) (lateF (fun q => σ.1 17 q 1) (σ.1 0 0 5) (σ.1 14 a.toNatClampNeg 4)) n).1 else (spU (fun q => σ.1 11 q 0) (fun q => σ.1 11 q 1) (candU (σ.1 6 0) (σ.1 14 a.toNatClampNeg 0) (σ.1 14 a.toNatClampNeg 1) n) (earlF (fun q => σ.1 17 q 0) (σ.1 0 0 5) (σ.1 14 a.toNatClampNeg 4) (σ.1 14 a.toNatClampNeg 5)) (lateF (fun q => σ.1 17 q 1) (σ.1 0 0 5) (σ.1 14 a.toNatClampNeg 4)) n).2))) := by
  refine MI.of hw (by decide +kernel) (Nat.le_of_ble_eq_true rfl) (fun x C hr => ?_)
  suffices key : ∀ Q, Q = QI w x (fun r τ => σ = τ ∧ ((¬ (inN (σ.1 0 0 3) a ∧ (b = 0 ∨ b = 1)) ∧ r = -1) ∨ ((inN (σ.1 0 0 3) a ∧ (b = 0 ∨ b = 1)) ∧ r = if b = 0 then (spU (fun q => σ.1 11 q 0) (fun q => σ.1 11 q 1) (candU (σ.1 6 0) (σ.1 14 a.toNatClampNeg 0) (σ.1 14 a.toNatClampNeg 1) n) (earlF (fun q => σ.1 17 q 0) (σ.1 0 0 5) (σ.1 14 a.toNatClampNeg 4) (σ.1 14 a.toNatClampNeg 5)) (lateF (fun q => σ.1 17 q 1) (σ.1 0 0 5) (σ.1 14 a.toNatClampNeg 4)) n).1 else (spU (fun q => σ.1 11 q 0) (fun q => σ.1 11 q 1) (candU (σ.1 6 0) (σ.1 14 a.toNatClampNeg 0) (σ.1 14 a.toNatClampNeg 1) n) (earlF (fun q => σ.1 17 q 0) (σ.1 0 0 5) (σ.1 14 a.toNatClampNeg 4) (σ.1 14 a.toNatClampNeg 5)) (lateF (fun q => σ.1 17 q 1) (σ.1 0 0 5) (σ.1 14 a.toNatClampNeg 4)) n).2))) → G w x 12 Q 0 [(0, .ref (w.2.2.2.1 0 0)), (1, .int a), (2, .int b)] [] σ from key _ rfl
  intro Q hQ
  refine G.aload_n C 0 dX5_span_0 rfl rfl ?_
  refine G.iload_n C 1 dX5_span_1 rfl rfl ?_
  have hM_0 := ok_X5_isLeaf hw σ a
  refine G.callV C (g := 0) (i := 0) none hM_0 dX5_span_2 (by decide) rfl rfl rfl uv_X5_isLeaf ul_RX5_111 rfl rfl (by decide) (Nat.le_of_ble_eq_true rfl) (fun r_2 τ_2 h_2 => ?_)
  obtain ⟨h_2, e_2⟩ := h_2; subst h_2
  refine G.if_eq (tgt := 15) C dX5_span_5 (by decide) (fun c_5 => ?_) (fun c_5 => ?_)
  · have b_2 := wb_0 e_2 c_5
    refine G.iconst (v := -1) C dX5_span_15 (by decide) ?_
    subst hQ
    exact G.iret C hr dX5_span_16 (by
        refine ⟨rfl, Or.inl ⟨fun q => ?_, rfl⟩⟩
        first | exact b_2 q.1 | exact b_9 q.2)
  · have b_2 := wb_1 e_2 c_5
    refine G.iload_n C 2 dX5_span_8 rfl rfl ?_
    have hM_1 := ok_X5_isFirstOrSecond hw σ b
    refine G.callS C none hM_1 dX5_span_9 us_X5_isFirstOrSecond ul_RX5_97 rfl rfl (by decide) (Nat.le_of_ble_eq_true rfl) (fun r_9 τ_9 h_9 => ?_)
    obtain ⟨h_9, e_9⟩ := h_9; subst h_9
    refine G.if_ne (tgt := 17) C dX5_span_12 (by decide) (fun c_12 => ?_) (fun c_12 => ?_)
    · have b_9 := wb_1 e_9 c_12
      refine G.aload_n C 0 dX5_span_17 rfl rfl ?_
      refine G.get (g := 0) (i := 0) C 2 none dX5_span_18 (by decide) rfl rfl uX_X5 (by decide) uf_RX5_25 rfl rfl ?_
      refine G.iload_n C 1 dX5_span_21 rfl rfl ?_
      have hin_22 : vp_in a 20 := by
        exact vp_ofc b_2 hl hl20 (by decide)
      refine G.aald (g := 3) (i := 0) (n := 20) (f := fun q => w.2.2.2.1 14 q) C 1 dX5_span_22 (by decide) rfl rfl rfl hin_22 ?_
      refine G.astore_n (L1 := [(3, .ref (w.2.2.2.1 14 a.toNatClampNeg)), (0, .ref (w.2.2.2.1 0 0)), (1, .int a), (2, .int b)]) C dX5_span_23 rfl (by decide) rfl ?_
      refine G.aload_n C 1 dX5_span_24 rfl rfl ?_
      refine G.aload_n C 0 dX5_span_25 rfl rfl ?_
      have hM_2 := ok_X5_earliestByPaper hw σ a.toNatClampNeg (vp_lt hin_22) hm0 hm8
      refine G.callV C (g := 0) (i := 0) none hM_2 dX5_span_26 (by decide) rfl rfl rfl uv_X5_earliestByPaper ul_RX5_142 rfl rfl (by decide) (Nat.le_of_ble_eq_true rfl) (fun r_26 τ_26 h_26 => ?_)
      obtain ⟨h_26, e_26⟩ := h_26; subst h_26
      refine G.istore (L1 := [(4, .int r_26), (3, .ref (w.2.2.2.1 14 a.toNatClampNeg)), (0, .ref (w.2.2.2.1 0 0)), (1, .int a), (2, .int b)]) C dX5_span_29 (by decide) rfl ?_
      refine G.aload_n C 2 dX5_span_31 rfl rfl ?_
      refine G.aload_n C 1 dX5_span_32 rfl rfl ?_
      have hM_3 := ok_X5_latestByPaper hw σ a.toNatClampNeg (vp_lt hin_22) hm0 hm8
      refine G.callV C (g := 0) (i := 0) none hM_3 dX5_span_33 (by decide) rfl rfl rfl uv_X5_latestByPaper ul_RX5_145 rfl rfl (by decide) (Nat.le_of_ble_eq_true rfl) (fun r_33 τ_33 h_33 => ?_)
      obtain ⟨h_33, e_33⟩ := h_33; subst h_33
      refine G.istore (L1 := [(5, .int r_33), (4, .int r_26), (3, .ref (w.2.2.2.1 14 a.toNatClampNeg)), (0, .ref (w.2.2.2.1 0 0)), (1, .int a), (2, .int b)]) C dX5_span_36 (by decide) rfl ?_
      refine G.aload_n C 3 dX5_span_38 rfl rfl ?_
      refine G.aload_n C 2 dX5_span_39 rfl rfl ?_
      have hM_4 := ok_X5_candidatesOf hw σ a.toNatClampNeg (vp_lt hin_22) hn h6
      refine G.callV C (g := 0) (i := 0) none hM_4 dX5_span_40 (by decide) rfl rfl rfl uv_X5_candidatesOf ul_RX5_123 rfl rfl (by decide) (Nat.le_of_ble_eq_true rfl) (fun r_40 τ_40 h_40 => ?_)
      obtain ⟨h_40, e_40⟩ := h_40; subst h_40
      refine G.istore (L1 := [(6, .int r_40), (5, .int r_33), (4, .int r_26), (3, .ref (w.2.2.2.1 14 a.toNatClampNeg)), (0, .ref (w.2.2.2.1 0 0)), (1, .int a), (2, .int b)]) C dX5_span_43 (by decide) rfl ?_
      refine G.bipush (v := -9) C dX5_span_45 (by decide) ?_
      refine G.istore (L1 := [(7, .int (-9)), (6, .int r_40), (5, .int r_33), (4, .int r_26), (3, .ref (w.2.2.2.1 14 a.toNatClampNeg)), (0, .ref (w.2.2.2.1 0 0)), (1, .int a), (2, .int b)]) C dX5_span_47 (by decide) rfl ?_
      refine G.bipush (v := -9) C dX5_span_49 (by decide) ?_
      refine G.istore (L1 := [(8, .int (-9)), (7, .int (-9)), (6, .int r_40), (5, .int r_33), (4, .int r_26), (3, .ref (w.2.2.2.1 14 a.toNatClampNeg)), (0, .ref (w.2.2.2.1 0 0)), (1, .int a), (2, .int b)]) C dX5_span_51 (by decide) rfl ?_
      refine G.iconst (v := 0) C dX5_span_53 (by decide) ?_
      refine G.istore (L1 := [(9, .int 0), (8, .int (-9)), (7, .int (-9)), (6, .int r_40), (5, .int r_33), (4, .int r_26), (3, .ref (w.2.2.2.1 14 a.toNatClampNeg)), (0, .ref (w.2.2.2.1 0 0)), (1, .int a), (2, .int b)]) C dX5_span_54 (by decide) rfl ?_
      have cut_56 : ∀ (m9 : Nat) (j : Nat) (x9 x8 x7 : Int32), j ≤ n → n < j + m9 → x9 = nI j → x8 = (spU (fun q => σ.1 11 q 0) (fun q => σ.1 11 q 1) r_40 r_26 r_33 j).2 → x7 = (spU (fun q => σ.1 11 q 0) (fun q => σ.1 11 q 1) r_40 r_26 r_33 j).1 → G w x 12 Q 56 [(9, .int x9), (8, .int x8), (7, .int x7), (6, .int r_40), (5, .int r_33), (4, .int r_26), (3, .ref (w.2.2.2.1 14 a.toNatClampNeg)), (0, .ref (w.2.2.2.1 0 0)), (1, .int a), (2, .int b)] [] σ := by
        intro m9
        induction m9 with
        | zero =>
          intro j x9 x8 x7 hj hm hx9 hx8 hx7
          exfalso
          omega
        | succ m9 ih_56 =>
          intro j x9 x8 x7 hj hm hx9 hx8 hx7
          subst hx9
          subst hx8
          subst hx7
          refine G.iload C 0 dX5_span_56 rfl ?_
          refine G.aload_n C 7 dX5_span_58 rfl rfl ?_
          refine G.get (g := 0) (i := 0) C 0 none dX5_span_59 (by decide) rfl rfl uX_X5 (by decide) uf_RX5_10 rfl rfl ?_
          refine G.get (g := 1) (i := 0) C 5 (some "PlateRoom") dX5_span_62 (by decide) rfl rfl uX_X3 (by decide) unf_RX5_100 rfl rfl ?_
          refine G.icmp_ge (tgt := 173) C dX5_span_65 (by decide) (fun c_65 => ?_) (fun c_65 => ?_)
          · have hjn : j = n := by
              rw [hn, nI_leI (by omega) (by omega)] at c_65; omega
            refine G.iload_n C 9 dX5_span_173 rfl rfl ?_
            refine G.if_ne (tgt := 182) C dX5_span_174 (by decide) (fun c_174 => ?_) (fun c_174 => ?_)
            · refine G.iload C 1 dX5_span_182 rfl ?_
              subst hQ
              exact G.iret C hr dX5_span_184 (by
                  refine ⟨rfl, Or.inr ⟨⟨b_2, b_9⟩, ?_⟩⟩
                  rw [if_neg c_174, hjn, e_40, e_33, e_26])
            · refine G.iload C 2 dX5_span_177 rfl ?_
              refine G.goto (tgt := 184) C dX5_span_179 (by decide) ?_
              subst hQ
              exact G.iret C hr dX5_span_184 (by
                  refine ⟨rfl, Or.inr ⟨⟨b_2, b_9⟩, ?_⟩⟩
                  rw [if_pos c_174, hjn, e_40, e_33, e_26])
          · have hjn : j < n := by
              rw [hn, nI_leI (by omega) (by omega)] at c_65; omega
            refine G.iload C 5 dX5_span_68 rfl ?_
            refine G.aload_n C 7 dX5_span_70 rfl rfl ?_
            refine G.get (g := 0) (i := 0) C 0 none dX5_span_71 (by decide) rfl rfl uX_X5 (by decide) uf_RX5_10 rfl rfl ?_
            refine G.get (g := 1) (i := 0) C 4 (some "PlateRoom") dX5_span_74 (by decide) rfl rfl uX_X3 (by decide) unf_RX5_74 rfl rfl ?_
            refine G.iload C 0 dX5_span_77 rfl ?_
            have hin_79 : vp_in (nI j) 6 := by
              exact vp_in_nI (by omega) (by decide)
            refine G.aald (g := 7) (i := 0) (n := 6) (f := fun q => w.2.2.2.1 11 q) C 2 dX5_span_79 (by decide) rfl rfl rfl hin_79 ?_
            refine G.get (g := 11) (i := ((nI j).toNatClampNeg)) C 0 (some "PlateRoom") dX5_span_80 (vp_lt hin_79) rfl rfl uX_X4 (by decide) unf_RX5_77 rfl rfl ?_
            refine G.mmax C dX5_span_83 ul_RX5_148 (by decide) (Nat.le_of_ble_eq_true rfl) ?_
            refine G.topi (fun x10_86 ex10_86 => ?_)
            refine G.istore (L1 := [(10, .int x10_86), (9, .int (nI j)), (8, .int ((spU (fun q => σ.1 11 q 0) (fun q => σ.1 11 q 1) r_40 r_26 r_33 j).2)), (7, .int ((spU (fun q => σ.1 11 q 0) (fun q => σ.1 11 q 1) r_40 r_26 r_33 j).1)), (6, .int r_40), (5, .int r_33), (4, .int r_26), (3, .ref (w.2.2.2.1 14 a.toNatClampNeg)), (0, .ref (w.2.2.2.1 0 0)), (1, .int a), (2, .int b)]) C dX5_span_86 (by decide) rfl ?_
            refine G.iload C 5 dX5_span_88 rfl ?_
            refine G.aload_n C 8 dX5_span_90 rfl rfl ?_
            refine G.get (g := 0) (i := 0) C 0 none dX5_span_91 (by decide) rfl rfl uX_X5 (by decide) uf_RX5_10 rfl rfl ?_
            refine G.get (g := 1) (i := 0) C 4 (some "PlateRoom") dX5_span_94 (by decide) rfl rfl uX_X3 (by decide) unf_RX5_74 rfl rfl ?_
            refine G.iload C 1 dX5_span_97 rfl ?_
            have hin_99 : vp_in (nI j) 6 := by
              exact vp_in_nI (by omega) (by decide)
            refine G.aald (g := 7) (i := 0) (n := 6) (f := fun q => w.2.2.2.1 11 q) C 2 dX5_span_99 (by decide) rfl rfl rfl hin_99 ?_
            refine G.get (g := 11) (i := ((nI j).toNatClampNeg)) C 1 (some "PlateRoom") dX5_span_100 (vp_lt hin_99) rfl rfl uX_X4 (by decide) unf_RX5_80 rfl rfl ?_
            refine G.mmin C dX5_span_103 ul_RX5_154 (by decide) (Nat.le_of_ble_eq_true rfl) ?_
            refine G.topi (fun x11_106 ex11_106 => ?_)
            refine G.istore (L1 := [(11, .int x11_106), (10, .int x10_86), (9, .int (nI j)), (8, .int ((spU (fun q => σ.1 11 q 0) (fun q => σ.1 11 q 1) r_40 r_26 r_33 j).2)), (7, .int ((spU (fun q => σ.1 11 q 0) (fun q => σ.1 11 q 1) r_40 r_26 r_33 j).1)), (6, .int r_40), (5, .int r_33), (4, .int r_26), (3, .ref (w.2.2.2.1 14 a.toNatClampNeg)), (0, .ref (w.2.2.2.1 0 0)), (1, .int a), (2, .int b)]) C dX5_span_106 (by decide) rfl ?_
            refine G.iload C 5 dX5_span_108 rfl ?_
            refine G.iload C 2 dX5_span_110 rfl ?_
            have hM_5 := ok_X5_has hw σ r_40 (nI j)
            refine G.callS C none hM_5 dX5_span_112 us_X5_has ul_RX5_157 rfl rfl (by decide) (Nat.le_of_ble_eq_true rfl) (fun r_112 τ_112 h_112 => ?_)
            obtain ⟨h_112, e_112⟩ := h_112; subst h_112
            refine G.if_eq (tgt := 167) C dX5_span_115 (by decide) (fun c_115 => ?_) (fun c_115 => ?_)
            · have b_112 := wb_0 e_112 c_115
              obtain ⟨x9_167, ex9_167⟩ : ∃ z : Int32, z = (nI j) + 1 := ⟨_, rfl⟩
              refine G.iinc (v := x9_167) (L1 := [(9, .int x9_167), (11, .int x11_106), (10, .int x10_86), (8, .int ((spU (fun q => σ.1 11 q 0) (fun q => σ.1 11 q 1) r_40 r_26 r_33 j).2)), (7, .int ((spU (fun q => σ.1 11 q 0) (fun q => σ.1 11 q 1) r_40 r_26 r_33 j).1)), (6, .int r_40), (5, .int r_33), (4, .int r_26), (3, .ref (w.2.2.2.1 14 a.toNatClampNeg)), (0, .ref (w.2.2.2.1 0 0)), (1, .int a), (2, .int b)]) C 2 dX5_span_167 rfl (by rw [ex9_167]; rfl) (by decide) rfl ?_
              refine G.goto (tgt := 56) C dX5_span_170 (by decide) ?_
              refine G.sub (L1 := [(9, .int x9_167), (8, .int ((spU (fun q => σ.1 11 q 0) (fun q => σ.1 11 q 1) r_40 r_26 r_33 j).2)), (7, .int ((spU (fun q => σ.1 11 q 0) (fun q => σ.1 11 q 1) r_40 r_26 r_33 j).1)), (6, .int r_40), (5, .int r_33), (4, .int r_26), (3, .ref (w.2.2.2.1 14 a.toNatClampNeg)), (0, .ref (w.2.2.2.1 0 0)), (1, .int a), (2, .int b)]) [0, 3, 4, 5, 6, 7, 8, 9, 10, 11] rfl ?_
              refine ih_56  (j + 1) _ _ _ ?_ ?_ ?_ ?_ ?_
              · omega
              · omega
              · rw [ex9_167]; exact nI_1 j
              · rw [spU_f (fun q => b_112 q.1)]
              · rw [spU_f (fun q => b_112 q.1)]
            · have b_112 := wb_1 e_112 c_115
              refine G.iload C 1 dX5_span_118 rfl ?_
              refine G.iload C 0 dX5_span_120 rfl ?_
              refine G.icmp_gt (tgt := 167) C dX5_span_122 (by decide) (fun c_122 => ?_) (fun c_122 => ?_)
              · obtain ⟨x9_167, ex9_167⟩ : ∃ z : Int32, z = (nI j) + 1 := ⟨_, rfl⟩
                refine G.iinc (v := x9_167) (L1 := [(9, .int x9_167), (11, .int x11_106), (10, .int x10_86), (8, .int ((spU (fun q => σ.1 11 q 0) (fun q => σ.1 11 q 1) r_40 r_26 r_33 j).2)), (7, .int ((spU (fun q => σ.1 11 q 0) (fun q => σ.1 11 q 1) r_40 r_26 r_33 j).1)), (6, .int r_40), (5, .int r_33), (4, .int r_26), (3, .ref (w.2.2.2.1 14 a.toNatClampNeg)), (0, .ref (w.2.2.2.1 0 0)), (1, .int a), (2, .int b)]) C 2 dX5_span_167 rfl (by rw [ex9_167]; rfl) (by decide) rfl ?_
                refine G.goto (tgt := 56) C dX5_span_170 (by decide) ?_
                refine G.sub (L1 := [(9, .int x9_167), (8, .int ((spU (fun q => σ.1 11 q 0) (fun q => σ.1 11 q 1) r_40 r_26 r_33 j).2)), (7, .int ((spU (fun q => σ.1 11 q 0) (fun q => σ.1 11 q 1) r_40 r_26 r_33 j).1)), (6, .int r_40), (5, .int r_33), (4, .int r_26), (3, .ref (w.2.2.2.1 14 a.toNatClampNeg)), (0, .ref (w.2.2.2.1 0 0)), (1, .int a), (2, .int b)]) [0, 3, 4, 5, 6, 7, 8, 9, 10, 11] rfl ?_
                refine ih_56  (j + 1) _ _ _ ?_ ?_ ?_ ?_ ?_
                · omega
                · omega
                · rw [ex9_167]; exact nI_1 j
                · rw [spU_f (fun q => ?_)]
                  rw [ex10_86, ex11_106, nI_clamp (by omega)] at c_122
                  exact Int32.not_le.mpr c_122 q.2
                · rw [spU_f (fun q => ?_)]
                  rw [ex10_86, ex11_106, nI_clamp (by omega)] at c_122
                  exact Int32.not_le.mpr c_122 q.2
              · refine G.iload C 4 dX5_span_125 rfl ?_
                refine G.bipush (v := -9) C dX5_span_127 (by decide) ?_
                refine G.icmp_ne (tgt := 137) C dX5_span_129 (by decide) (fun c_129 => ?_) (fun c_129 => ?_)
                · refine G.iload C 4 dX5_span_137 rfl ?_
                  refine G.iload C 1 dX5_span_139 rfl ?_
                  refine G.mmin C dX5_span_141 ul_RX5_154 (by decide) (Nat.le_of_ble_eq_true rfl) ?_
                  refine G.topi (fun x7_144 ex7_144 => ?_)
                  refine G.istore (L1 := [(7, .int x7_144), (11, .int x11_106), (10, .int x10_86), (9, .int (nI j)), (8, .int ((spU (fun q => σ.1 11 q 0) (fun q => σ.1 11 q 1) r_40 r_26 r_33 j).2)), (6, .int r_40), (5, .int r_33), (4, .int r_26), (3, .ref (w.2.2.2.1 14 a.toNatClampNeg)), (0, .ref (w.2.2.2.1 0 0)), (1, .int a), (2, .int b)]) C dX5_span_144 (by decide) rfl ?_
                  refine G.iload C 4 dX5_span_146 rfl ?_
                  refine G.bipush (v := -9) C dX5_span_148 (by decide) ?_
                  refine G.icmp_ne (tgt := 158) C dX5_span_150 (by decide) (fun c_150 => ?_) (fun c_150 => ?_)
                  · refine G.iload C 4 dX5_span_158 rfl ?_
                    refine G.iload C 1 dX5_span_160 rfl ?_
                    refine G.mmax C dX5_span_162 ul_RX5_148 (by decide) (Nat.le_of_ble_eq_true rfl) ?_
                    refine G.topi (fun x8_165 ex8_165 => ?_)
                    refine G.istore (L1 := [(8, .int x8_165), (7, .int x7_144), (11, .int x11_106), (10, .int x10_86), (9, .int (nI j)), (6, .int r_40), (5, .int r_33), (4, .int r_26), (3, .ref (w.2.2.2.1 14 a.toNatClampNeg)), (0, .ref (w.2.2.2.1 0 0)), (1, .int a), (2, .int b)]) C dX5_span_165 (by decide) rfl ?_
                    obtain ⟨x9_167, ex9_167⟩ : ∃ z : Int32, z = (nI j) + 1 := ⟨_, rfl⟩
                    refine G.iinc (v := x9_167) (L1 := [(9, .int x9_167), (8, .int x8_165), (7, .int x7_144), (11, .int x11_106), (10, .int x10_86), (6, .int r_40), (5, .int r_33), (4, .int r_26), (3, .ref (w.2.2.2.1 14 a.toNatClampNeg)), (0, .ref (w.2.2.2.1 0 0)), (1, .int a), (2, .int b)]) C 4 dX5_span_167 rfl (by rw [ex9_167]; rfl) (by decide) rfl ?_
                    refine G.goto (tgt := 56) C dX5_span_170 (by decide) ?_
                    refine G.sub (L1 := [(9, .int x9_167), (8, .int x8_165), (7, .int x7_144), (6, .int r_40), (5, .int r_33), (4, .int r_26), (3, .ref (w.2.2.2.1 14 a.toNatClampNeg)), (0, .ref (w.2.2.2.1 0 0)), (1, .int a), (2, .int b)]) [0, 1, 2, 5, 6, 7, 8, 9, 10, 11] rfl ?_
                    refine ih_56  (j + 1) _ _ _ ?_ ?_ ?_ ?_ ?_
                    · omega
                    · omega
                    · rw [ex9_167]; exact nI_1 j
                    · have q9 := spU_t (fr := fun q => σ.1 11 q 0) (to := fun q => σ.1 11 q 1) (c := r_40) (e := r_26) (l := r_33) (k := j) b_112 (by
                        rw [ex10_86, ex11_106] at c_122
                        rw [nI_clamp (by omega)] at c_122
                        exact Int32.not_lt.mp c_122)
                      rw [q9]
                      show _ = ite _ _ _
                      rw [if_neg c_150]
                      subst_vars
                      rw [nI_clamp (by omega)]
                      rfl
                    · have q9 := spU_t (fr := fun q => σ.1 11 q 0) (to := fun q => σ.1 11 q 1) (c := r_40) (e := r_26) (l := r_33) (k := j) b_112 (by
                        rw [ex10_86, ex11_106] at c_122
                        rw [nI_clamp (by omega)] at c_122
                        exact Int32.not_lt.mp c_122)
                      rw [q9]
                      show _ = ite _ _ _
                      rw [if_neg c_129]
                      subst_vars
                      rw [nI_clamp (by omega)]
                      rfl
                  · refine G.iload C 1 dX5_span_153 rfl ?_
                    refine G.goto (tgt := 165) C dX5_span_155 (by decide) ?_
                    refine G.istore (L1 := [(8, .int x11_106), (7, .int x7_144), (11, .int x11_106), (10, .int x10_86), (9, .int (nI j)), (6, .int r_40), (5, .int r_33), (4, .int r_26), (3, .ref (w.2.2.2.1 14 a.toNatClampNeg)), (0, .ref (w.2.2.2.1 0 0)), (1, .int a), (2, .int b)]) C dX5_span_165 (by decide) rfl ?_
                    obtain ⟨x9_167, ex9_167⟩ : ∃ z : Int32, z = (nI j) + 1 := ⟨_, rfl⟩
                    refine G.iinc (v := x9_167) (L1 := [(9, .int x9_167), (8, .int x11_106), (7, .int x7_144), (11, .int x11_106), (10, .int x10_86), (6, .int r_40), (5, .int r_33), (4, .int r_26), (3, .ref (w.2.2.2.1 14 a.toNatClampNeg)), (0, .ref (w.2.2.2.1 0 0)), (1, .int a), (2, .int b)]) C 4 dX5_span_167 rfl (by rw [ex9_167]; rfl) (by decide) rfl ?_
                    refine G.goto (tgt := 56) C dX5_span_170 (by decide) ?_
                    refine G.sub (L1 := [(9, .int x9_167), (8, .int x11_106), (7, .int x7_144), (6, .int r_40), (5, .int r_33), (4, .int r_26), (3, .ref (w.2.2.2.1 14 a.toNatClampNeg)), (0, .ref (w.2.2.2.1 0 0)), (1, .int a), (2, .int b)]) [0, 1, 2, 5, 6, 7, 8, 9, 10, 11] rfl ?_
                    refine ih_56  (j + 1) _ _ _ ?_ ?_ ?_ ?_ ?_
                    · omega
                    · omega
                    · rw [ex9_167]; exact nI_1 j
                    · have q9 := spU_t (fr := fun q => σ.1 11 q 0) (to := fun q => σ.1 11 q 1) (c := r_40) (e := r_26) (l := r_33) (k := j) b_112 (by
                        rw [ex10_86, ex11_106] at c_122
                        rw [nI_clamp (by omega)] at c_122
                        exact Int32.not_lt.mp c_122)
                      rw [q9]
                      show _ = ite _ _ _
                      rw [if_pos c_150]
                      subst_vars
                      rw [nI_clamp (by omega)]
                      rfl
                    · have q9 := spU_t (fr := fun q => σ.1 11 q 0) (to := fun q => σ.1 11 q 1) (c := r_40) (e := r_26) (l := r_33) (k := j) b_112 (by
                        rw [ex10_86, ex11_106] at c_122
                        rw [nI_clamp (by omega)] at c_122
                        exact Int32.not_lt.mp c_122)
                      rw [q9]
                      show _ = ite _ _ _
                      rw [if_neg c_129]
                      subst_vars
                      rw [nI_clamp (by omega)]
                      rfl
                · refine G.iload C 1 dX5_span_132 rfl ?_
                  refine G.goto (tgt := 144) C dX5_span_134 (by decide) ?_
                  refine G.istore (L1 := [(7, .int x10_86), (11, .int x11_106), (10, .int x10_86), (9, .int (nI j)), (8, .int ((spU (fun q => σ.1 11 q 0) (fun q => σ.1 11 q 1) r_40 r_26 r_33 j).2)), (6, .int r_40), (5, .int r_33), (4, .int r_26), (3, .ref (w.2.2.2.1 14 a.toNatClampNeg)), (0, .ref (w.2.2.2.1 0 0)), (1, .int a), (2, .int b)]) C dX5_span_144 (by decide) rfl ?_
                  refine G.iload C 4 dX5_span_146 rfl ?_
                  refine G.bipush (v := -9) C dX5_span_148 (by decide) ?_
                  refine G.icmp_ne (tgt := 158) C dX5_span_150 (by decide) (fun c_150 => ?_) (fun c_150 => ?_)
                  · refine G.iload C 4 dX5_span_158 rfl ?_
                    refine G.iload C 1 dX5_span_160 rfl ?_
                    refine G.mmax C dX5_span_162 ul_RX5_148 (by decide) (Nat.le_of_ble_eq_true rfl) ?_
                    refine G.topi (fun x8_165 ex8_165 => ?_)
                    refine G.istore (L1 := [(8, .int x8_165), (7, .int x10_86), (11, .int x11_106), (10, .int x10_86), (9, .int (nI j)), (6, .int r_40), (5, .int r_33), (4, .int r_26), (3, .ref (w.2.2.2.1 14 a.toNatClampNeg)), (0, .ref (w.2.2.2.1 0 0)), (1, .int a), (2, .int b)]) C dX5_span_165 (by decide) rfl ?_
                    obtain ⟨x9_167, ex9_167⟩ : ∃ z : Int32, z = (nI j) + 1 := ⟨_, rfl⟩
                    refine G.iinc (v := x9_167) (L1 := [(9, .int x9_167), (8, .int x8_165), (7, .int x10_86), (11, .int x11_106), (10, .int x10_86), (6, .int r_40), (5, .int r_33), (4, .int r_26), (3, .ref (w.2.2.2.1 14 a.toNatClampNeg)), (0, .ref (w.2.2.2.1 0 0)), (1, .int a), (2, .int b)]) C 4 dX5_span_167 rfl (by rw [ex9_167]; rfl) (by decide) rfl ?_
                    refine G.goto (tgt := 56) C dX5_span_170 (by decide) ?_
                    refine G.sub (L1 := [(9, .int x9_167), (8, .int x8_165), (7, .int x10_86), (6, .int r_40), (5, .int r_33), (4, .int r_26), (3, .ref (w.2.2.2.1 14 a.toNatClampNeg)), (0, .ref (w.2.2.2.1 0 0)), (1, .int a), (2, .int b)]) [0, 1, 2, 5, 6, 7, 8, 9, 10, 11] rfl ?_
                    refine ih_56  (j + 1) _ _ _ ?_ ?_ ?_ ?_ ?_
                    · omega
                    · omega
                    · rw [ex9_167]; exact nI_1 j
                    · have q9 := spU_t (fr := fun q => σ.1 11 q 0) (to := fun q => σ.1 11 q 1) (c := r_40) (e := r_26) (l := r_33) (k := j) b_112 (by
                        rw [ex10_86, ex11_106] at c_122
                        rw [nI_clamp (by omega)] at c_122
                        exact Int32.not_lt.mp c_122)
                      rw [q9]
                      show _ = ite _ _ _
                      rw [if_neg c_150]
                      subst_vars
                      rw [nI_clamp (by omega)]
                      rfl
                    · have q9 := spU_t (fr := fun q => σ.1 11 q 0) (to := fun q => σ.1 11 q 1) (c := r_40) (e := r_26) (l := r_33) (k := j) b_112 (by
                        rw [ex10_86, ex11_106] at c_122
                        rw [nI_clamp (by omega)] at c_122
                        exact Int32.not_lt.mp c_122)
                      rw [q9]
                      show _ = ite _ _ _
                      rw [if_pos c_129]
                      subst_vars
                      rw [nI_clamp (by omega)]
                      rfl
                  · refine G.iload C 1 dX5_span_153 rfl ?_
                    refine G.goto (tgt := 165) C dX5_span_155 (by decide) ?_
                    refine G.istore (L1 := [(8, .int x11_106), (7, .int x10_86), (11, .int x11_106), (10, .int x10_86), (9, .int (nI j)), (6, .int r_40), (5, .int r_33), (4, .int r_26), (3, .ref (w.2.2.2.1 14 a.toNatClampNeg)), (0, .ref (w.2.2.2.1 0 0)), (1, .int a), (2, .int b)]) C dX5_span_165 (by decide) rfl ?_
                    obtain ⟨x9_167, ex9_167⟩ : ∃ z : Int32, z = (nI j) + 1 := ⟨_, rfl⟩
                    refine G.iinc (v := x9_167) (L1 := [(9, .int x9_167), (8, .int x11_106), (7, .int x10_86), (11, .int x11_106), (10, .int x10_86), (6, .int r_40), (5, .int r_33), (4, .int r_26), (3, .ref (w.2.2.2.1 14 a.toNatClampNeg)), (0, .ref (w.2.2.2.1 0 0)), (1, .int a), (2, .int b)]) C 4 dX5_span_167 rfl (by rw [ex9_167]; rfl) (by decide) rfl ?_
                    refine G.goto (tgt := 56) C dX5_span_170 (by decide) ?_
                    refine G.sub (L1 := [(9, .int x9_167), (8, .int x11_106), (7, .int x10_86), (6, .int r_40), (5, .int r_33), (4, .int r_26), (3, .ref (w.2.2.2.1 14 a.toNatClampNeg)), (0, .ref (w.2.2.2.1 0 0)), (1, .int a), (2, .int b)]) [0, 1, 2, 5, 6, 7, 8, 9, 10, 11] rfl ?_
                    refine ih_56  (j + 1) _ _ _ ?_ ?_ ?_ ?_ ?_
                    · omega
                    · omega
                    · rw [ex9_167]; exact nI_1 j
                    · have q9 := spU_t (fr := fun q => σ.1 11 q 0) (to := fun q => σ.1 11 q 1) (c := r_40) (e := r_26) (l := r_33) (k := j) b_112 (by
                        rw [ex10_86, ex11_106] at c_122
                        rw [nI_clamp (by omega)] at c_122
                        exact Int32.not_lt.mp c_122)
                      rw [q9]
                      show _ = ite _ _ _
                      rw [if_pos c_150]
                      subst_vars
                      rw [nI_clamp (by omega)]
                      rfl
                    · have q9 := spU_t (fr := fun q => σ.1 11 q 0) (to := fun q => σ.1 11 q 1) (c := r_40) (e := r_26) (l := r_33) (k := j) b_112 (by
                        rw [ex10_86, ex11_106] at c_122
                        rw [nI_clamp (by omega)] at c_122
                        exact Int32.not_lt.mp c_122)
                      rw [q9]
                      show _ = ite _ _ _
                      rw [if_pos c_129]
                      subst_vars
                      rw [nI_clamp (by omega)]
                      rfl
      refine cut_56 (n + 1) 0 _ _ _ ?_ ?_ ?_ ?_ ?_
      · omega
      · omega
      · rfl
      · rfl
      · rfl
    · have b_9 := wb_0 e_9 c_12
      refine G.iconst (v := -1) C dX5_span_15 (by decide) ?_
      subst hQ
      exact G.iret C hr dX5_span_16 (by
          refine ⟨rfl, Or.inl ⟨fun q => ?_, rfl⟩⟩
          first | exact b_2 q.1 | exact b_9 q.2)
set_option maxHeartbeats 4000000 in
set_option maxRecDepth 100000 in
theorem ok_X5_plainPrice {w : wD} (hw : wOK w) (σ : wSt) (i : Nat) (hi : i < wN 14) {n : Nat} (hn : σ.1 1 0 5 = nI n) (h6 : n ≤ 6) : MI w yX5_plainPrice cX5_plainPrice 3 (some .int) 2 45 [.ref (w.2.2.2.1 0 0), .ref (w.2.2.2.1 14 i)] σ (fun r τ => wUpL σ 0 (σ.2 0 + 1) = τ ∧ r = plainF (pop (candU (σ.1 6 0) (σ.1 14 i 0) (σ.1 14 i 1) n)) (σ.1 14 i 2)) := by
  refine MI.of hw (by decide +kernel) (Nat.le_of_ble_eq_true rfl) (fun x C hr => ?_)
  suffices key : ∀ Q, Q = QI w x (fun r τ => wUpL σ 0 (σ.2 0 + 1) = τ ∧ r = plainF (pop (candU (σ.1 6 0) (σ.1 14 i 0) (σ.1 14 i 1) n)) (σ.1 14 i 2)) → G w x 3 Q 0 [(0, .ref (w.2.2.2.1 0 0)), (1, .ref (w.2.2.2.1 14 i))] [] σ from key _ rfl
  intro Q hQ
  refine G.aload_n C 0 dX5_plainPrice_0 rfl rfl ?_
  refine G.dup C dX5_plainPrice_1 rfl ?_
  refine G.get (g := 0) (i := 0) C 7 none dX5_plainPrice_2 (by decide) rfl rfl uX_X5 (by decide) uf_RX5_48 rfl rfl ?_
  refine G.lconst (v := 1) C dX5_plainPrice_5 (by decide) ?_
  refine G.ladd C dX5_plainPrice_6 ?_
  refine G.putL (g := 0) (i := 0) (j := 0) C 7 none dX5_plainPrice_7 (by decide) (by decide) rfl rfl uX_X5 tyX5 tyX5_ok nmX5 (by decide) uf_RX5_48 rfl rfl (by decide +kernel) (Nat.le_of_ble_eq_true rfl) w_up_0_7 ?_
  refine G.aload_n C 0 dX5_plainPrice_10 rfl rfl ?_
  refine G.aload_n C 1 dX5_plainPrice_11 rfl rfl ?_
  have hM_0 := ok_X5_candidatesOf hw (wUpL σ 0 ((σ.2 0) + 1)) i hi hn h6
  refine G.callV C (g := 0) (i := 0) none hM_0 dX5_plainPrice_12 (by decide) rfl rfl rfl uv_X5_candidatesOf ul_RX5_123 rfl rfl (by decide) (Nat.le_of_ble_eq_true rfl) (fun r_12 τ_12 h_12 => ?_)
  obtain ⟨h_12, e_12⟩ := h_12; subst h_12
  have hM_1 := ok_J6_bitCount_0f7a4 hw (wUpL σ 0 ((σ.2 0) + 1)) r_12 (by rw [e_12]; exact rng_cand n h6)
  refine G.callS C none hM_1 dX5_plainPrice_15 us_J6_bitCount_0f7a4 ul_RX5_253 rfl rfl (by decide) (Nat.le_of_ble_eq_true rfl) (fun r_15 τ_15 h_15 => ?_)
  obtain ⟨h_15, e_15⟩ := h_15; subst h_15
  refine G.istore_n (L1 := [(2, .int r_15), (0, .ref (w.2.2.2.1 0 0)), (1, .ref (w.2.2.2.1 14 i))]) C dX5_plainPrice_18 rfl (by decide) rfl ?_
  refine G.iload_n C 0 dX5_plainPrice_19 rfl rfl ?_
  refine G.if_ne (tgt := 27) C dX5_plainPrice_20 (by decide) (fun c_20 => ?_) (fun c_20 => ?_)
  · refine G.aload_n C 2 dX5_plainPrice_27 rfl rfl ?_
    refine G.get (g := 14) (i := i) C 2 (some "PlateRoom") dX5_plainPrice_28 hi rfl rfl uX_X2 (by decide) unf_RX5_258 rfl rfl ?_
    refine G.iload_n C 0 dX5_plainPrice_31 rfl rfl ?_
    refine G.idiv C dX5_plainPrice_32 (c_20) ?_
    subst hQ
    exact G.iret C hr dX5_plainPrice_33 (by
        refine ⟨rfl, ?_⟩
        simp only [wUpL_1] at *
        have c_20n : ¬ r_15 = 0 := c_20
        rw [e_15, e_12] at c_20n
        rw [plainF, if_neg c_20n, e_15, e_12])
  · refine G.iconst (v := 0) C dX5_plainPrice_23 (by decide) ?_
    refine G.goto (tgt := 33) C dX5_plainPrice_24 (by decide) ?_
    subst hQ
    exact G.iret C hr dX5_plainPrice_33 (by
        refine ⟨rfl, ?_⟩
        simp only [wUpL_1] at *
        rw [e_15, e_12] at c_20
        rw [plainF, if_pos c_20])
set_option maxHeartbeats 4000000 in
set_option maxRecDepth 100000 in
theorem ok_X5_colouredPrice {w : wD} (hw : wOK w) (σ : wSt) (i : Nat) (hi : i < wN 14) {n : Nat} (hn : σ.1 1 0 5 = nI n) (h6 : n ≤ 6) : MI w yX5_colouredPrice cX5_colouredPrice 3 (some .int) 3 67 [.ref (w.2.2.2.1 0 0), .ref (w.2.2.2.1 14 i)] σ (fun r τ => wUpL σ 0 (σ.2 0 + 10 + 1) = τ ∧ r = colF (plainF (pop (candU (σ.1 6 0) (σ.1 14 i 0) (σ.1 14 i 1) n)) (σ.1 14 i 2)) (σ.1 14 i 3)) := by
  refine MI.of hw (by decide +kernel) (Nat.le_of_ble_eq_true rfl) (fun x C hr => ?_)
  suffices key : ∀ Q, Q = QI w x (fun r τ => wUpL σ 0 (σ.2 0 + 10 + 1) = τ ∧ r = colF (plainF (pop (candU (σ.1 6 0) (σ.1 14 i 0) (σ.1 14 i 1) n)) (σ.1 14 i 2)) (σ.1 14 i 3)) → G w x 3 Q 0 [(0, .ref (w.2.2.2.1 0 0)), (1, .ref (w.2.2.2.1 14 i))] [] σ from key _ rfl
  intro Q hQ
  refine G.aload_n C 0 dX5_colouredPrice_0 rfl rfl ?_
  refine G.dup C dX5_colouredPrice_1 rfl ?_
  refine G.get (g := 0) (i := 0) C 7 none dX5_colouredPrice_2 (by decide) rfl rfl uX_X5 (by decide) uf_RX5_48 rfl rfl ?_
  refine G.ldc2 C uk_RX5_261 dX5_colouredPrice_5 ?_
  refine G.ladd C dX5_colouredPrice_8 ?_
  refine G.putL (g := 0) (i := 0) (j := 0) C 7 none dX5_colouredPrice_9 (by decide) (by decide) rfl rfl uX_X5 tyX5 tyX5_ok nmX5 (by decide) uf_RX5_48 rfl rfl (by decide +kernel) (Nat.le_of_ble_eq_true rfl) w_up_0_7 ?_
  refine G.aload_n C 0 dX5_colouredPrice_12 rfl rfl ?_
  refine G.aload_n C 1 dX5_colouredPrice_13 rfl rfl ?_
  have hM_0 := ok_X5_plainPrice hw (wUpL σ 0 ((σ.2 0) + 10)) i hi hn h6
  refine G.callV C (g := 0) (i := 0) none hM_0 dX5_colouredPrice_14 (by decide) rfl rfl rfl uv_X5_plainPrice ul_RX5_160 rfl rfl (by decide) (Nat.le_of_ble_eq_true rfl) (fun r_14 τ_14 h_14 => ?_)
  obtain ⟨h_14, e_14⟩ := h_14; subst h_14
  refine G.istore_n (L1 := [(2, .int r_14), (0, .ref (w.2.2.2.1 0 0)), (1, .ref (w.2.2.2.1 14 i))]) C dX5_colouredPrice_17 rfl (by decide) rfl ?_
  refine G.aload_n C 2 dX5_colouredPrice_18 rfl rfl ?_
  refine G.get (g := 14) (i := i) C 3 (some "PlateRoom") dX5_colouredPrice_19 hi rfl rfl uX_X2 (by decide) unf_RX5_263 rfl rfl ?_
  refine G.iconst (v := 1) C dX5_colouredPrice_22 (by decide) ?_
  refine G.icmp_ne (tgt := 32) C dX5_colouredPrice_23 (by decide) (fun c_23 => ?_) (fun c_23 => ?_)
  · refine G.aload_n C 2 dX5_colouredPrice_32 rfl rfl ?_
    refine G.get (g := 14) (i := i) C 3 (some "PlateRoom") dX5_colouredPrice_33 hi rfl rfl uX_X2 (by decide) unf_RX5_263 rfl rfl ?_
    refine G.iconst (v := 2) C dX5_colouredPrice_36 (by decide) ?_
    refine G.icmp_ne (tgt := 48) C dX5_colouredPrice_37 (by decide) (fun c_37 => ?_) (fun c_37 => ?_)
    · refine G.iload_n C 0 dX5_colouredPrice_48 rfl rfl ?_
      subst hQ
      exact G.iret C hr dX5_colouredPrice_49 (by
          refine ⟨by rw [wUpL_ov, wUpL_eq], ?_⟩
          simp only [wUpL_1] at *
          rw [colF, if_neg c_23, if_neg c_37, e_14])
    · refine G.iload_n C 0 dX5_colouredPrice_40 rfl rfl ?_
      refine G.iload_n C 0 dX5_colouredPrice_41 rfl rfl ?_
      refine G.iconst (v := 3) C dX5_colouredPrice_42 (by decide) ?_
      refine G.iadd C dX5_colouredPrice_43 ?_
      refine G.iconst (v := 4) C dX5_colouredPrice_44 (by decide) ?_
      refine G.idiv C dX5_colouredPrice_45 (by decide) ?_
      refine G.isub C dX5_colouredPrice_46 ?_
      subst hQ
      exact G.iret C hr dX5_colouredPrice_47 (by
          refine ⟨by rw [wUpL_ov, wUpL_eq], ?_⟩
          simp only [wUpL_1] at *
          rw [colF, if_neg c_23, if_pos c_37, e_14])
  · refine G.iload_n C 0 dX5_colouredPrice_26 rfl rfl ?_
    refine G.iload_n C 0 dX5_colouredPrice_27 rfl rfl ?_
    refine G.iconst (v := 2) C dX5_colouredPrice_28 (by decide) ?_
    refine G.idiv C dX5_colouredPrice_29 (by decide) ?_
    refine G.iadd C dX5_colouredPrice_30 ?_
    subst hQ
    exact G.iret C hr dX5_colouredPrice_31 (by
        refine ⟨by rw [wUpL_ov, wUpL_eq], ?_⟩
        simp only [wUpL_1] at *
        rw [colF, if_pos c_23, e_14])
set_option maxHeartbeats 4000000 in
set_option maxRecDepth 100000 in
theorem ok_X5_wormPrice {w : wD} (hw : wOK w) (σ : wSt) (i : Nat) (hi : i < wN 14) {n : Nat} (hn : σ.1 1 0 5 = nI n) (h6 : n ≤ 6) : MI w yX5_wormPrice cX5_wormPrice 2 (some .int) 4 89 [.ref (w.2.2.2.1 0 0), .ref (w.2.2.2.1 14 i)] σ (fun r τ => wUpL σ 0 (σ.2 0 + 100 + 10 + 1) = τ ∧ r = jmax 0 (colF (plainF (pop (candU (σ.1 6 0) (σ.1 14 i 0) (σ.1 14 i 1) n)) (σ.1 14 i 2)) (σ.1 14 i 3) - 3 * σ.1 15 i 1)) := by
  refine MI.of hw (by decide +kernel) (Nat.le_of_ble_eq_true rfl) (fun x C hr => ?_)
  suffices key : ∀ Q, Q = QI w x (fun r τ => wUpL σ 0 (σ.2 0 + 100 + 10 + 1) = τ ∧ r = jmax 0 (colF (plainF (pop (candU (σ.1 6 0) (σ.1 14 i 0) (σ.1 14 i 1) n)) (σ.1 14 i 2)) (σ.1 14 i 3) - 3 * σ.1 15 i 1)) → G w x 2 Q 0 [(0, .ref (w.2.2.2.1 0 0)), (1, .ref (w.2.2.2.1 14 i))] [] σ from key _ rfl
  intro Q hQ
  refine G.aload_n C 0 dX5_wormPrice_0 rfl rfl ?_
  refine G.dup C dX5_wormPrice_1 rfl ?_
  refine G.get (g := 0) (i := 0) C 7 none dX5_wormPrice_2 (by decide) rfl rfl uX_X5 (by decide) uf_RX5_48 rfl rfl ?_
  refine G.ldc2 C uk_RX5_266 dX5_wormPrice_5 ?_
  refine G.ladd C dX5_wormPrice_8 ?_
  refine G.putL (g := 0) (i := 0) (j := 0) C 7 none dX5_wormPrice_9 (by decide) (by decide) rfl rfl uX_X5 tyX5 tyX5_ok nmX5 (by decide) uf_RX5_48 rfl rfl (by decide +kernel) (Nat.le_of_ble_eq_true rfl) w_up_0_7 ?_
  refine G.iconst (v := 0) C dX5_wormPrice_12 (by decide) ?_
  refine G.aload_n C 0 dX5_wormPrice_13 rfl rfl ?_
  refine G.aload_n C 1 dX5_wormPrice_14 rfl rfl ?_
  have hM_0 := ok_X5_colouredPrice hw (wUpL σ 0 ((σ.2 0) + 100)) i hi hn h6
  refine G.callV C (g := 0) (i := 0) none hM_0 dX5_wormPrice_15 (by decide) rfl rfl rfl uv_X5_colouredPrice ul_RX5_163 rfl rfl (by decide) (Nat.le_of_ble_eq_true rfl) (fun r_15 τ_15 h_15 => ?_)
  obtain ⟨h_15, e_15⟩ := h_15; subst h_15
  refine G.iconst (v := 3) C dX5_wormPrice_18 (by decide) ?_
  refine G.aload_n C 1 dX5_wormPrice_19 rfl rfl ?_
  refine G.get (g := 14) (i := i) C 6 (some "PlateRoom") dX5_wormPrice_20 hi rfl rfl uX_X2 (by decide) unf_RX5_196 rfl rfl ?_
  refine G.get (g := 15) (i := i) C 1 (some "PlateRoom") dX5_wormPrice_23 hi rfl rfl uX_X1 (by decide) unf_RX5_268 rfl rfl ?_
  refine G.imul C dX5_wormPrice_26 ?_
  refine G.isub C dX5_wormPrice_27 ?_
  refine G.mmax C dX5_wormPrice_28 ul_RX5_148 (by decide) (Nat.le_of_ble_eq_true rfl) ?_
  subst hQ
  exact G.iret C hr dX5_wormPrice_31 (by
      refine ⟨by rw [wUpL_ov, wUpL_eq], ?_⟩
      rw [e_15]
      rfl)
set_option maxHeartbeats 4000000 in
set_option maxRecDepth 100000 in
theorem ok_X5_price {w : wD} (hw : wOK w) (σ : wSt) (a b : Int32) {n : Nat} (hn : σ.1 1 0 5 = nI n) (h6 : n ≤ 6) {l : Nat} (hl : σ.1 0 0 3 = nI l) (hl20 : l ≤ 20) : MI w yX5_price cX5_price 3 (some .int) 5 110 [.ref (w.2.2.2.1 0 0), .int a, .int b] σ (fun r τ => (¬ (inN (σ.1 0 0 3) b ∧ 0 ≤ a ∧ a ≤ 2) ∧ σ = τ ∧ r = -1) ∨ ((inN (σ.1 0 0 3) b ∧ 0 ≤ a ∧ a ≤ 2) ∧ a = 0 ∧ wUpL σ 0 (σ.2 0 + 1) = τ ∧ r = plainF (pop (candU (σ.1 6 0) (σ.1 14 b.toNatClampNeg 0) (σ.1 14 b.toNatClampNeg 1) n)) (σ.1 14 b.toNatClampNeg 2)) ∨ ((inN (σ.1 0 0 3) b ∧ 0 ≤ a ∧ a ≤ 2) ∧ a = 1 ∧ wUpL σ 0 (σ.2 0 + 10 + 1) = τ ∧ r = colF (plainF (pop (candU (σ.1 6 0) (σ.1 14 b.toNatClampNeg 0) (σ.1 14 b.toNatClampNeg 1) n)) (σ.1 14 b.toNatClampNeg 2)) (σ.1 14 b.toNatClampNeg 3)) ∨ ((inN (σ.1 0 0 3) b ∧ 0 ≤ a ∧ a ≤ 2) ∧ a = 2 ∧ wUpL σ 0 (σ.2 0 + 100 + 10 + 1) = τ ∧ r = jmax 0 (colF (plainF (pop (candU (σ.1 6 0) (σ.1 14 b.toNatClampNeg 0) (σ.1 14 b.toNatClampNeg 1) n)) (σ.1 14 b.toNatClampNeg 2)) (σ.1 14 b.toNatClampNeg 3) - 3 * σ.1 15 b.toNatClampNeg 1))) := by
  refine MI.of hw (by decide +kernel) (Nat.le_of_ble_eq_true rfl) (fun x C hr => ?_)
  suffices key : ∀ Q, Q = QI w x (fun r τ => (¬ (inN (σ.1 0 0 3) b ∧ 0 ≤ a ∧ a ≤ 2) ∧ σ = τ ∧ r = -1) ∨ ((inN (σ.1 0 0 3) b ∧ 0 ≤ a ∧ a ≤ 2) ∧ a = 0 ∧ wUpL σ 0 (σ.2 0 + 1) = τ ∧ r = plainF (pop (candU (σ.1 6 0) (σ.1 14 b.toNatClampNeg 0) (σ.1 14 b.toNatClampNeg 1) n)) (σ.1 14 b.toNatClampNeg 2)) ∨ ((inN (σ.1 0 0 3) b ∧ 0 ≤ a ∧ a ≤ 2) ∧ a = 1 ∧ wUpL σ 0 (σ.2 0 + 10 + 1) = τ ∧ r = colF (plainF (pop (candU (σ.1 6 0) (σ.1 14 b.toNatClampNeg 0) (σ.1 14 b.toNatClampNeg 1) n)) (σ.1 14 b.toNatClampNeg 2)) (σ.1 14 b.toNatClampNeg 3)) ∨ ((inN (σ.1 0 0 3) b ∧ 0 ≤ a ∧ a ≤ 2) ∧ a = 2 ∧ wUpL σ 0 (σ.2 0 + 100 + 10 + 1) = τ ∧ r = jmax 0 (colF (plainF (pop (candU (σ.1 6 0) (σ.1 14 b.toNatClampNeg 0) (σ.1 14 b.toNatClampNeg 1) n)) (σ.1 14 b.toNatClampNeg 2)) (σ.1 14 b.toNatClampNeg 3) - 3 * σ.1 15 b.toNatClampNeg 1))) → G w x 3 Q 0 [(0, .ref (w.2.2.2.1 0 0)), (1, .int a), (2, .int b)] [] σ from key _ rfl
  intro Q hQ
  refine G.aload_n C 0 dX5_price_0 rfl rfl ?_
  refine G.iload_n C 2 dX5_price_1 rfl rfl ?_
  have hM_0 := ok_X5_isLeaf hw σ b
  refine G.callV C (g := 0) (i := 0) none hM_0 dX5_price_2 (by decide) rfl rfl rfl uv_X5_isLeaf ul_RX5_111 rfl rfl (by decide) (Nat.le_of_ble_eq_true rfl) (fun r_2 τ_2 h_2 => ?_)
  obtain ⟨h_2, e_2⟩ := h_2; subst h_2
  refine G.if_ne (tgt := 10) C dX5_price_5 (by decide) (fun c_5 => ?_) (fun c_5 => ?_)
  · have b_2 := wb_1 e_2 c_5
    refine G.iload_n C 1 dX5_price_10 rfl rfl ?_
    refine G.table C dX5_price_11 (fun j off hj hb ho => ?_) (by decide) (fun hj => ?_)
    · have hj9 : j < 3 := by have := (Array.getElem?_eq_some_iff.mp ho).1; simpa using this
      rcases (show j = 0 ∨ j = 1 ∨ j = 2 by omega) with rfl | rfl | rfl
      · cases ho
        refine ⟨36, by decide, ?_⟩
        have c_11 : a = 0 := w_ofInt (by simpa using hj)
        refine G.aload_n C 0 dX5_price_36 rfl rfl ?_
        refine G.aload_n C 0 dX5_price_37 rfl rfl ?_
        refine G.get (g := 0) (i := 0) C 2 none dX5_price_38 (by decide) rfl rfl uX_X5 (by decide) uf_RX5_25 rfl rfl ?_
        refine G.iload_n C 2 dX5_price_41 rfl rfl ?_
        have hin_42 : vp_in b 20 := by
          exact vp_ofc b_2 hl hl20 (by decide)
        refine G.aald (g := 3) (i := 0) (n := 20) (f := fun q => w.2.2.2.1 14 q) C 1 dX5_price_42 (by decide) rfl rfl rfl hin_42 ?_
        have hM_1 := ok_X5_plainPrice hw σ b.toNatClampNeg (vp_lt hin_42) hn h6
        refine G.callV C (g := 0) (i := 0) none hM_1 dX5_price_43 (by decide) rfl rfl rfl uv_X5_plainPrice ul_RX5_160 rfl rfl (by decide) (Nat.le_of_ble_eq_true rfl) (fun r_43 τ_43 h_43 => ?_)
        obtain ⟨h_43, e_43⟩ := h_43; subst h_43
        subst hQ
        exact G.iret C hr dX5_price_46 (by
            subst c_11
            exact Or.inr (Or.inl ⟨⟨b_2, by decide, by decide⟩, rfl, rfl, e_43⟩))
      · cases ho
        refine ⟨47, by decide, ?_⟩
        have c_11 : a = 1 := w_ofInt (by simpa using hj)
        refine G.aload_n C 0 dX5_price_47 rfl rfl ?_
        refine G.aload_n C 0 dX5_price_48 rfl rfl ?_
        refine G.get (g := 0) (i := 0) C 2 none dX5_price_49 (by decide) rfl rfl uX_X5 (by decide) uf_RX5_25 rfl rfl ?_
        refine G.iload_n C 2 dX5_price_52 rfl rfl ?_
        have hin_53 : vp_in b 20 := by
          exact vp_ofc b_2 hl hl20 (by decide)
        refine G.aald (g := 3) (i := 0) (n := 20) (f := fun q => w.2.2.2.1 14 q) C 1 dX5_price_53 (by decide) rfl rfl rfl hin_53 ?_
        have hM_2 := ok_X5_colouredPrice hw σ b.toNatClampNeg (vp_lt hin_53) hn h6
        refine G.callV C (g := 0) (i := 0) none hM_2 dX5_price_54 (by decide) rfl rfl rfl uv_X5_colouredPrice ul_RX5_163 rfl rfl (by decide) (Nat.le_of_ble_eq_true rfl) (fun r_54 τ_54 h_54 => ?_)
        obtain ⟨h_54, e_54⟩ := h_54; subst h_54
        subst hQ
        exact G.iret C hr dX5_price_57 (by
            subst c_11
            exact Or.inr (Or.inr (Or.inl ⟨⟨b_2, by decide, by decide⟩, rfl, rfl, e_54⟩)))
      · cases ho
        refine ⟨58, by decide, ?_⟩
        have c_11 : a = 2 := w_ofInt (by simpa using hj)
        refine G.aload_n C 0 dX5_price_58 rfl rfl ?_
        refine G.aload_n C 0 dX5_price_59 rfl rfl ?_
        refine G.get (g := 0) (i := 0) C 2 none dX5_price_60 (by decide) rfl rfl uX_X5 (by decide) uf_RX5_25 rfl rfl ?_
        refine G.iload_n C 2 dX5_price_63 rfl rfl ?_
        have hin_64 : vp_in b 20 := by
          exact vp_ofc b_2 hl hl20 (by decide)
        refine G.aald (g := 3) (i := 0) (n := 20) (f := fun q => w.2.2.2.1 14 q) C 1 dX5_price_64 (by decide) rfl rfl rfl hin_64 ?_
        have hM_3 := ok_X5_wormPrice hw σ b.toNatClampNeg (vp_lt hin_64) hn h6
        refine G.callV C (g := 0) (i := 0) none hM_3 dX5_price_65 (by decide) rfl rfl rfl uv_X5_wormPrice ul_RX5_166 rfl rfl (by decide) (Nat.le_of_ble_eq_true rfl) (fun r_65 τ_65 h_65 => ?_)
        obtain ⟨h_65, e_65⟩ := h_65; subst h_65
        subst hQ
        exact G.iret C hr dX5_price_68 (by
            subst c_11
            exact Or.inr (Or.inr (Or.inr ⟨⟨b_2, by decide, by decide⟩, rfl, rfl, e_65⟩)))
    · refine ⟨69, by decide, ?_⟩
      have c_11 := hj
      refine G.iconst (v := -1) C dX5_price_69 (by decide) ?_
      subst hQ
      exact G.iret C hr dX5_price_70 (by
          refine Or.inl ⟨fun q => ?_, rfl, rfl⟩
          exact w_out (k := 2) c_11 q.2.1 q.2.2)
  · have b_2 := wb_0 e_2 c_5
    refine G.iconst (v := -1) C dX5_price_8 (by decide) ?_
    subst hQ
    exact G.iret C hr dX5_price_9 (by
        refine Or.inl ⟨fun q => ?_, rfl, rfl⟩
        first | exact b_2 q.1)
set_option maxHeartbeats 4000000 in
set_option maxRecDepth 100000 in
theorem ok_X5_map {w : wD} (hw : wOK w) (σ : wSt) (a b : Int32) {c : Nat} (hc : σ.1 2 0 4 = nI c) (hc8 : c ≤ 8) : MI w yX5_map cX5_map 3 (some .int) 1 22 [.ref (w.2.2.2.1 0 0), .int a, .int b] σ (fun r τ => (¬ (okY a ∧ rng12 b) ∧ σ = τ ∧ r = -1) ∨ ((okY a ∧ rng12 b) ∧ ((8 ≤ c ∧ σ = τ ∧ r = -3) ∨ (c < 8 ∧ wUp (wUp (wUp σ 12 0 c a) 13 0 c b) 2 0 4 (nI (c + 1)) = τ ∧ r = nI c)))) := by
  refine MI.of hw (by decide +kernel) (Nat.le_of_ble_eq_true rfl) (fun x C hr => ?_)
  suffices key : ∀ Q, Q = QI w x (fun r τ => (¬ (okY a ∧ rng12 b) ∧ σ = τ ∧ r = -1) ∨ ((okY a ∧ rng12 b) ∧ ((8 ≤ c ∧ σ = τ ∧ r = -3) ∨ (c < 8 ∧ wUp (wUp (wUp σ 12 0 c a) 13 0 c b) 2 0 4 (nI (c + 1)) = τ ∧ r = nI c)))) → G w x 3 Q 0 [(0, .ref (w.2.2.2.1 0 0)), (1, .int a), (2, .int b)] [] σ from key _ rfl
  intro Q hQ
  refine G.iload_n C 1 dX5_map_0 rfl rfl ?_
  have hM_0 := ok_X5_isYear hw σ a
  refine G.callS C none hM_0 dX5_map_1 us_X5_isYear ul_RX5_136 rfl rfl (by decide) (Nat.le_of_ble_eq_true rfl) (fun r_1 τ_1 h_1 => ?_)
  obtain ⟨h_1, e_1⟩ := h_1; subst h_1
  refine G.if_eq (tgt := 14) C dX5_map_4 (by decide) (fun c_4 => ?_) (fun c_4 => ?_)
  · have b_1 := wb_0 e_1 c_4
    refine G.iconst (v := -1) C dX5_map_14 (by decide) ?_
    subst hQ
    exact G.iret C hr dX5_map_15 (by
        refine Or.inl ⟨fun q => ?_, rfl, rfl⟩
        first | exact b_1 q.1 | exact b_8 q.2)
  · have b_1 := wb_1 e_1 c_4
    refine G.iload_n C 2 dX5_map_7 rfl rfl ?_
    have hM_1 := ok_X5_areLines hw σ b
    refine G.callS C none hM_1 dX5_map_8 us_X5_areLines ul_RX5_55 rfl rfl (by decide) (Nat.le_of_ble_eq_true rfl) (fun r_8 τ_8 h_8 => ?_)
    obtain ⟨h_8, e_8⟩ := h_8; subst h_8
    refine G.if_ne (tgt := 16) C dX5_map_11 (by decide) (fun c_11 => ?_) (fun c_11 => ?_)
    · have b_8 := wb_1 e_8 c_11
      refine G.aload_n C 0 dX5_map_16 rfl rfl ?_
      refine G.get (g := 0) (i := 0) C 1 none dX5_map_17 (by decide) rfl rfl uX_X5 (by decide) uf_RX5_19 rfl rfl ?_
      refine G.iload_n C 1 dX5_map_20 rfl rfl ?_
      refine G.iload_n C 2 dX5_map_21 rfl rfl ?_
      have hM_2 := ok_X0_addMap hw σ a b hc hc8
      refine G.callV C (g := 2) (i := 0) (some "PlateRoom") hM_2 dX5_map_22 (by decide) rfl rfl rfl uv_X0_addMap unm_RX5_169 rfl rfl (by decide) (Nat.le_of_ble_eq_true rfl) (fun r_22 τ_22 h_22 => ?_)
      subst hQ
      exact G.iret C hr dX5_map_25 (by
          exact Or.inr ⟨⟨b_1, b_8⟩, h_22⟩)
    · have b_8 := wb_0 e_8 c_11
      refine G.iconst (v := -1) C dX5_map_14 (by decide) ?_
      subst hQ
      exact G.iret C hr dX5_map_15 (by
          refine Or.inl ⟨fun q => ?_, rfl, rfl⟩
          first | exact b_1 q.1 | exact b_8 q.2)
set_option maxHeartbeats 4000000 in
set_option maxRecDepth 100000 in
theorem ok_X5_cost {w : wD} (hw : wOK w) (σ : wSt) (a b : Int32) {c : Nat} (hc : σ.1 2 0 4 = nI c) (hc8 : c ≤ 8) (hE : ∀ k, k < c → rng12 (σ.1 13 0 k)) : MI w yX5_cost cX5_cost 3 (some .int) 2 45 [.ref (w.2.2.2.1 0 0), .int a, .int b] σ (fun r τ => σ = τ ∧ ((¬ mayU (σ.1 12 0) (σ.1 2 0 4) a b ∧ r = -1) ∨ (mayU (σ.1 12 0) (σ.1 2 0 4) a b ∧ r = costU (σ.1 13 0) (σ.1 2 0 0) (σ.1 2 0 1) (σ.1 2 0 4) a b))) := by
  refine MI.of hw (by decide +kernel) (Nat.le_of_ble_eq_true rfl) (fun x C hr => ?_)
  suffices key : ∀ Q, Q = QI w x (fun r τ => σ = τ ∧ ((¬ mayU (σ.1 12 0) (σ.1 2 0 4) a b ∧ r = -1) ∨ (mayU (σ.1 12 0) (σ.1 2 0 4) a b ∧ r = costU (σ.1 13 0) (σ.1 2 0 0) (σ.1 2 0 1) (σ.1 2 0 4) a b))) → G w x 3 Q 0 [(0, .ref (w.2.2.2.1 0 0)), (1, .int a), (2, .int b)] [] σ from key _ rfl
  intro Q hQ
  refine G.aload_n C 0 dX5_cost_0 rfl rfl ?_
  refine G.get (g := 0) (i := 0) C 1 none dX5_cost_1 (by decide) rfl rfl uX_X5 (by decide) uf_RX5_19 rfl rfl ?_
  refine G.iload_n C 1 dX5_cost_4 rfl rfl ?_
  refine G.iload_n C 2 dX5_cost_5 rfl rfl ?_
  have hM_0 := ok_X0_mayComeFrom hw σ a b hc hc8
  refine G.callV C (g := 2) (i := 0) (some "PlateRoom") hM_0 dX5_cost_6 (by decide) rfl rfl rfl uv_X0_mayComeFrom unm_RX5_172 rfl rfl (by decide) (Nat.le_of_ble_eq_true rfl) (fun r_6 τ_6 h_6 => ?_)
  obtain ⟨h_6, e_6⟩ := h_6; subst h_6
  refine G.if_ne (tgt := 14) C dX5_cost_9 (by decide) (fun c_9 => ?_) (fun c_9 => ?_)
  · have b_6 := wb_1 e_6 c_9
    refine G.aload_n C 0 dX5_cost_14 rfl rfl ?_
    refine G.get (g := 0) (i := 0) C 1 none dX5_cost_15 (by decide) rfl rfl uX_X5 (by decide) uf_RX5_19 rfl rfl ?_
    refine G.iload_n C 1 dX5_cost_18 rfl rfl ?_
    refine G.iload_n C 2 dX5_cost_19 rfl rfl ?_
    have hM_1 := ok_X0_costOf hw σ a b hc hc8 hE b_6.1
    refine G.callV C (g := 2) (i := 0) (some "PlateRoom") hM_1 dX5_cost_20 (by decide) rfl rfl rfl uv_X0_costOf unm_RX5_175 rfl rfl (by decide) (Nat.le_of_ble_eq_true rfl) (fun r_20 τ_20 h_20 => ?_)
    obtain ⟨h_20, e_20⟩ := h_20; subst h_20
    subst hQ
    exact G.iret C hr dX5_cost_23 (by
        exact ⟨rfl, Or.inr ⟨b_6, e_20⟩⟩)
  · have b_6 := wb_0 e_6 c_9
    refine G.iconst (v := -1) C dX5_cost_12 (by decide) ?_
    subst hQ
    exact G.iret C hr dX5_cost_13 (by
        refine ⟨rfl, Or.inl ⟨fun q => ?_, rfl⟩⟩
        first | exact b_6 q)
set_option maxHeartbeats 4000000 in
set_option maxRecDepth 100000 in
theorem ok_X5_from {w : wD} (hw : wOK w) (σ : wSt) (a : Int32) {c : Nat} (hc : σ.1 2 0 4 = nI c) (hc8 : c ≤ 8) (hE : ∀ k, k < c → rng12 (σ.1 13 0 k)) : MI w yX5_from cX5_from 2 (some .int) 3 69 [.ref (w.2.2.2.1 0 0), .int a] σ (fun r τ => σ = τ ∧ ((¬ inN (σ.1 2 0 4) a ∧ r = -2) ∨ (inN (σ.1 2 0 4) a ∧ r = fromU (σ.1 12 0) (costU (σ.1 13 0) (σ.1 2 0 0) (σ.1 2 0 1) (σ.1 2 0 4) a) a.toNatClampNeg c))) := by
  refine MI.of hw (by decide +kernel) (Nat.le_of_ble_eq_true rfl) (fun x C hr => ?_)
  suffices key : ∀ Q, Q = QI w x (fun r τ => σ = τ ∧ ((¬ inN (σ.1 2 0 4) a ∧ r = -2) ∨ (inN (σ.1 2 0 4) a ∧ r = fromU (σ.1 12 0) (costU (σ.1 13 0) (σ.1 2 0 0) (σ.1 2 0 1) (σ.1 2 0 4) a) a.toNatClampNeg c))) → G w x 2 Q 0 [(0, .ref (w.2.2.2.1 0 0)), (1, .int a)] [] σ from key _ rfl
  intro Q hQ
  refine G.aload_n C 0 dX5_from_0 rfl rfl ?_
  refine G.get (g := 0) (i := 0) C 1 none dX5_from_1 (by decide) rfl rfl uX_X5 (by decide) uf_RX5_19 rfl rfl ?_
  refine G.iload_n C 1 dX5_from_4 rfl rfl ?_
  have hM_0 := ok_X0_hasMap hw σ a
  refine G.callV C (g := 2) (i := 0) (some "PlateRoom") hM_0 dX5_from_5 (by decide) rfl rfl rfl uv_X0_hasMap unm_RX5_178 rfl rfl (by decide) (Nat.le_of_ble_eq_true rfl) (fun r_5 τ_5 h_5 => ?_)
  obtain ⟨h_5, e_5⟩ := h_5; subst h_5
  refine G.if_ne (tgt := 14) C dX5_from_8 (by decide) (fun c_8 => ?_) (fun c_8 => ?_)
  · have b_5 := wb_1 e_5 c_8
    refine G.aload_n C 0 dX5_from_14 rfl rfl ?_
    refine G.get (g := 0) (i := 0) C 1 none dX5_from_15 (by decide) rfl rfl uX_X5 (by decide) uf_RX5_19 rfl rfl ?_
    refine G.iload_n C 1 dX5_from_18 rfl rfl ?_
    have hM_1 := ok_X0_cheapest hw σ a hc hc8 hE b_5
    refine G.callV C (g := 2) (i := 0) (some "PlateRoom") hM_1 dX5_from_19 (by decide) rfl rfl rfl uv_X0_cheapest unm_RX5_181 rfl rfl (by decide) (Nat.le_of_ble_eq_true rfl) (fun r_19 τ_19 h_19 => ?_)
    obtain ⟨h_19, e_19⟩ := h_19; subst h_19
    subst hQ
    exact G.iret C hr dX5_from_22 (by
        exact ⟨rfl, Or.inr ⟨b_5, e_19⟩⟩)
  · have b_5 := wb_0 e_5 c_8
    refine G.bipush (v := -2) C dX5_from_11 (by decide) ?_
    subst hQ
    exact G.iret C hr dX5_from_13 (by
        refine ⟨rfl, Or.inl ⟨fun q => ?_, rfl⟩⟩
        first | exact b_5 q)
set_option maxHeartbeats 4000000 in
set_option maxRecDepth 100000 in
theorem ok_X5_rivals {w : wD} (hw : wOK w) (σ : wSt) (a : Int32) {c : Nat} (hc : σ.1 2 0 4 = nI c) (hc8 : c ≤ 8) (hE : ∀ k, k < c → rng12 (σ.1 13 0 k)) : MI w yX5_rivals cX5_rivals 2 (some .int) 4 94 [.ref (w.2.2.2.1 0 0), .int a] σ (fun r τ => σ = τ ∧ ((¬ inN (σ.1 2 0 4) a ∧ r = -1) ∨ (inN (σ.1 2 0 4) a ∧ r = rivU (σ.1 12 0) (costU (σ.1 13 0) (σ.1 2 0 0) (σ.1 2 0 1) (σ.1 2 0 4) a) a.toNatClampNeg (fromU (σ.1 12 0) (costU (σ.1 13 0) (σ.1 2 0 0) (σ.1 2 0 1) (σ.1 2 0 4) a) a.toNatClampNeg c) (costU (σ.1 13 0) (σ.1 2 0 0) (σ.1 2 0 1) (σ.1 2 0 4) a (fromU (σ.1 12 0) (costU (σ.1 13 0) (σ.1 2 0 0) (σ.1 2 0 1) (σ.1 2 0 4) a) a.toNatClampNeg c)) c))) := by
  refine MI.of hw (by decide +kernel) (Nat.le_of_ble_eq_true rfl) (fun x C hr => ?_)
  suffices key : ∀ Q, Q = QI w x (fun r τ => σ = τ ∧ ((¬ inN (σ.1 2 0 4) a ∧ r = -1) ∨ (inN (σ.1 2 0 4) a ∧ r = rivU (σ.1 12 0) (costU (σ.1 13 0) (σ.1 2 0 0) (σ.1 2 0 1) (σ.1 2 0 4) a) a.toNatClampNeg (fromU (σ.1 12 0) (costU (σ.1 13 0) (σ.1 2 0 0) (σ.1 2 0 1) (σ.1 2 0 4) a) a.toNatClampNeg c) (costU (σ.1 13 0) (σ.1 2 0 0) (σ.1 2 0 1) (σ.1 2 0 4) a (fromU (σ.1 12 0) (costU (σ.1 13 0) (σ.1 2 0 0) (σ.1 2 0 1) (σ.1 2 0 4) a) a.toNatClampNeg c)) c))) → G w x 2 Q 0 [(0, .ref (w.2.2.2.1 0 0)), (1, .int a)] [] σ from key _ rfl
  intro Q hQ
  refine G.aload_n C 0 dX5_rivals_0 rfl rfl ?_
  refine G.get (g := 0) (i := 0) C 1 none dX5_rivals_1 (by decide) rfl rfl uX_X5 (by decide) uf_RX5_19 rfl rfl ?_
  refine G.iload_n C 1 dX5_rivals_4 rfl rfl ?_
  have hM_0 := ok_X0_hasMap hw σ a
  refine G.callV C (g := 2) (i := 0) (some "PlateRoom") hM_0 dX5_rivals_5 (by decide) rfl rfl rfl uv_X0_hasMap unm_RX5_178 rfl rfl (by decide) (Nat.le_of_ble_eq_true rfl) (fun r_5 τ_5 h_5 => ?_)
  obtain ⟨h_5, e_5⟩ := h_5; subst h_5
  refine G.if_ne (tgt := 13) C dX5_rivals_8 (by decide) (fun c_8 => ?_) (fun c_8 => ?_)
  · have b_5 := wb_1 e_5 c_8
    refine G.aload_n C 0 dX5_rivals_13 rfl rfl ?_
    refine G.get (g := 0) (i := 0) C 1 none dX5_rivals_14 (by decide) rfl rfl uX_X5 (by decide) uf_RX5_19 rfl rfl ?_
    refine G.iload_n C 1 dX5_rivals_17 rfl rfl ?_
    have hM_1 := ok_X0_rivalCount hw σ a hc hc8 hE b_5
    refine G.callV C (g := 2) (i := 0) (some "PlateRoom") hM_1 dX5_rivals_18 (by decide) rfl rfl rfl uv_X0_rivalCount unm_RX5_184 rfl rfl (by decide) (Nat.le_of_ble_eq_true rfl) (fun r_18 τ_18 h_18 => ?_)
    obtain ⟨h_18, e_18⟩ := h_18; subst h_18
    subst hQ
    exact G.iret C hr dX5_rivals_21 (by
        exact ⟨rfl, Or.inr ⟨b_5, e_18⟩⟩)
  · have b_5 := wb_0 e_5 c_8
    refine G.iconst (v := -1) C dX5_rivals_11 (by decide) ?_
    subst hQ
    exact G.iret C hr dX5_rivals_12 (by
        refine ⟨rfl, Or.inl ⟨fun q => ?_, rfl⟩⟩
        first | exact b_5 q)
set_option maxHeartbeats 4000000 in
set_option maxRecDepth 100000 in
theorem ok_X5_life {w : wD} (hw : wOK w) (σ : wSt) (a b : Int32) {c : Nat} (hc : σ.1 2 0 4 = nI c) (hc8 : c ≤ 8) (hE : ∀ k, k < c → rng12 (σ.1 13 0 k)) : MI w yX5_life cX5_life 3 (some .int) 5 118 [.ref (w.2.2.2.1 0 0), .int a, .int b] σ (fun r τ => σ = τ ∧ ((¬ ((0 ≤ b ∧ b < 12) ∧ inN (σ.1 2 0 4) a ∧ (σ.1 13 0 a.toNatClampNeg >>> (b &&& 31)) &&& 1 = 1) ∧ r = -1) ∨ (((0 ≤ b ∧ b < 12) ∧ inN (σ.1 2 0 4) a ∧ (σ.1 13 0 a.toNatClampNeg >>> (b &&& 31)) &&& 1 = 1) ∧ r = lifeU (fun q => chU (σ.1 13 0) (fun q => fromU (σ.1 12 0) (costU (σ.1 13 0) (σ.1 2 0 0) (σ.1 2 0 1) (σ.1 2 0 4) q) q.toNatClampNeg c) (σ.1 2 0 4) a b 8 q) c))) := by
  refine MI.of hw (by decide +kernel) (Nat.le_of_ble_eq_true rfl) (fun x C hr => ?_)
  suffices key : ∀ Q, Q = QI w x (fun r τ => σ = τ ∧ ((¬ ((0 ≤ b ∧ b < 12) ∧ inN (σ.1 2 0 4) a ∧ (σ.1 13 0 a.toNatClampNeg >>> (b &&& 31)) &&& 1 = 1) ∧ r = -1) ∨ (((0 ≤ b ∧ b < 12) ∧ inN (σ.1 2 0 4) a ∧ (σ.1 13 0 a.toNatClampNeg >>> (b &&& 31)) &&& 1 = 1) ∧ r = lifeU (fun q => chU (σ.1 13 0) (fun q => fromU (σ.1 12 0) (costU (σ.1 13 0) (σ.1 2 0 0) (σ.1 2 0 1) (σ.1 2 0 4) q) q.toNatClampNeg c) (σ.1 2 0 4) a b 8 q) c))) → G w x 3 Q 0 [(0, .ref (w.2.2.2.1 0 0)), (1, .int a), (2, .int b)] [] σ from key _ rfl
  intro Q hQ
  refine G.iload_n C 2 dX5_life_0 rfl rfl ?_
  have hM_0 := ok_X5_isLine hw σ b
  refine G.callS C none hM_0 dX5_life_1 us_X5_isLine ul_RX5_114 rfl rfl (by decide) (Nat.le_of_ble_eq_true rfl) (fun r_1 τ_1 h_1 => ?_)
  obtain ⟨h_1, e_1⟩ := h_1; subst h_1
  refine G.if_eq (tgt := 34) C dX5_life_4 (by decide) (fun c_4 => ?_) (fun c_4 => ?_)
  · have b_1 := wb_0 e_1 c_4
    refine G.iconst (v := -1) C dX5_life_34 (by decide) ?_
    subst hQ
    exact G.iret C hr dX5_life_35 (by
        refine ⟨rfl, Or.inl ⟨fun q => ?_, rfl⟩⟩
        first | exact b_1 q.1 | exact b_12 q.2.1 | exact b_28 q.2.2)
  · have b_1 := wb_1 e_1 c_4
    refine G.aload_n C 0 dX5_life_7 rfl rfl ?_
    refine G.get (g := 0) (i := 0) C 1 none dX5_life_8 (by decide) rfl rfl uX_X5 (by decide) uf_RX5_19 rfl rfl ?_
    refine G.iload_n C 1 dX5_life_11 rfl rfl ?_
    have hM_1 := ok_X0_hasMap hw σ a
    refine G.callV C (g := 2) (i := 0) (some "PlateRoom") hM_1 dX5_life_12 (by decide) rfl rfl rfl uv_X0_hasMap unm_RX5_178 rfl rfl (by decide) (Nat.le_of_ble_eq_true rfl) (fun r_12 τ_12 h_12 => ?_)
    obtain ⟨h_12, e_12⟩ := h_12; subst h_12
    refine G.if_eq (tgt := 34) C dX5_life_15 (by decide) (fun c_15 => ?_) (fun c_15 => ?_)
    · have b_12 := wb_0 e_12 c_15
      refine G.iconst (v := -1) C dX5_life_34 (by decide) ?_
      subst hQ
      exact G.iret C hr dX5_life_35 (by
          refine ⟨rfl, Or.inl ⟨fun q => ?_, rfl⟩⟩
          first | exact b_1 q.1 | exact b_12 q.2.1 | exact b_28 q.2.2)
    · have b_12 := wb_1 e_12 c_15
      refine G.aload_n C 0 dX5_life_18 rfl rfl ?_
      refine G.get (g := 0) (i := 0) C 1 none dX5_life_19 (by decide) rfl rfl uX_X5 (by decide) uf_RX5_19 rfl rfl ?_
      refine G.get (g := 2) (i := 0) C 3 (some "PlateRoom") dX5_life_22 (by decide) rfl rfl uX_X0 (by decide) unf_RX5_187 rfl rfl ?_
      refine G.iload_n C 1 dX5_life_25 rfl rfl ?_
      have hin_26 : vp_in a 8 := by
        exact vp_ofc b_12 hc hc8 (by decide)
      refine G.iald (g := 13) (i := 0) (n := 8) C dX5_life_26 (by decide) rfl hin_26 ?_
      refine G.iload_n C 2 dX5_life_27 rfl rfl ?_
      have hM_2 := ok_X5_has hw σ (σ.1 13 0 a.toNatClampNeg) b
      refine G.callS C none hM_2 dX5_life_28 us_X5_has ul_RX5_157 rfl rfl (by decide) (Nat.le_of_ble_eq_true rfl) (fun r_28 τ_28 h_28 => ?_)
      obtain ⟨h_28, e_28⟩ := h_28; subst h_28
      refine G.if_ne (tgt := 36) C dX5_life_31 (by decide) (fun c_31 => ?_) (fun c_31 => ?_)
      · have b_28 := wb_1 e_28 c_31
        refine G.aload_n C 0 dX5_life_36 rfl rfl ?_
        refine G.get (g := 0) (i := 0) C 1 none dX5_life_37 (by decide) rfl rfl uX_X5 (by decide) uf_RX5_19 rfl rfl ?_
        refine G.iload_n C 1 dX5_life_40 rfl rfl ?_
        refine G.iload_n C 2 dX5_life_41 rfl rfl ?_
        have hM_3 := ok_X0_lifeOf hw σ a b hc hc8 hE
        refine G.callV C (g := 2) (i := 0) (some "PlateRoom") hM_3 dX5_life_42 (by decide) rfl rfl rfl uv_X0_lifeOf unm_RX5_190 rfl rfl (by decide) (Nat.le_of_ble_eq_true rfl) (fun r_42 τ_42 h_42 => ?_)
        obtain ⟨h_42, e_42⟩ := h_42; subst h_42
        subst hQ
        exact G.iret C hr dX5_life_45 (by
            exact ⟨rfl, Or.inr ⟨⟨b_1, b_12, b_28⟩, e_42⟩⟩)
      · have b_28 := wb_0 e_28 c_31
        refine G.iconst (v := -1) C dX5_life_34 (by decide) ?_
        subst hQ
        exact G.iret C hr dX5_life_35 (by
            refine ⟨rfl, Or.inl ⟨fun q => ?_, rfl⟩⟩
            first | exact b_1 q.1 | exact b_12 q.2.1 | exact b_28 q.2.2)
set_option maxHeartbeats 4000000 in
set_option maxRecDepth 100000 in
theorem ok_X5_hole {w : wD} (hw : wOK w) (σ : wSt) (a b c : Int32) {l : Nat} (hl : σ.1 0 0 3 = nI l) (hl20 : l ≤ 20) {nh nb : Nat → Nat} (hH : ∀ i, i < 20 → σ.1 15 i 1 = nI (nh i) ∧ nh i ≤ 6) (hB : ∀ j, j < 4 → σ.1 18 j 1 = nI (nb j) ∧ nb j ≤ 6) : MI w yX5_hole cX5_hole 4 (some .int) 3 65 [.ref (w.2.2.2.1 0 0), .int a, .int b, .int c] σ (fun r τ => (¬ (((0 ≤ c ∧ c < 100) ∧ a = 0 ∧ inN (σ.1 0 0 3) b) ∨ ((0 ≤ c ∧ c < 100) ∧ a = 1 ∧ 0 ≤ b ∧ b < 4)) ∧ σ = τ ∧ r = -1) ∨ (((0 ≤ c ∧ c < 100) ∧ a = 0 ∧ inN (σ.1 0 0 3) b) ∧ ((nearB (σ.1 16 b.toNatClampNeg) c 0 (nh b.toNatClampNeg) = true ∧ σ = τ ∧ r = nI (nh b.toNatClampNeg)) ∨ (nearB (σ.1 16 b.toNatClampNeg) c 0 (nh b.toNatClampNeg) = false ∧ 6 ≤ (nh b.toNatClampNeg) ∧ σ = τ ∧ r = -3) ∨ (nearB (σ.1 16 b.toNatClampNeg) c 0 (nh b.toNatClampNeg) = false ∧ (nh b.toNatClampNeg) < 6 ∧ wUp (wUp σ 16 b.toNatClampNeg (nh b.toNatClampNeg) c) 15 b.toNatClampNeg 1 (nI ((nh b.toNatClampNeg) + 1)) = τ ∧ r = nI ((nh b.toNatClampNeg) + 1)))) ∨ (((0 ≤ c ∧ c < 100) ∧ a = 1 ∧ 0 ≤ b ∧ b < 4) ∧ ((nearB (σ.1 19 b.toNatClampNeg) c 0 (nb b.toNatClampNeg) = true ∧ σ = τ ∧ r = nI (nb b.toNatClampNeg)) ∨ (nearB (σ.1 19 b.toNatClampNeg) c 0 (nb b.toNatClampNeg) = false ∧ 6 ≤ (nb b.toNatClampNeg) ∧ σ = τ ∧ r = -3) ∨ (nearB (σ.1 19 b.toNatClampNeg) c 0 (nb b.toNatClampNeg) = false ∧ (nb b.toNatClampNeg) < 6 ∧ wUp (wUp σ 19 b.toNatClampNeg (nb b.toNatClampNeg) c) 18 b.toNatClampNeg 1 (nI ((nb b.toNatClampNeg) + 1)) = τ ∧ r = nI ((nb b.toNatClampNeg) + 1))))) := by
  refine MI.of hw (by decide +kernel) (Nat.le_of_ble_eq_true rfl) (fun x C hr => ?_)
  suffices key : ∀ Q, Q = QI w x (fun r τ => (¬ (((0 ≤ c ∧ c < 100) ∧ a = 0 ∧ inN (σ.1 0 0 3) b) ∨ ((0 ≤ c ∧ c < 100) ∧ a = 1 ∧ 0 ≤ b ∧ b < 4)) ∧ σ = τ ∧ r = -1) ∨ (((0 ≤ c ∧ c < 100) ∧ a = 0 ∧ inN (σ.1 0 0 3) b) ∧ ((nearB (σ.1 16 b.toNatClampNeg) c 0 (nh b.toNatClampNeg) = true ∧ σ = τ ∧ r = nI (nh b.toNatClampNeg)) ∨ (nearB (σ.1 16 b.toNatClampNeg) c 0 (nh b.toNatClampNeg) = false ∧ 6 ≤ (nh b.toNatClampNeg) ∧ σ = τ ∧ r = -3) ∨ (nearB (σ.1 16 b.toNatClampNeg) c 0 (nh b.toNatClampNeg) = false ∧ (nh b.toNatClampNeg) < 6 ∧ wUp (wUp σ 16 b.toNatClampNeg (nh b.toNatClampNeg) c) 15 b.toNatClampNeg 1 (nI ((nh b.toNatClampNeg) + 1)) = τ ∧ r = nI ((nh b.toNatClampNeg) + 1)))) ∨ (((0 ≤ c ∧ c < 100) ∧ a = 1 ∧ 0 ≤ b ∧ b < 4) ∧ ((nearB (σ.1 19 b.toNatClampNeg) c 0 (nb b.toNatClampNeg) = true ∧ σ = τ ∧ r = nI (nb b.toNatClampNeg)) ∨ (nearB (σ.1 19 b.toNatClampNeg) c 0 (nb b.toNatClampNeg) = false ∧ 6 ≤ (nb b.toNatClampNeg) ∧ σ = τ ∧ r = -3) ∨ (nearB (σ.1 19 b.toNatClampNeg) c 0 (nb b.toNatClampNeg) = false ∧ (nb b.toNatClampNeg) < 6 ∧ wUp (wUp σ 19 b.toNatClampNeg (nb b.toNatClampNeg) c) 18 b.toNatClampNeg 1 (nI ((nb b.toNatClampNeg) + 1)) = τ ∧ r = nI ((nb b.toNatClampNeg) + 1))))) → G w x 4 Q 0 [(0, .ref (w.2.2.2.1 0 0)), (1, .int a), (2, .int b), (3, .int c)] [] σ from key _ rfl
  intro Q hQ
  refine G.iload_n C 3 dX5_hole_0 rfl rfl ?_
  have hM_0 := ok_X1_isPlace hw σ c
  refine G.callS C (some "PlateRoom") hM_0 dX5_hole_1 us_X1_isPlace unm_RX5_193 rfl rfl (by decide) (Nat.le_of_ble_eq_true rfl) (fun r_1 τ_1 h_1 => ?_)
  obtain ⟨h_1, e_1⟩ := h_1; subst h_1
  refine G.if_ne (tgt := 9) C dX5_hole_4 (by decide) (fun c_4 => ?_) (fun c_4 => ?_)
  · have b_1 := wb_1 e_1 c_4
    refine G.iload_n C 1 dX5_hole_9 rfl rfl ?_
    refine G.if_ne (tgt := 35) C dX5_hole_10 (by decide) (fun c_10 => ?_) (fun c_10 => ?_)
    · refine G.iload_n C 1 dX5_hole_35 rfl rfl ?_
      refine G.iconst (v := 1) C dX5_hole_36 (by decide) ?_
      refine G.icmp_ne (tgt := 58) C dX5_hole_37 (by decide) (fun c_37 => ?_) (fun c_37 => ?_)
      · refine G.iconst (v := -1) C dX5_hole_58 (by decide) ?_
        subst hQ
        exact G.iret C hr dX5_hole_59 (by
            refine Or.inl ⟨fun q => ?_, rfl, rfl⟩
            first | exact q.elim (fun q => c_10 q.2.1) (fun q => c_37 q.2.1) | exact q.elim (fun q => c_10 q.2.1) (fun q => b_41 q.2.2) | exact q.elim (fun q => b_15 q.2.2) (fun q => c_37 q.2.1) | exact q.elim (fun q => b_15 q.2.2) (fun q => b_41 q.2.2))
      · refine G.iload_n C 2 dX5_hole_40 rfl rfl ?_
        have hM_1 := ok_X5_isBook hw σ b
        refine G.callS C none hM_1 dX5_hole_41 us_X5_isBook ul_RX5_203 rfl rfl (by decide) (Nat.le_of_ble_eq_true rfl) (fun r_41 τ_41 h_41 => ?_)
        obtain ⟨h_41, e_41⟩ := h_41; subst h_41
        refine G.if_eq (tgt := 58) C dX5_hole_44 (by decide) (fun c_44 => ?_) (fun c_44 => ?_)
        · have b_41 := wb_0 e_41 c_44
          refine G.iconst (v := -1) C dX5_hole_58 (by decide) ?_
          subst hQ
          exact G.iret C hr dX5_hole_59 (by
              refine Or.inl ⟨fun q => ?_, rfl, rfl⟩
              first | exact q.elim (fun q => c_10 q.2.1) (fun q => c_37 q.2.1) | exact q.elim (fun q => c_10 q.2.1) (fun q => b_41 q.2.2) | exact q.elim (fun q => b_15 q.2.2) (fun q => c_37 q.2.1) | exact q.elim (fun q => b_15 q.2.2) (fun q => b_41 q.2.2))
        · have b_41 := wb_1 e_41 c_44
          refine G.aload_n C 0 dX5_hole_47 rfl rfl ?_
          refine G.get (g := 0) (i := 0) C 6 none dX5_hole_48 (by decide) rfl rfl uX_X5 (by decide) uf_RX5_44 rfl rfl ?_
          refine G.iload_n C 2 dX5_hole_51 rfl rfl ?_
          have hin_52 : vp_in b 4 := by
            exact vp_ofc (c := 4) (l := 4) b_41 rfl (by decide) (by decide)
          refine G.aald (g := 5) (i := 0) (n := 4) (f := fun q => w.2.2.2.1 18 q) C 3 dX5_hole_52 (by decide) rfl rfl rfl hin_52 ?_
          refine G.iload_n C 3 dX5_hole_53 rfl rfl ?_
          have hM_2 := ok_X1_bore_18 hw σ b.toNatClampNeg c (vp_lt hin_52) ((hB _ (vp_ofl b_41 (by decide))).1) ((hB _ (vp_ofl b_41 (by decide))).2)
          refine G.callV C (g := 18) (i := b.toNatClampNeg) (some "PlateRoom") hM_2 dX5_hole_54 (vp_lt hin_52) rfl rfl rfl uv_X1_bore unm_RX5_200 rfl rfl (by decide) (Nat.le_of_ble_eq_true rfl) (fun r_54 τ_54 h_54 => ?_)
          subst hQ
          exact G.iret C hr dX5_hole_57 (by
              exact Or.inr (Or.inr ⟨⟨b_1, c_37, b_41⟩, h_54⟩))
    · refine G.aload_n C 0 dX5_hole_13 rfl rfl ?_
      refine G.iload_n C 2 dX5_hole_14 rfl rfl ?_
      have hM_3 := ok_X5_isLeaf hw σ b
      refine G.callV C (g := 0) (i := 0) none hM_3 dX5_hole_15 (by decide) rfl rfl rfl uv_X5_isLeaf ul_RX5_111 rfl rfl (by decide) (Nat.le_of_ble_eq_true rfl) (fun r_15 τ_15 h_15 => ?_)
      obtain ⟨h_15, e_15⟩ := h_15; subst h_15
      refine G.if_eq (tgt := 35) C dX5_hole_18 (by decide) (fun c_18 => ?_) (fun c_18 => ?_)
      · have b_15 := wb_0 e_15 c_18
        refine G.iload_n C 1 dX5_hole_35 rfl rfl ?_
        refine G.iconst (v := 1) C dX5_hole_36 (by decide) ?_
        refine G.icmp_ne (tgt := 58) C dX5_hole_37 (by decide) (fun c_37 => ?_) (fun c_37 => ?_)
        · refine G.iconst (v := -1) C dX5_hole_58 (by decide) ?_
          subst hQ
          exact G.iret C hr dX5_hole_59 (by
              refine Or.inl ⟨fun q => ?_, rfl, rfl⟩
              first | exact q.elim (fun q => c_10 q.2.1) (fun q => c_37 q.2.1) | exact q.elim (fun q => c_10 q.2.1) (fun q => b_41 q.2.2) | exact q.elim (fun q => b_15 q.2.2) (fun q => c_37 q.2.1) | exact q.elim (fun q => b_15 q.2.2) (fun q => b_41 q.2.2))
        · refine G.iload_n C 2 dX5_hole_40 rfl rfl ?_
          have hM_4 := ok_X5_isBook hw σ b
          refine G.callS C none hM_4 dX5_hole_41 us_X5_isBook ul_RX5_203 rfl rfl (by decide) (Nat.le_of_ble_eq_true rfl) (fun r_41 τ_41 h_41 => ?_)
          obtain ⟨h_41, e_41⟩ := h_41; subst h_41
          refine G.if_eq (tgt := 58) C dX5_hole_44 (by decide) (fun c_44 => ?_) (fun c_44 => ?_)
          · have b_41 := wb_0 e_41 c_44
            refine G.iconst (v := -1) C dX5_hole_58 (by decide) ?_
            subst hQ
            exact G.iret C hr dX5_hole_59 (by
                refine Or.inl ⟨fun q => ?_, rfl, rfl⟩
                first | exact q.elim (fun q => c_10 q.2.1) (fun q => c_37 q.2.1) | exact q.elim (fun q => c_10 q.2.1) (fun q => b_41 q.2.2) | exact q.elim (fun q => b_15 q.2.2) (fun q => c_37 q.2.1) | exact q.elim (fun q => b_15 q.2.2) (fun q => b_41 q.2.2))
          · have b_41 := wb_1 e_41 c_44
            refine G.aload_n C 0 dX5_hole_47 rfl rfl ?_
            refine G.get (g := 0) (i := 0) C 6 none dX5_hole_48 (by decide) rfl rfl uX_X5 (by decide) uf_RX5_44 rfl rfl ?_
            refine G.iload_n C 2 dX5_hole_51 rfl rfl ?_
            have hin_52 : vp_in b 4 := by
              exact vp_ofc (c := 4) (l := 4) b_41 rfl (by decide) (by decide)
            refine G.aald (g := 5) (i := 0) (n := 4) (f := fun q => w.2.2.2.1 18 q) C 3 dX5_hole_52 (by decide) rfl rfl rfl hin_52 ?_
            refine G.iload_n C 3 dX5_hole_53 rfl rfl ?_
            have hM_5 := ok_X1_bore_18 hw σ b.toNatClampNeg c (vp_lt hin_52) ((hB _ (vp_ofl b_41 (by decide))).1) ((hB _ (vp_ofl b_41 (by decide))).2)
            refine G.callV C (g := 18) (i := b.toNatClampNeg) (some "PlateRoom") hM_5 dX5_hole_54 (vp_lt hin_52) rfl rfl rfl uv_X1_bore unm_RX5_200 rfl rfl (by decide) (Nat.le_of_ble_eq_true rfl) (fun r_54 τ_54 h_54 => ?_)
            subst hQ
            exact G.iret C hr dX5_hole_57 (by
                exact Or.inr (Or.inr ⟨⟨b_1, c_37, b_41⟩, h_54⟩))
      · have b_15 := wb_1 e_15 c_18
        refine G.aload_n C 0 dX5_hole_21 rfl rfl ?_
        refine G.get (g := 0) (i := 0) C 2 none dX5_hole_22 (by decide) rfl rfl uX_X5 (by decide) uf_RX5_25 rfl rfl ?_
        refine G.iload_n C 2 dX5_hole_25 rfl rfl ?_
        have hin_26 : vp_in b 20 := by
          exact vp_ofc b_15 hl hl20 (by decide)
        refine G.aald (g := 3) (i := 0) (n := 20) (f := fun q => w.2.2.2.1 14 q) C 1 dX5_hole_26 (by decide) rfl rfl rfl hin_26 ?_
        refine G.get (g := 14) (i := b.toNatClampNeg) C 6 (some "PlateRoom") dX5_hole_27 (vp_lt hin_26) rfl rfl uX_X2 (by decide) unf_RX5_196 rfl rfl ?_
        refine G.iload_n C 3 dX5_hole_30 rfl rfl ?_
        have hM_6 := ok_X1_bore_15 hw σ b.toNatClampNeg c (vp_lt hin_26) ((hH _ (vp_lt hin_26)).1) ((hH _ (vp_lt hin_26)).2)
        refine G.callV C (g := 15) (i := b.toNatClampNeg) (some "PlateRoom") hM_6 dX5_hole_31 (vp_lt hin_26) rfl rfl rfl uv_X1_bore unm_RX5_200 rfl rfl (by decide) (Nat.le_of_ble_eq_true rfl) (fun r_31 τ_31 h_31 => ?_)
        subst hQ
        exact G.iret C hr dX5_hole_34 (by
            exact Or.inr (Or.inl ⟨⟨b_1, c_10, b_15⟩, h_31⟩))
  · have b_1 := wb_0 e_1 c_4
    refine G.iconst (v := -1) C dX5_hole_7 (by decide) ?_
    subst hQ
    exact G.iret C hr dX5_hole_8 (by
        refine Or.inl ⟨fun q => ?_, rfl, rfl⟩
        first | exact q.elim (fun q => b_1 q.1) (fun q => b_1 q.1))
set_option maxHeartbeats 4000000 in
set_option maxRecDepth 100000 in
theorem ok_X5_fits {w : wD} (hw : wOK w) (σ : wSt) (a b c : Int32) {l : Nat} (hl : σ.1 0 0 3 = nI l) (hl20 : l ≤ 20) {nh nb : Nat → Nat} (hH : ∀ i, i < 20 → σ.1 15 i 1 = nI (nh i) ∧ nh i ≤ 6) (hB : ∀ j, j < 4 → σ.1 18 j 1 = nI (nb j) ∧ nb j ≤ 6) : MI w yX5_fits cX5_fits 4 (some .int) 3 68 [.ref (w.2.2.2.1 0 0), .int a, .int b, .int c] σ (fun r τ => σ = τ ∧ ((¬ (inN (σ.1 0 0 3) a ∧ (0 ≤ b ∧ b < 4) ∧ -20 ≤ c ∧ c ≤ 20) ∧ r = -1) ∨ ((inN (σ.1 0 0 3) a ∧ (0 ≤ b ∧ b < 4) ∧ -20 ≤ c ∧ c ≤ 20) ∧ r = fitU (σ.1 16 a.toNatClampNeg) (σ.1 19 b.toNatClampNeg) (nb b.toNatClampNeg) c (nh a.toNatClampNeg)))) := by
  refine MI.of hw (by decide +kernel) (Nat.le_of_ble_eq_true rfl) (fun x C hr => ?_)
  suffices key : ∀ Q, Q = QI w x (fun r τ => σ = τ ∧ ((¬ (inN (σ.1 0 0 3) a ∧ (0 ≤ b ∧ b < 4) ∧ -20 ≤ c ∧ c ≤ 20) ∧ r = -1) ∨ ((inN (σ.1 0 0 3) a ∧ (0 ≤ b ∧ b < 4) ∧ -20 ≤ c ∧ c ≤ 20) ∧ r = fitU (σ.1 16 a.toNatClampNeg) (σ.1 19 b.toNatClampNeg) (nb b.toNatClampNeg) c (nh a.toNatClampNeg)))) → G w x 4 Q 0 [(0, .ref (w.2.2.2.1 0 0)), (1, .int a), (2, .int b), (3, .int c)] [] σ from key _ rfl
  intro Q hQ
  refine G.aload_n C 0 dX5_fits_0 rfl rfl ?_
  refine G.iload_n C 1 dX5_fits_1 rfl rfl ?_
  have hM_0 := ok_X5_isLeaf hw σ a
  refine G.callV C (g := 0) (i := 0) none hM_0 dX5_fits_2 (by decide) rfl rfl rfl uv_X5_isLeaf ul_RX5_111 rfl rfl (by decide) (Nat.le_of_ble_eq_true rfl) (fun r_2 τ_2 h_2 => ?_)
  obtain ⟨h_2, e_2⟩ := h_2; subst h_2
  refine G.if_eq (tgt := 22) C dX5_fits_5 (by decide) (fun c_5 => ?_) (fun c_5 => ?_)
  · have b_2 := wb_0 e_2 c_5
    refine G.iconst (v := -1) C dX5_fits_22 (by decide) ?_
    subst hQ
    exact G.iret C hr dX5_fits_23 (by
        refine ⟨rfl, Or.inl ⟨fun q => ?_, rfl⟩⟩
        first | exact b_2 q.1 | exact b_9 q.2.1 | exact b_16 q.2.2)
  · have b_2 := wb_1 e_2 c_5
    refine G.iload_n C 2 dX5_fits_8 rfl rfl ?_
    have hM_1 := ok_X5_isBook hw σ b
    refine G.callS C none hM_1 dX5_fits_9 us_X5_isBook ul_RX5_203 rfl rfl (by decide) (Nat.le_of_ble_eq_true rfl) (fun r_9 τ_9 h_9 => ?_)
    obtain ⟨h_9, e_9⟩ := h_9; subst h_9
    refine G.if_eq (tgt := 22) C dX5_fits_12 (by decide) (fun c_12 => ?_) (fun c_12 => ?_)
    · have b_9 := wb_0 e_9 c_12
      refine G.iconst (v := -1) C dX5_fits_22 (by decide) ?_
      subst hQ
      exact G.iret C hr dX5_fits_23 (by
          refine ⟨rfl, Or.inl ⟨fun q => ?_, rfl⟩⟩
          first | exact b_2 q.1 | exact b_9 q.2.1 | exact b_16 q.2.2)
    · have b_9 := wb_1 e_9 c_12
      refine G.iload_n C 3 dX5_fits_15 rfl rfl ?_
      have hM_2 := ok_X1_isShift hw σ c
      refine G.callS C (some "PlateRoom") hM_2 dX5_fits_16 us_X1_isShift unm_RX5_206 rfl rfl (by decide) (Nat.le_of_ble_eq_true rfl) (fun r_16 τ_16 h_16 => ?_)
      obtain ⟨h_16, e_16⟩ := h_16; subst h_16
      refine G.if_ne (tgt := 24) C dX5_fits_19 (by decide) (fun c_19 => ?_) (fun c_19 => ?_)
      · have b_16 := wb_1 e_16 c_19
        refine G.aload_n C 0 dX5_fits_24 rfl rfl ?_
        refine G.get (g := 0) (i := 0) C 2 none dX5_fits_25 (by decide) rfl rfl uX_X5 (by decide) uf_RX5_25 rfl rfl ?_
        refine G.iload_n C 1 dX5_fits_28 rfl rfl ?_
        have hin_29 : vp_in a 20 := by
          exact vp_ofc b_2 hl hl20 (by decide)
        refine G.aald (g := 3) (i := 0) (n := 20) (f := fun q => w.2.2.2.1 14 q) C 1 dX5_fits_29 (by decide) rfl rfl rfl hin_29 ?_
        refine G.get (g := 14) (i := a.toNatClampNeg) C 6 (some "PlateRoom") dX5_fits_30 (vp_lt hin_29) rfl rfl uX_X2 (by decide) unf_RX5_196 rfl rfl ?_
        refine G.aload_n C 0 dX5_fits_33 rfl rfl ?_
        refine G.get (g := 0) (i := 0) C 6 none dX5_fits_34 (by decide) rfl rfl uX_X5 (by decide) uf_RX5_44 rfl rfl ?_
        refine G.iload_n C 2 dX5_fits_37 rfl rfl ?_
        have hin_38 : vp_in b 4 := by
          exact vp_ofc (c := 4) (l := 4) b_9 rfl (by decide) (by decide)
        refine G.aald (g := 5) (i := 0) (n := 4) (f := fun q => w.2.2.2.1 18 q) C 3 dX5_fits_38 (by decide) rfl rfl rfl hin_38 ?_
        refine G.iload_n C 3 dX5_fits_39 rfl rfl ?_
        have hM_3 := ok_X1_fitting hw σ a.toNatClampNeg b.toNatClampNeg c (vp_lt hin_29) (vp_lt hin_38) ((hH _ (vp_lt hin_29)).1) ((hH _ (vp_lt hin_29)).2) ((hB _ (vp_lt hin_38)).1) ((hB _ (vp_lt hin_38)).2)
        refine G.callV C (g := 15) (i := a.toNatClampNeg) (some "PlateRoom") hM_3 dX5_fits_40 (vp_lt hin_29) rfl rfl rfl uv_X1_fitting unm_RX5_209 rfl rfl (by decide) (Nat.le_of_ble_eq_true rfl) (fun r_40 τ_40 h_40 => ?_)
        obtain ⟨h_40, e_40⟩ := h_40; subst h_40
        subst hQ
        exact G.iret C hr dX5_fits_43 (by
            exact ⟨rfl, Or.inr ⟨⟨b_2, b_9, b_16⟩, e_40⟩⟩)
      · have b_16 := wb_0 e_16 c_19
        refine G.iconst (v := -1) C dX5_fits_22 (by decide) ?_
        subst hQ
        exact G.iret C hr dX5_fits_23 (by
            refine ⟨rfl, Or.inl ⟨fun q => ?_, rfl⟩⟩
            first | exact b_2 q.1 | exact b_9 q.2.1 | exact b_16 q.2.2)
set_option maxHeartbeats 4000000 in
set_option maxRecDepth 100000 in
theorem ok_X5_shift {w : wD} (hw : wOK w) (σ : wSt) (a b c : Int32) {l : Nat} (hl : σ.1 0 0 3 = nI l) (hl20 : l ≤ 20) {nh nb : Nat → Nat} (hH : ∀ i, i < 20 → σ.1 15 i 1 = nI (nh i) ∧ nh i ≤ 6) (hB : ∀ j, j < 4 → σ.1 18 j 1 = nI (nb j) ∧ nb j ≤ 6) : MI w yX5_shift cX5_shift 6 (some .int) 4 94 [.ref (w.2.2.2.1 0 0), .int a, .int b, .int c] σ (fun r τ => σ = τ ∧ ((¬ (inN (σ.1 0 0 3) a ∧ (0 ≤ b ∧ b < 4) ∧ (c = 0 ∨ c = 1)) ∧ r = -100) ∨ ((inN (σ.1 0 0 3) a ∧ (0 ≤ b ∧ b < 4) ∧ (c = 0 ∨ c = 1)) ∧ r = if c = 0 then shU (fun q => fitU (σ.1 16 a.toNatClampNeg) (σ.1 19 b.toNatClampNeg) (nb b.toNatClampNeg) q (nh a.toNatClampNeg)) 20 else mostU (fun q => fitU (σ.1 16 a.toNatClampNeg) (σ.1 19 b.toNatClampNeg) (nb b.toNatClampNeg) q (nh a.toNatClampNeg))))) := by
  refine MI.of hw (by decide +kernel) (Nat.le_of_ble_eq_true rfl) (fun x C hr => ?_)
  suffices key : ∀ Q, Q = QI w x (fun r τ => σ = τ ∧ ((¬ (inN (σ.1 0 0 3) a ∧ (0 ≤ b ∧ b < 4) ∧ (c = 0 ∨ c = 1)) ∧ r = -100) ∨ ((inN (σ.1 0 0 3) a ∧ (0 ≤ b ∧ b < 4) ∧ (c = 0 ∨ c = 1)) ∧ r = if c = 0 then shU (fun q => fitU (σ.1 16 a.toNatClampNeg) (σ.1 19 b.toNatClampNeg) (nb b.toNatClampNeg) q (nh a.toNatClampNeg)) 20 else mostU (fun q => fitU (σ.1 16 a.toNatClampNeg) (σ.1 19 b.toNatClampNeg) (nb b.toNatClampNeg) q (nh a.toNatClampNeg))))) → G w x 6 Q 0 [(0, .ref (w.2.2.2.1 0 0)), (1, .int a), (2, .int b), (3, .int c)] [] σ from key _ rfl
  intro Q hQ
  refine G.aload_n C 0 dX5_shift_0 rfl rfl ?_
  refine G.iload_n C 1 dX5_shift_1 rfl rfl ?_
  have hM_0 := ok_X5_isLeaf hw σ a
  refine G.callV C (g := 0) (i := 0) none hM_0 dX5_shift_2 (by decide) rfl rfl rfl uv_X5_isLeaf ul_RX5_111 rfl rfl (by decide) (Nat.le_of_ble_eq_true rfl) (fun r_2 τ_2 h_2 => ?_)
  obtain ⟨h_2, e_2⟩ := h_2; subst h_2
  refine G.if_eq (tgt := 22) C dX5_shift_5 (by decide) (fun c_5 => ?_) (fun c_5 => ?_)
  · have b_2 := wb_0 e_2 c_5
    refine G.bipush (v := -100) C dX5_shift_22 (by decide) ?_
    subst hQ
    exact G.iret C hr dX5_shift_24 (by
        refine ⟨rfl, Or.inl ⟨fun q => ?_, rfl⟩⟩
        first | exact b_2 q.1 | exact b_9 q.2.1 | exact b_16 q.2.2)
  · have b_2 := wb_1 e_2 c_5
    refine G.iload_n C 2 dX5_shift_8 rfl rfl ?_
    have hM_1 := ok_X5_isBook hw σ b
    refine G.callS C none hM_1 dX5_shift_9 us_X5_isBook ul_RX5_203 rfl rfl (by decide) (Nat.le_of_ble_eq_true rfl) (fun r_9 τ_9 h_9 => ?_)
    obtain ⟨h_9, e_9⟩ := h_9; subst h_9
    refine G.if_eq (tgt := 22) C dX5_shift_12 (by decide) (fun c_12 => ?_) (fun c_12 => ?_)
    · have b_9 := wb_0 e_9 c_12
      refine G.bipush (v := -100) C dX5_shift_22 (by decide) ?_
      subst hQ
      exact G.iret C hr dX5_shift_24 (by
          refine ⟨rfl, Or.inl ⟨fun q => ?_, rfl⟩⟩
          first | exact b_2 q.1 | exact b_9 q.2.1 | exact b_16 q.2.2)
    · have b_9 := wb_1 e_9 c_12
      refine G.iload_n C 3 dX5_shift_15 rfl rfl ?_
      have hM_2 := ok_X5_isFirstOrSecond hw σ c
      refine G.callS C none hM_2 dX5_shift_16 us_X5_isFirstOrSecond ul_RX5_97 rfl rfl (by decide) (Nat.le_of_ble_eq_true rfl) (fun r_16 τ_16 h_16 => ?_)
      obtain ⟨h_16, e_16⟩ := h_16; subst h_16
      refine G.if_ne (tgt := 25) C dX5_shift_19 (by decide) (fun c_19 => ?_) (fun c_19 => ?_)
      · have b_16 := wb_1 e_16 c_19
        refine G.aload_n C 0 dX5_shift_25 rfl rfl ?_
        refine G.get (g := 0) (i := 0) C 2 none dX5_shift_26 (by decide) rfl rfl uX_X5 (by decide) uf_RX5_25 rfl rfl ?_
        refine G.iload_n C 1 dX5_shift_29 rfl rfl ?_
        have hin_30 : vp_in a 20 := by
          exact vp_ofc b_2 hl hl20 (by decide)
        refine G.aald (g := 3) (i := 0) (n := 20) (f := fun q => w.2.2.2.1 14 q) C 1 dX5_shift_30 (by decide) rfl rfl rfl hin_30 ?_
        refine G.get (g := 14) (i := a.toNatClampNeg) C 6 (some "PlateRoom") dX5_shift_31 (vp_lt hin_30) rfl rfl uX_X2 (by decide) unf_RX5_196 rfl rfl ?_
        refine G.astore (L1 := [(4, .ref (w.2.2.2.1 15 a.toNatClampNeg)), (0, .ref (w.2.2.2.1 0 0)), (1, .int a), (2, .int b), (3, .int c)]) C dX5_shift_34 (by decide) rfl ?_
        refine G.aload C 0 dX5_shift_36 rfl ?_
        refine G.aload_n C 1 dX5_shift_38 rfl rfl ?_
        refine G.get (g := 0) (i := 0) C 6 none dX5_shift_39 (by decide) rfl rfl uX_X5 (by decide) uf_RX5_44 rfl rfl ?_
        refine G.iload_n C 3 dX5_shift_42 rfl rfl ?_
        have hin_43 : vp_in b 4 := by
          exact vp_ofc (c := 4) (l := 4) b_9 rfl (by decide) (by decide)
        refine G.aald (g := 5) (i := 0) (n := 4) (f := fun q => w.2.2.2.1 18 q) C 3 dX5_shift_43 (by decide) rfl rfl rfl hin_43 ?_
        have hM_3 := ok_X1_bestShift hw σ a.toNatClampNeg b.toNatClampNeg (vp_lt hin_30) (vp_lt hin_43) ((hH _ (vp_lt hin_30)).1) ((hH _ (vp_lt hin_30)).2) ((hB _ (vp_lt hin_43)).1) ((hB _ (vp_lt hin_43)).2)
        refine G.callV C (g := 15) (i := a.toNatClampNeg) (some "PlateRoom") hM_3 dX5_shift_44 (vp_lt hin_30) rfl rfl rfl uv_X1_bestShift unm_RX5_213 rfl rfl (by decide) (Nat.le_of_ble_eq_true rfl) (fun r_44 τ_44 h_44 => ?_)
        obtain ⟨h_44, e_44⟩ := h_44; subst h_44
        refine G.istore (L1 := [(5, .int r_44), (4, .ref (w.2.2.2.1 15 a.toNatClampNeg)), (0, .ref (w.2.2.2.1 0 0)), (1, .int a), (2, .int b), (3, .int c)]) C dX5_shift_47 (by decide) rfl ?_
        refine G.iload_n C 5 dX5_shift_49 rfl rfl ?_
        refine G.if_ne (tgt := 58) C dX5_shift_50 (by decide) (fun c_50 => ?_) (fun c_50 => ?_)
        · refine G.aload C 1 dX5_shift_58 rfl ?_
          refine G.aload_n C 2 dX5_shift_60 rfl rfl ?_
          refine G.get (g := 0) (i := 0) C 6 none dX5_shift_61 (by decide) rfl rfl uX_X5 (by decide) uf_RX5_44 rfl rfl ?_
          refine G.iload_n C 4 dX5_shift_64 rfl rfl ?_
          have hin_65 : vp_in b 4 := by
            exact vp_ofc (c := 4) (l := 4) b_9 rfl (by decide) (by decide)
          refine G.aald (g := 5) (i := 0) (n := 4) (f := fun q => w.2.2.2.1 18 q) C 3 dX5_shift_65 (by decide) rfl rfl rfl hin_65 ?_
          refine G.iload C 0 dX5_shift_66 rfl ?_
          have hM_4 := ok_X1_fitting hw σ a.toNatClampNeg b.toNatClampNeg r_44 (vp_lt hin_30) (vp_lt hin_65) ((hH _ (vp_lt hin_30)).1) ((hH _ (vp_lt hin_30)).2) ((hB _ (vp_lt hin_43)).1) ((hB _ (vp_lt hin_43)).2)
          refine G.callV C (g := 15) (i := a.toNatClampNeg) (some "PlateRoom") hM_4 dX5_shift_68 (vp_lt hin_30) rfl rfl rfl uv_X1_fitting unm_RX5_209 rfl rfl (by decide) (Nat.le_of_ble_eq_true rfl) (fun r_68 τ_68 h_68 => ?_)
          obtain ⟨h_68, e_68⟩ := h_68; subst h_68
          subst hQ
          exact G.iret C hr dX5_shift_71 (by
              refine ⟨rfl, Or.inr ⟨⟨b_2, b_9, b_16⟩, ?_⟩⟩
              rw [if_neg c_50, e_68, e_44]
              rfl)
        · refine G.iload C 0 dX5_shift_53 rfl ?_
          refine G.goto (tgt := 71) C dX5_shift_55 (by decide) ?_
          subst hQ
          exact G.iret C hr dX5_shift_71 (by
              refine ⟨rfl, Or.inr ⟨⟨b_2, b_9, b_16⟩, ?_⟩⟩
              rw [if_pos c_50, e_44])
      · have b_16 := wb_0 e_16 c_19
        refine G.bipush (v := -100) C dX5_shift_22 (by decide) ?_
        subst hQ
        exact G.iret C hr dX5_shift_24 (by
            refine ⟨rfl, Or.inl ⟨fun q => ?_, rfl⟩⟩
            first | exact b_2 q.1 | exact b_9 q.2.1 | exact b_16 q.2.2)
set_option maxHeartbeats 4000000 in
set_option maxRecDepth 100000 in
theorem ok_X5_homeOf {w : wD} (hw : wOK w) (σ : wSt) (a : Int32) {l : Nat} (hl : σ.1 0 0 3 = nI l) (hl20 : l ≤ 20) {nh nb : Nat → Nat} (hH : ∀ i, i < 20 → σ.1 15 i 1 = nI (nh i) ∧ nh i ≤ 6) (hB : ∀ j, j < 4 → σ.1 18 j 1 = nI (nb j) ∧ nb j ≤ 6) (hia : 0 ≤ a ∧ a < σ.1 0 0 3) : MI w yX5_homeOf cX5_homeOf 6 (some .int) 5 115 [.ref (w.2.2.2.1 0 0), .int a] σ (fun r τ => σ = τ ∧ r = (homeU (fun j => mostU (fun q => fitU (σ.1 16 a.toNatClampNeg) (σ.1 19 j) (nb j) q (nh a.toNatClampNeg))) 4).1) := by
  refine MI.of hw (by decide +kernel) (Nat.le_of_ble_eq_true rfl) (fun x C hr => ?_)
  suffices key : ∀ Q, Q = QI w x (fun r τ => σ = τ ∧ r = (homeU (fun j => mostU (fun q => fitU (σ.1 16 a.toNatClampNeg) (σ.1 19 j) (nb j) q (nh a.toNatClampNeg))) 4).1) → G w x 6 Q 0 [(0, .ref (w.2.2.2.1 0 0)), (1, .int a)] [] σ from key _ rfl
  intro Q hQ
  refine G.bipush (v := -9) C dX5_homeOf_0 (by decide) ?_
  refine G.istore_n (L1 := [(2, .int (-9)), (0, .ref (w.2.2.2.1 0 0)), (1, .int a)]) C dX5_homeOf_2 rfl (by decide) rfl ?_
  refine G.iconst (v := 1) C dX5_homeOf_3 (by decide) ?_
  refine G.istore_n (L1 := [(3, .int 1), (2, .int (-9)), (0, .ref (w.2.2.2.1 0 0)), (1, .int a)]) C dX5_homeOf_4 rfl (by decide) rfl ?_
  refine G.iconst (v := 0) C dX5_homeOf_5 (by decide) ?_
  refine G.istore (L1 := [(4, .int 0), (3, .int 1), (2, .int (-9)), (0, .ref (w.2.2.2.1 0 0)), (1, .int a)]) C dX5_homeOf_6 (by decide) rfl ?_
  have cut_8 : ∀ (m9 : Nat) (j : Nat) (x4 x3 x2 : Int32), j ≤ 4 → 4 < j + m9 → x4 = nI j → x3 = (homeU (fun j => mostU (fun q => fitU (σ.1 16 a.toNatClampNeg) (σ.1 19 j) (nb j) q (nh a.toNatClampNeg))) j).2 → x2 = (homeU (fun j => mostU (fun q => fitU (σ.1 16 a.toNatClampNeg) (σ.1 19 j) (nb j) q (nh a.toNatClampNeg))) j).1 → G w x 6 Q 8 [(4, .int x4), (3, .int x3), (2, .int x2), (0, .ref (w.2.2.2.1 0 0)), (1, .int a)] [] σ := by
    intro m9
    induction m9 with
    | zero =>
      intro j x4 x3 x2 hj hm hx4 hx3 hx2
      exfalso
      omega
    | succ m9 ih_8 =>
      intro j x4 x3 x2 hj hm hx4 hx3 hx2
      subst hx4
      subst hx3
      subst hx2
      refine G.iload C 0 dX5_homeOf_8 rfl ?_
      refine G.iconst (v := 4) C dX5_homeOf_10 (by decide) ?_
      refine G.icmp_ge (tgt := 53) C dX5_homeOf_11 (by decide) (fun c_11 => ?_) (fun c_11 => ?_)
      · have hjn : j = 4 := by
          rw [show (4 : Int32) = nI 4 from rfl, nI_leI (by decide) (by omega)] at c_11; omega
        refine G.iload_n C 2 dX5_homeOf_53 rfl rfl ?_
        subst hQ
        exact G.iret C hr dX5_homeOf_54 (by
            rw [hjn]
            exact ⟨rfl, rfl⟩)
      · have hjn : j < 4 := by
          rw [show (4 : Int32) = nI 4 from rfl, nI_leI (by decide) (by omega)] at c_11; omega
        refine G.aload_n C 3 dX5_homeOf_14 rfl rfl ?_
        refine G.get (g := 0) (i := 0) C 2 none dX5_homeOf_15 (by decide) rfl rfl uX_X5 (by decide) uf_RX5_25 rfl rfl ?_
        refine G.iload_n C 4 dX5_homeOf_18 rfl rfl ?_
        have hin_19 : vp_in a 20 := by
          exact vp_ofc hia hl hl20 (by decide)
        refine G.aald (g := 3) (i := 0) (n := 20) (f := fun q => w.2.2.2.1 14 q) C 1 dX5_homeOf_19 (by decide) rfl rfl rfl hin_19 ?_
        refine G.get (g := 14) (i := a.toNatClampNeg) C 6 (some "PlateRoom") dX5_homeOf_20 (vp_lt hin_19) rfl rfl uX_X2 (by decide) unf_RX5_196 rfl rfl ?_
        refine G.aload_n C 3 dX5_homeOf_23 rfl rfl ?_
        refine G.get (g := 0) (i := 0) C 6 none dX5_homeOf_24 (by decide) rfl rfl uX_X5 (by decide) uf_RX5_44 rfl rfl ?_
        refine G.iload C 0 dX5_homeOf_27 rfl ?_
        have hin_29 : vp_in (nI j) 4 := by
          exact vp_in_nI (by omega) (by decide)
        refine G.aald (g := 5) (i := 0) (n := 4) (f := fun q => w.2.2.2.1 18 q) C 3 dX5_homeOf_29 (by decide) rfl rfl rfl hin_29 ?_
        have hM_0 := ok_X1_mostFitting hw σ a.toNatClampNeg ((nI j).toNatClampNeg) (vp_lt hin_19) (vp_lt hin_29) ((hH _ (vp_lt hin_19)).1) ((hH _ (vp_lt hin_19)).2) ((hB _ (vp_lt hin_29)).1) ((hB _ (vp_lt hin_29)).2)
        refine G.callV C (g := 15) (i := a.toNatClampNeg) (some "PlateRoom") hM_0 dX5_homeOf_30 (vp_lt hin_19) rfl rfl rfl uv_X1_mostFitting unm_RX5_271 rfl rfl (by decide) (Nat.le_of_ble_eq_true rfl) (fun r_30 τ_30 h_30 => ?_)
        obtain ⟨h_30, e_30⟩ := h_30; subst h_30
        rw [nI_clamp (show j < 2 ^ 31 by omega)] at e_30
        refine G.istore (L1 := [(5, .int r_30), (4, .int (nI j)), (3, .int ((homeU (fun j => mostU (fun q => fitU (σ.1 16 a.toNatClampNeg) (σ.1 19 j) (nb j) q (nh a.toNatClampNeg))) j).2)), (2, .int ((homeU (fun j => mostU (fun q => fitU (σ.1 16 a.toNatClampNeg) (σ.1 19 j) (nb j) q (nh a.toNatClampNeg))) j).1)), (0, .ref (w.2.2.2.1 0 0)), (1, .int a)]) C dX5_homeOf_33 (by decide) rfl ?_
        refine G.iload C 0 dX5_homeOf_35 rfl ?_
        refine G.iload_n C 2 dX5_homeOf_37 rfl rfl ?_
        refine G.icmp_le (tgt := 47) C dX5_homeOf_38 (by decide) (fun c_38 => ?_) (fun c_38 => ?_)
        · obtain ⟨x4_47, ex4_47⟩ : ∃ z : Int32, z = (nI j) + 1 := ⟨_, rfl⟩
          refine G.iinc (v := x4_47) (L1 := [(4, .int x4_47), (5, .int r_30), (3, .int ((homeU (fun j => mostU (fun q => fitU (σ.1 16 a.toNatClampNeg) (σ.1 19 j) (nb j) q (nh a.toNatClampNeg))) j).2)), (2, .int ((homeU (fun j => mostU (fun q => fitU (σ.1 16 a.toNatClampNeg) (σ.1 19 j) (nb j) q (nh a.toNatClampNeg))) j).1)), (0, .ref (w.2.2.2.1 0 0)), (1, .int a)]) C 1 dX5_homeOf_47 rfl (by rw [ex4_47]; rfl) (by decide) rfl ?_
          refine G.goto (tgt := 8) C dX5_homeOf_50 (by decide) ?_
          refine G.sub (L1 := [(4, .int x4_47), (3, .int ((homeU (fun j => mostU (fun q => fitU (σ.1 16 a.toNatClampNeg) (σ.1 19 j) (nb j) q (nh a.toNatClampNeg))) j).2)), (2, .int ((homeU (fun j => mostU (fun q => fitU (σ.1 16 a.toNatClampNeg) (σ.1 19 j) (nb j) q (nh a.toNatClampNeg))) j).1)), (0, .ref (w.2.2.2.1 0 0)), (1, .int a)]) [0, 2, 3, 4, 5] rfl ?_
          refine ih_8  (j + 1) _ _ _ ?_ ?_ ?_ ?_ ?_
          · omega
          · omega
          · rw [ex4_47]; exact nI_1 j
          · rw [homeU_f (M := (fun j => mostU (fun q => fitU (σ.1 16 a.toNatClampNeg) (σ.1 19 j) (nb j) q (nh a.toNatClampNeg)))) (fun q => Int32.not_le.mpr q (e_30 ▸ c_38))]
          · rw [homeU_f (M := (fun j => mostU (fun q => fitU (σ.1 16 a.toNatClampNeg) (σ.1 19 j) (nb j) q (nh a.toNatClampNeg)))) (fun q => Int32.not_le.mpr q (e_30 ▸ c_38))]
        · refine G.iload C 0 dX5_homeOf_41 rfl ?_
          refine G.istore_n (L1 := [(3, .int r_30), (5, .int r_30), (4, .int (nI j)), (2, .int ((homeU (fun j => mostU (fun q => fitU (σ.1 16 a.toNatClampNeg) (σ.1 19 j) (nb j) q (nh a.toNatClampNeg))) j).1)), (0, .ref (w.2.2.2.1 0 0)), (1, .int a)]) C dX5_homeOf_43 rfl (by decide) rfl ?_
          refine G.iload C 2 dX5_homeOf_44 rfl ?_
          refine G.topi (fun x2_46 ex2_46 => ?_)
          refine G.istore_n (L1 := [(2, .int x2_46), (3, .int r_30), (5, .int r_30), (4, .int (nI j)), (0, .ref (w.2.2.2.1 0 0)), (1, .int a)]) C dX5_homeOf_46 rfl (by decide) rfl ?_
          obtain ⟨x4_47, ex4_47⟩ : ∃ z : Int32, z = (nI j) + 1 := ⟨_, rfl⟩
          refine G.iinc (v := x4_47) (L1 := [(4, .int x4_47), (2, .int x2_46), (3, .int r_30), (5, .int r_30), (0, .ref (w.2.2.2.1 0 0)), (1, .int a)]) C 3 dX5_homeOf_47 rfl (by rw [ex4_47]; rfl) (by decide) rfl ?_
          refine G.goto (tgt := 8) C dX5_homeOf_50 (by decide) ?_
          refine G.sub (L1 := [(4, .int x4_47), (3, .int r_30), (2, .int x2_46), (0, .ref (w.2.2.2.1 0 0)), (1, .int a)]) [0, 2, 1, 4, 5] rfl ?_
          refine ih_8  (j + 1) _ _ _ ?_ ?_ ?_ ?_ ?_
          · omega
          · omega
          · rw [ex4_47]; exact nI_1 j
          · rw [homeU_t (M := (fun j => mostU (fun q => fitU (σ.1 16 a.toNatClampNeg) (σ.1 19 j) (nb j) q (nh a.toNatClampNeg)))) (by rw [← e_30]; exact Int32.not_le.mp c_38)]
            exact e_30
          · rw [homeU_t (M := (fun j => mostU (fun q => fitU (σ.1 16 a.toNatClampNeg) (σ.1 19 j) (nb j) q (nh a.toNatClampNeg)))) (by rw [← e_30]; exact Int32.not_le.mp c_38)]
            try assumption
  refine cut_8 5 0 _ _ _ ?_ ?_ ?_ ?_ ?_
  · omega
  · omega
  · rfl
  · rfl
  · rfl
set_option maxHeartbeats 4000000 in
set_option maxRecDepth 100000 in
theorem ok_X5_othersByChance {w : wD} (hw : wOK w) (σ : wSt) (a b : Int32) {l : Nat} (hl : σ.1 0 0 3 = nI l) (hl20 : l ≤ 20) {nh nb : Nat → Nat} (hH : ∀ i, i < 20 → σ.1 15 i 1 = nI (nh i) ∧ nh i ≤ 6) (hB : ∀ j, j < 4 → σ.1 18 j 1 = nI (nb j) ∧ nb j ≤ 6) (hia : 0 ≤ a ∧ a < σ.1 0 0 3) (hib : 0 ≤ b ∧ b < 4) : MI w yX5_othersByChance cX5_othersByChance 6 (some .int) 5 115 [.ref (w.2.2.2.1 0 0), .int a, .int b] σ (fun r τ => σ = τ ∧ r = chanceU (fun i => mostU (fun q => fitU (σ.1 16 i) (σ.1 19 b.toNatClampNeg) (nb b.toNatClampNeg) q (nh i))) a (mostU (fun q => fitU (σ.1 16 a.toNatClampNeg) (σ.1 19 b.toNatClampNeg) (nb b.toNatClampNeg) q (nh a.toNatClampNeg))) l) := by
  refine MI.of hw (by decide +kernel) (Nat.le_of_ble_eq_true rfl) (fun x C hr => ?_)
  suffices key : ∀ Q, Q = QI w x (fun r τ => σ = τ ∧ r = chanceU (fun i => mostU (fun q => fitU (σ.1 16 i) (σ.1 19 b.toNatClampNeg) (nb b.toNatClampNeg) q (nh i))) a (mostU (fun q => fitU (σ.1 16 a.toNatClampNeg) (σ.1 19 b.toNatClampNeg) (nb b.toNatClampNeg) q (nh a.toNatClampNeg))) l) → G w x 6 Q 0 [(0, .ref (w.2.2.2.1 0 0)), (1, .int a), (2, .int b)] [] σ from key _ rfl
  intro Q hQ
  refine G.aload_n C 0 dX5_othersByChance_0 rfl rfl ?_
  refine G.get (g := 0) (i := 0) C 2 none dX5_othersByChance_1 (by decide) rfl rfl uX_X5 (by decide) uf_RX5_25 rfl rfl ?_
  refine G.iload_n C 1 dX5_othersByChance_4 rfl rfl ?_
  have hin_5 : vp_in a 20 := by
    exact vp_ofc hia hl hl20 (by decide)
  refine G.aald (g := 3) (i := 0) (n := 20) (f := fun q => w.2.2.2.1 14 q) C 1 dX5_othersByChance_5 (by decide) rfl rfl rfl hin_5 ?_
  refine G.get (g := 14) (i := a.toNatClampNeg) C 6 (some "PlateRoom") dX5_othersByChance_6 (vp_lt hin_5) rfl rfl uX_X2 (by decide) unf_RX5_196 rfl rfl ?_
  refine G.aload_n C 0 dX5_othersByChance_9 rfl rfl ?_
  refine G.get (g := 0) (i := 0) C 6 none dX5_othersByChance_10 (by decide) rfl rfl uX_X5 (by decide) uf_RX5_44 rfl rfl ?_
  refine G.iload_n C 2 dX5_othersByChance_13 rfl rfl ?_
  have hin_14 : vp_in b 4 := by
    exact vp_ofc (c := 4) (l := 4) hib rfl (by decide) (by decide)
  refine G.aald (g := 5) (i := 0) (n := 4) (f := fun q => w.2.2.2.1 18 q) C 3 dX5_othersByChance_14 (by decide) rfl rfl rfl hin_14 ?_
  have hM_0 := ok_X1_mostFitting hw σ a.toNatClampNeg b.toNatClampNeg (vp_lt hin_5) (vp_lt hin_14) ((hH _ (vp_lt hin_5)).1) ((hH _ (vp_lt hin_5)).2) ((hB _ (vp_lt hin_14)).1) ((hB _ (vp_lt hin_14)).2)
  refine G.callV C (g := 15) (i := a.toNatClampNeg) (some "PlateRoom") hM_0 dX5_othersByChance_15 (vp_lt hin_5) rfl rfl rfl uv_X1_mostFitting unm_RX5_271 rfl rfl (by decide) (Nat.le_of_ble_eq_true rfl) (fun r_15 τ_15 h_15 => ?_)
  obtain ⟨h_15, e_15⟩ := h_15; subst h_15
  refine G.istore_n (L1 := [(3, .int r_15), (0, .ref (w.2.2.2.1 0 0)), (1, .int a), (2, .int b)]) C dX5_othersByChance_18 rfl (by decide) rfl ?_
  refine G.iconst (v := 0) C dX5_othersByChance_19 (by decide) ?_
  refine G.istore (L1 := [(4, .int 0), (3, .int r_15), (0, .ref (w.2.2.2.1 0 0)), (1, .int a), (2, .int b)]) C dX5_othersByChance_20 (by decide) rfl ?_
  refine G.iconst (v := 0) C dX5_othersByChance_22 (by decide) ?_
  refine G.istore (L1 := [(5, .int 0), (4, .int 0), (3, .int r_15), (0, .ref (w.2.2.2.1 0 0)), (1, .int a), (2, .int b)]) C dX5_othersByChance_23 (by decide) rfl ?_
  have cut_25 : ∀ (m9 : Nat) (j : Nat) (x5 x4 : Int32), j ≤ l → l < j + m9 → x5 = nI j → x4 = chanceU (fun i => mostU (fun q => fitU (σ.1 16 i) (σ.1 19 b.toNatClampNeg) (nb b.toNatClampNeg) q (nh i))) a (mostU (fun q => fitU (σ.1 16 a.toNatClampNeg) (σ.1 19 b.toNatClampNeg) (nb b.toNatClampNeg) q (nh a.toNatClampNeg))) j → G w x 6 Q 25 [(5, .int x5), (4, .int x4), (3, .int r_15), (0, .ref (w.2.2.2.1 0 0)), (1, .int a), (2, .int b)] [] σ := by
    intro m9
    induction m9 with
    | zero =>
      intro j x5 x4 hj hm hx5 hx4
      exfalso
      omega
    | succ m9 ih_25 =>
      intro j x5 x4 hj hm hx5 hx4
      subst hx5
      subst hx4
      refine G.iload C 0 dX5_othersByChance_25 rfl ?_
      refine G.aload_n C 3 dX5_othersByChance_27 rfl rfl ?_
      refine G.get (g := 0) (i := 0) C 3 none dX5_othersByChance_28 (by decide) rfl rfl uX_X5 (by decide) uf_RX5_29 rfl rfl ?_
      refine G.icmp_ge (tgt := 72) C dX5_othersByChance_31 (by decide) (fun c_31 => ?_) (fun c_31 => ?_)
      · have hjn : j = l := by
          rw [hl, nI_leI (by omega) (by omega)] at c_31; omega
        refine G.iload C 1 dX5_othersByChance_72 rfl ?_
        subst hQ
        exact G.iret C hr dX5_othersByChance_74 (by
            rw [hjn]
            exact ⟨rfl, rfl⟩)
      · have hjn : j < l := by
          rw [hl, nI_leI (by omega) (by omega)] at c_31; omega
        refine G.iload C 0 dX5_othersByChance_34 rfl ?_
        refine G.iload_n C 4 dX5_othersByChance_36 rfl rfl ?_
        refine G.icmp_eq (tgt := 66) C dX5_othersByChance_37 (by decide) (fun c_37 => ?_) (fun c_37 => ?_)
        · obtain ⟨x5_66, ex5_66⟩ : ∃ z : Int32, z = (nI j) + 1 := ⟨_, rfl⟩
          refine G.iinc (v := x5_66) (L1 := [(5, .int x5_66), (4, .int (chanceU (fun i => mostU (fun q => fitU (σ.1 16 i) (σ.1 19 b.toNatClampNeg) (nb b.toNatClampNeg) q (nh i))) a (mostU (fun q => fitU (σ.1 16 a.toNatClampNeg) (σ.1 19 b.toNatClampNeg) (nb b.toNatClampNeg) q (nh a.toNatClampNeg))) j)), (3, .int r_15), (0, .ref (w.2.2.2.1 0 0)), (1, .int a), (2, .int b)]) C 0 dX5_othersByChance_66 rfl (by rw [ex5_66]; rfl) (by decide) rfl ?_
          refine G.goto (tgt := 25) C dX5_othersByChance_69 (by decide) ?_
          refine ih_25  (j + 1) _ _ ?_ ?_ ?_ ?_
          · omega
          · omega
          · rw [ex5_66]; exact nI_1 j
          · rw [chanceU_f (fun q => q.1 c_37)]
        · refine G.aload_n C 3 dX5_othersByChance_40 rfl rfl ?_
          refine G.get (g := 0) (i := 0) C 2 none dX5_othersByChance_41 (by decide) rfl rfl uX_X5 (by decide) uf_RX5_25 rfl rfl ?_
          refine G.iload C 0 dX5_othersByChance_44 rfl ?_
          have hin_46 : vp_in (nI j) 20 := by
            exact vp_in_nI (by omega) (by decide)
          refine G.aald (g := 3) (i := 0) (n := 20) (f := fun q => w.2.2.2.1 14 q) C 1 dX5_othersByChance_46 (by decide) rfl rfl rfl hin_46 ?_
          refine G.get (g := 14) (i := ((nI j).toNatClampNeg)) C 6 (some "PlateRoom") dX5_othersByChance_47 (vp_lt hin_46) rfl rfl uX_X2 (by decide) unf_RX5_196 rfl rfl ?_
          refine G.aload_n C 3 dX5_othersByChance_50 rfl rfl ?_
          refine G.get (g := 0) (i := 0) C 6 none dX5_othersByChance_51 (by decide) rfl rfl uX_X5 (by decide) uf_RX5_44 rfl rfl ?_
          refine G.iload_n C 5 dX5_othersByChance_54 rfl rfl ?_
          have hin_55 : vp_in b 4 := by
            exact vp_ofc (c := 4) (l := 4) hib rfl (by decide) (by decide)
          refine G.aald (g := 5) (i := 0) (n := 4) (f := fun q => w.2.2.2.1 18 q) C 3 dX5_othersByChance_55 (by decide) rfl rfl rfl hin_55 ?_
          have hM_1 := ok_X1_mostFitting hw σ ((nI j).toNatClampNeg) b.toNatClampNeg (vp_lt hin_46) (vp_lt hin_55) ((hH _ (vp_lt hin_46)).1) ((hH _ (vp_lt hin_46)).2) ((hB _ (vp_lt hin_55)).1) ((hB _ (vp_lt hin_55)).2)
          refine G.callV C (g := 15) (i := ((nI j).toNatClampNeg)) (some "PlateRoom") hM_1 dX5_othersByChance_56 (vp_lt hin_46) rfl rfl rfl uv_X1_mostFitting unm_RX5_271 rfl rfl (by decide) (Nat.le_of_ble_eq_true rfl) (fun r_56 τ_56 h_56 => ?_)
          obtain ⟨h_56, e_56⟩ := h_56; subst h_56
          refine G.iload_n C 2 dX5_othersByChance_59 rfl rfl ?_
          refine G.icmp_lt (tgt := 66) C dX5_othersByChance_60 (by decide) (fun c_60 => ?_) (fun c_60 => ?_)
          · obtain ⟨x5_66, ex5_66⟩ : ∃ z : Int32, z = (nI j) + 1 := ⟨_, rfl⟩
            refine G.iinc (v := x5_66) (L1 := [(5, .int x5_66), (4, .int (chanceU (fun i => mostU (fun q => fitU (σ.1 16 i) (σ.1 19 b.toNatClampNeg) (nb b.toNatClampNeg) q (nh i))) a (mostU (fun q => fitU (σ.1 16 a.toNatClampNeg) (σ.1 19 b.toNatClampNeg) (nb b.toNatClampNeg) q (nh a.toNatClampNeg))) j)), (3, .int r_15), (0, .ref (w.2.2.2.1 0 0)), (1, .int a), (2, .int b)]) C 0 dX5_othersByChance_66 rfl (by rw [ex5_66]; rfl) (by decide) rfl ?_
            refine G.goto (tgt := 25) C dX5_othersByChance_69 (by decide) ?_
            refine ih_25  (j + 1) _ _ ?_ ?_ ?_ ?_
            · omega
            · omega
            · rw [ex5_66]; exact nI_1 j
            · rw [nI_clamp (show j < 2 ^ 31 by omega)] at e_56
              rw [chanceU_f (fun q => Int32.not_le.mpr c_60 (by rw [e_15, e_56]; exact q.2))]
          · obtain ⟨x4_63, ex4_63⟩ : ∃ z : Int32, z = (chanceU (fun i => mostU (fun q => fitU (σ.1 16 i) (σ.1 19 b.toNatClampNeg) (nb b.toNatClampNeg) q (nh i))) a (mostU (fun q => fitU (σ.1 16 a.toNatClampNeg) (σ.1 19 b.toNatClampNeg) (nb b.toNatClampNeg) q (nh a.toNatClampNeg))) j) + 1 := ⟨_, rfl⟩
            refine G.iinc (v := x4_63) (L1 := [(4, .int x4_63), (5, .int (nI j)), (3, .int r_15), (0, .ref (w.2.2.2.1 0 0)), (1, .int a), (2, .int b)]) C 1 dX5_othersByChance_63 rfl (by rw [ex4_63]; rfl) (by decide) rfl ?_
            obtain ⟨x5_66, ex5_66⟩ : ∃ z : Int32, z = (nI j) + 1 := ⟨_, rfl⟩
            refine G.iinc (v := x5_66) (L1 := [(5, .int x5_66), (4, .int x4_63), (3, .int r_15), (0, .ref (w.2.2.2.1 0 0)), (1, .int a), (2, .int b)]) C 1 dX5_othersByChance_66 rfl (by rw [ex5_66]; rfl) (by decide) rfl ?_
            refine G.goto (tgt := 25) C dX5_othersByChance_69 (by decide) ?_
            refine ih_25  (j + 1) _ _ ?_ ?_ ?_ ?_
            · omega
            · omega
            · rw [ex5_66]; exact nI_1 j
            · rw [nI_clamp (show j < 2 ^ 31 by omega)] at e_56
              rw [ex4_63, chanceU_t ⟨c_37, by rw [← e_56, ← e_15]; exact Int32.not_lt.mp c_60⟩]
  refine cut_25 (l + 1) 0 _ _ ?_ ?_ ?_ ?_
  · omega
  · omega
  · rfl
  · rfl
set_option maxHeartbeats 4000000 in
set_option maxRecDepth 100000 in
theorem ok_X5_home {w : wD} (hw : wOK w) (σ : wSt) (a b : Int32) {l : Nat} (hl : σ.1 0 0 3 = nI l) (hl20 : l ≤ 20) {nh nb : Nat → Nat} (hH : ∀ i, i < 20 → σ.1 15 i 1 = nI (nh i) ∧ nh i ≤ 6) (hB : ∀ j, j < 4 → σ.1 18 j 1 = nI (nb j) ∧ nb j ≤ 6) : MI w yX5_home cX5_home 4 (some .int) 6 140 [.ref (w.2.2.2.1 0 0), .int a, .int b] σ (fun r τ => σ = τ ∧ ((¬ (inN (σ.1 0 0 3) a ∧ (b = 0 ∨ b = 1)) ∧ r = -1) ∨ ((inN (σ.1 0 0 3) a ∧ (b = 0 ∨ b = 1)) ∧ (b = 0 ∨ ¬ (0 ≤ (homeU (fun j => mostU (fun q => fitU (σ.1 16 a.toNatClampNeg) (σ.1 19 j) (nb j) q (nh a.toNatClampNeg))) 4).1 ∧ (homeU (fun j => mostU (fun q => fitU (σ.1 16 a.toNatClampNeg) (σ.1 19 j) (nb j) q (nh a.toNatClampNeg))) 4).1 < 4)) ∧ r = (homeU (fun j => mostU (fun q => fitU (σ.1 16 a.toNatClampNeg) (σ.1 19 j) (nb j) q (nh a.toNatClampNeg))) 4).1) ∨ ((inN (σ.1 0 0 3) a ∧ (b = 0 ∨ b = 1)) ∧ ¬ b = 0 ∧ (0 ≤ (homeU (fun j => mostU (fun q => fitU (σ.1 16 a.toNatClampNeg) (σ.1 19 j) (nb j) q (nh a.toNatClampNeg))) 4).1 ∧ (homeU (fun j => mostU (fun q => fitU (σ.1 16 a.toNatClampNeg) (σ.1 19 j) (nb j) q (nh a.toNatClampNeg))) 4).1 < 4) ∧ r = chanceU (fun i => mostU (fun q => fitU (σ.1 16 i) (σ.1 19 ((homeU (fun j => mostU (fun q => fitU (σ.1 16 a.toNatClampNeg) (σ.1 19 j) (nb j) q (nh a.toNatClampNeg))) 4).1).toNatClampNeg) (nb ((homeU (fun j => mostU (fun q => fitU (σ.1 16 a.toNatClampNeg) (σ.1 19 j) (nb j) q (nh a.toNatClampNeg))) 4).1).toNatClampNeg) q (nh i))) a (mostU (fun q => fitU (σ.1 16 a.toNatClampNeg) (σ.1 19 ((homeU (fun j => mostU (fun q => fitU (σ.1 16 a.toNatClampNeg) (σ.1 19 j) (nb j) q (nh a.toNatClampNeg))) 4).1).toNatClampNeg) (nb ((homeU (fun j => mostU (fun q => fitU (σ.1 16 a.toNatClampNeg) (σ.1 19 j) (nb j) q (nh a.toNatClampNeg))) 4).1).toNatClampNeg) q (nh a.toNatClampNeg))) l))) := by
  refine MI.of hw (by decide +kernel) (Nat.le_of_ble_eq_true rfl) (fun x C hr => ?_)
  suffices key : ∀ Q, Q = QI w x (fun r τ => σ = τ ∧ ((¬ (inN (σ.1 0 0 3) a ∧ (b = 0 ∨ b = 1)) ∧ r = -1) ∨ ((inN (σ.1 0 0 3) a ∧ (b = 0 ∨ b = 1)) ∧ (b = 0 ∨ ¬ (0 ≤ (homeU (fun j => mostU (fun q => fitU (σ.1 16 a.toNatClampNeg) (σ.1 19 j) (nb j) q (nh a.toNatClampNeg))) 4).1 ∧ (homeU (fun j => mostU (fun q => fitU (σ.1 16 a.toNatClampNeg) (σ.1 19 j) (nb j) q (nh a.toNatClampNeg))) 4).1 < 4)) ∧ r = (homeU (fun j => mostU (fun q => fitU (σ.1 16 a.toNatClampNeg) (σ.1 19 j) (nb j) q (nh a.toNatClampNeg))) 4).1) ∨ ((inN (σ.1 0 0 3) a ∧ (b = 0 ∨ b = 1)) ∧ ¬ b = 0 ∧ (0 ≤ (homeU (fun j => mostU (fun q => fitU (σ.1 16 a.toNatClampNeg) (σ.1 19 j) (nb j) q (nh a.toNatClampNeg))) 4).1 ∧ (homeU (fun j => mostU (fun q => fitU (σ.1 16 a.toNatClampNeg) (σ.1 19 j) (nb j) q (nh a.toNatClampNeg))) 4).1 < 4) ∧ r = chanceU (fun i => mostU (fun q => fitU (σ.1 16 i) (σ.1 19 ((homeU (fun j => mostU (fun q => fitU (σ.1 16 a.toNatClampNeg) (σ.1 19 j) (nb j) q (nh a.toNatClampNeg))) 4).1).toNatClampNeg) (nb ((homeU (fun j => mostU (fun q => fitU (σ.1 16 a.toNatClampNeg) (σ.1 19 j) (nb j) q (nh a.toNatClampNeg))) 4).1).toNatClampNeg) q (nh i))) a (mostU (fun q => fitU (σ.1 16 a.toNatClampNeg) (σ.1 19 ((homeU (fun j => mostU (fun q => fitU (σ.1 16 a.toNatClampNeg) (σ.1 19 j) (nb j) q (nh a.toNatClampNeg))) 4).1).toNatClampNeg) (nb ((homeU (fun j => mostU (fun q => fitU (σ.1 16 a.toNatClampNeg) (σ.1 19 j) (nb j) q (nh a.toNatClampNeg))) 4).1).toNatClampNeg) q (nh a.toNatClampNeg))) l))) → G w x 4 Q 0 [(0, .ref (w.2.2.2.1 0 0)), (1, .int a), (2, .int b)] [] σ from key _ rfl
  intro Q hQ
  refine G.aload_n C 0 dX5_home_0 rfl rfl ?_
  refine G.iload_n C 1 dX5_home_1 rfl rfl ?_
  have hM_0 := ok_X5_isLeaf hw σ a
  refine G.callV C (g := 0) (i := 0) none hM_0 dX5_home_2 (by decide) rfl rfl rfl uv_X5_isLeaf ul_RX5_111 rfl rfl (by decide) (Nat.le_of_ble_eq_true rfl) (fun r_2 τ_2 h_2 => ?_)
  obtain ⟨h_2, e_2⟩ := h_2; subst h_2
  refine G.if_eq (tgt := 15) C dX5_home_5 (by decide) (fun c_5 => ?_) (fun c_5 => ?_)
  · have b_2 := wb_0 e_2 c_5
    refine G.iconst (v := -1) C dX5_home_15 (by decide) ?_
    subst hQ
    exact G.iret C hr dX5_home_16 (by
        refine ⟨rfl, Or.inl ⟨fun q => ?_, rfl⟩⟩
        first | exact b_2 q.1 | exact b_9 q.2)
  · have b_2 := wb_1 e_2 c_5
    refine G.iload_n C 2 dX5_home_8 rfl rfl ?_
    have hM_1 := ok_X5_isFirstOrSecond hw σ b
    refine G.callS C none hM_1 dX5_home_9 us_X5_isFirstOrSecond ul_RX5_97 rfl rfl (by decide) (Nat.le_of_ble_eq_true rfl) (fun r_9 τ_9 h_9 => ?_)
    obtain ⟨h_9, e_9⟩ := h_9; subst h_9
    refine G.if_ne (tgt := 17) C dX5_home_12 (by decide) (fun c_12 => ?_) (fun c_12 => ?_)
    · have b_9 := wb_1 e_9 c_12
      refine G.aload_n C 0 dX5_home_17 rfl rfl ?_
      refine G.iload_n C 1 dX5_home_18 rfl rfl ?_
      have hM_2 := ok_X5_homeOf hw σ a hl hl20 hH hB b_2
      refine G.callV C (g := 0) (i := 0) none hM_2 dX5_home_19 (by decide) rfl rfl rfl uv_X5_homeOf ul_RX5_217 rfl rfl (by decide) (Nat.le_of_ble_eq_true rfl) (fun r_19 τ_19 h_19 => ?_)
      obtain ⟨h_19, e_19⟩ := h_19; subst h_19
      refine G.istore_n (L1 := [(3, .int r_19), (0, .ref (w.2.2.2.1 0 0)), (1, .int a), (2, .int b)]) C dX5_home_22 rfl (by decide) rfl ?_
      refine G.iload_n C 3 dX5_home_23 rfl rfl ?_
      refine G.if_eq (tgt := 34) C dX5_home_24 (by decide) (fun c_24 => ?_) (fun c_24 => ?_)
      · refine G.iload_n C 0 dX5_home_34 rfl rfl ?_
        subst hQ
        exact G.iret C hr dX5_home_35 (by
            exact ⟨rfl, Or.inr (Or.inl ⟨⟨b_2, b_9⟩, Or.inl c_24, e_19⟩)⟩)
      · refine G.iload_n C 0 dX5_home_27 rfl rfl ?_
        have hM_3 := ok_X5_isBook hw σ r_19
        refine G.callS C none hM_3 dX5_home_28 us_X5_isBook ul_RX5_203 rfl rfl (by decide) (Nat.le_of_ble_eq_true rfl) (fun r_28 τ_28 h_28 => ?_)
        obtain ⟨h_28, e_28⟩ := h_28; subst h_28
        refine G.if_ne (tgt := 36) C dX5_home_31 (by decide) (fun c_31 => ?_) (fun c_31 => ?_)
        · have b_28 := wb_1 e_28 c_31
          refine G.aload_n C 1 dX5_home_36 rfl rfl ?_
          refine G.iload_n C 2 dX5_home_37 rfl rfl ?_
          refine G.iload_n C 0 dX5_home_38 rfl rfl ?_
          have hM_4 := ok_X5_othersByChance hw σ a r_19 hl hl20 hH hB b_2 b_28
          refine G.callV C (g := 0) (i := 0) none hM_4 dX5_home_39 (by decide) rfl rfl rfl uv_X5_othersByChance ul_RX5_220 rfl rfl (by decide) (Nat.le_of_ble_eq_true rfl) (fun r_39 τ_39 h_39 => ?_)
          obtain ⟨h_39, e_39⟩ := h_39; subst h_39
          subst hQ
          exact G.iret C hr dX5_home_42 (by
              rw [e_19] at b_28 e_39
              exact ⟨rfl, Or.inr (Or.inr ⟨⟨b_2, b_9⟩, c_24, b_28, e_39⟩)⟩)
        · have b_28 := wb_0 e_28 c_31
          refine G.iload_n C 0 dX5_home_34 rfl rfl ?_
          subst hQ
          exact G.iret C hr dX5_home_35 (by
              exact ⟨rfl, Or.inr (Or.inl ⟨⟨b_2, b_9⟩, Or.inr (e_19 ▸ b_28), e_19⟩)⟩)
    · have b_9 := wb_0 e_9 c_12
      refine G.iconst (v := -1) C dX5_home_15 (by decide) ?_
      subst hQ
      exact G.iret C hr dX5_home_16 (by
          refine ⟨rfl, Or.inl ⟨fun q => ?_, rfl⟩⟩
          first | exact b_2 q.1 | exact b_9 q.2)
set_option maxHeartbeats 4000000 in
set_option maxRecDepth 100000 in
theorem ok_X5_leavesWithCandidates {w : wD} (hw : wOK w) (σ : wSt) (a : Int32) {n : Nat} (hn : σ.1 1 0 5 = nI n) (h6 : n ≤ 6) {l : Nat} (hl : σ.1 0 0 3 = nI l) (hl20 : l ≤ 20) : MI w yX5_leavesWithCandidates cX5_leavesWithCandidates 4 (some .int) 2 45 [.ref (w.2.2.2.1 0 0), .int a] σ (fun r τ => σ = τ ∧ r = cntU (fun q => candU (σ.1 6 0) (σ.1 14 q 0) (σ.1 14 q 1) n) a l) := by
  refine MI.of hw (by decide +kernel) (Nat.le_of_ble_eq_true rfl) (fun x C hr => ?_)
  suffices key : ∀ Q, Q = QI w x (fun r τ => σ = τ ∧ r = cntU (fun q => candU (σ.1 6 0) (σ.1 14 q 0) (σ.1 14 q 1) n) a l) → G w x 4 Q 0 [(0, .ref (w.2.2.2.1 0 0)), (1, .int a)] [] σ from key _ rfl
  intro Q hQ
  refine G.iconst (v := 0) C dX5_leavesWithCandidates_0 (by decide) ?_
  refine G.istore_n (L1 := [(2, .int 0), (0, .ref (w.2.2.2.1 0 0)), (1, .int a)]) C dX5_leavesWithCandidates_1 rfl (by decide) rfl ?_
  refine G.iconst (v := 0) C dX5_leavesWithCandidates_2 (by decide) ?_
  refine G.istore_n (L1 := [(3, .int 0), (2, .int 0), (0, .ref (w.2.2.2.1 0 0)), (1, .int a)]) C dX5_leavesWithCandidates_3 rfl (by decide) rfl ?_
  have cut_4 : ∀ (m9 : Nat) (j : Nat) (x3 x2 : Int32), j ≤ l → l < j + m9 → x3 = nI j → x2 = cntU (fun q => candU (σ.1 6 0) (σ.1 14 q 0) (σ.1 14 q 1) n) a j → G w x 4 Q 4 [(3, .int x3), (2, .int x2), (0, .ref (w.2.2.2.1 0 0)), (1, .int a)] [] σ := by
    intro m9
    induction m9 with
    | zero =>
      intro j x3 x2 hj hm hx3 hx2
      exfalso
      omega
    | succ m9 ih_4 =>
      intro j x3 x2 hj hm hx3 hx2
      subst hx3
      subst hx2
      refine G.iload_n C 0 dX5_leavesWithCandidates_4 rfl rfl ?_
      refine G.aload_n C 2 dX5_leavesWithCandidates_5 rfl rfl ?_
      refine G.get (g := 0) (i := 0) C 3 none dX5_leavesWithCandidates_6 (by decide) rfl rfl uX_X5 (by decide) uf_RX5_29 rfl rfl ?_
      refine G.icmp_ge (tgt := 38) C dX5_leavesWithCandidates_9 (by decide) (fun c_9 => ?_) (fun c_9 => ?_)
      · have hjn : j = l := by
          rw [hl, nI_leI (by omega) (by omega)] at c_9; omega
        refine G.iload_n C 1 dX5_leavesWithCandidates_38 rfl rfl ?_
        subst hQ
        exact G.iret C hr dX5_leavesWithCandidates_39 (by
            rw [hjn]
            exact ⟨rfl, rfl⟩)
      · have hjn : j < l := by
          rw [hl, nI_leI (by omega) (by omega)] at c_9; omega
        refine G.aload_n C 2 dX5_leavesWithCandidates_12 rfl rfl ?_
        refine G.aload_n C 2 dX5_leavesWithCandidates_13 rfl rfl ?_
        refine G.get (g := 0) (i := 0) C 2 none dX5_leavesWithCandidates_14 (by decide) rfl rfl uX_X5 (by decide) uf_RX5_25 rfl rfl ?_
        refine G.iload_n C 0 dX5_leavesWithCandidates_17 rfl rfl ?_
        have hin_18 : vp_in (nI j) 20 := by
          exact vp_in_nI (by omega) (by decide)
        refine G.aald (g := 3) (i := 0) (n := 20) (f := fun q => w.2.2.2.1 14 q) C 1 dX5_leavesWithCandidates_18 (by decide) rfl rfl rfl hin_18 ?_
        have hM_0 := ok_X5_candidatesOf hw σ ((nI j).toNatClampNeg) (vp_lt hin_18) hn h6
        refine G.callV C (g := 0) (i := 0) none hM_0 dX5_leavesWithCandidates_19 (by decide) rfl rfl rfl uv_X5_candidatesOf ul_RX5_123 rfl rfl (by decide) (Nat.le_of_ble_eq_true rfl) (fun r_19 τ_19 h_19 => ?_)
        obtain ⟨h_19, e_19⟩ := h_19; subst h_19
        rw [nI_clamp (show j < 2 ^ 31 by omega)] at e_19
        have hM_1 := ok_J6_bitCount_0f7a4 hw σ r_19 (by rw [e_19]; exact rng_cand n h6)
        refine G.callS C none hM_1 dX5_leavesWithCandidates_22 us_J6_bitCount_0f7a4 ul_RX5_253 rfl rfl (by decide) (Nat.le_of_ble_eq_true rfl) (fun r_22 τ_22 h_22 => ?_)
        obtain ⟨h_22, e_22⟩ := h_22; subst h_22
        refine G.iload_n C 3 dX5_leavesWithCandidates_25 rfl rfl ?_
        refine G.icmp_ne (tgt := 32) C dX5_leavesWithCandidates_26 (by decide) (fun c_26 => ?_) (fun c_26 => ?_)
        · obtain ⟨x3_32, ex3_32⟩ : ∃ z : Int32, z = (nI j) + 1 := ⟨_, rfl⟩
          refine G.iinc (v := x3_32) (L1 := [(3, .int x3_32), (2, .int (cntU (fun q => candU (σ.1 6 0) (σ.1 14 q 0) (σ.1 14 q 1) n) a j)), (0, .ref (w.2.2.2.1 0 0)), (1, .int a)]) C 0 dX5_leavesWithCandidates_32 rfl (by rw [ex3_32]; rfl) (by decide) rfl ?_
          refine G.goto (tgt := 4) C dX5_leavesWithCandidates_35 (by decide) ?_
          refine ih_4  (j + 1) _ _ ?_ ?_ ?_ ?_
          · omega
          · omega
          · rw [ex3_32]; exact nI_1 j
          · rw [e_22, e_19] at c_26
            rw [cntU_f (c := fun q => candU (σ.1 6 0) (σ.1 14 q 0) (σ.1 14 q 1) n) (k := j) c_26]
        · obtain ⟨x2_29, ex2_29⟩ : ∃ z : Int32, z = (cntU (fun q => candU (σ.1 6 0) (σ.1 14 q 0) (σ.1 14 q 1) n) a j) + 1 := ⟨_, rfl⟩
          refine G.iinc (v := x2_29) (L1 := [(2, .int x2_29), (3, .int (nI j)), (0, .ref (w.2.2.2.1 0 0)), (1, .int a)]) C 1 dX5_leavesWithCandidates_29 rfl (by rw [ex2_29]; rfl) (by decide) rfl ?_
          obtain ⟨x3_32, ex3_32⟩ : ∃ z : Int32, z = (nI j) + 1 := ⟨_, rfl⟩
          refine G.iinc (v := x3_32) (L1 := [(3, .int x3_32), (2, .int x2_29), (0, .ref (w.2.2.2.1 0 0)), (1, .int a)]) C 1 dX5_leavesWithCandidates_32 rfl (by rw [ex3_32]; rfl) (by decide) rfl ?_
          refine G.goto (tgt := 4) C dX5_leavesWithCandidates_35 (by decide) ?_
          refine ih_4  (j + 1) _ _ ?_ ?_ ?_ ?_
          · omega
          · omega
          · rw [ex3_32]; exact nI_1 j
          · rw [e_22, e_19] at c_26
            rw [ex2_29, cntU_t (c := fun q => candU (σ.1 6 0) (σ.1 14 q 0) (σ.1 14 q 1) n) (k := j) c_26]
  refine cut_4 (l + 1) 0 _ _ ?_ ?_ ?_ ?_
  · omega
  · omega
  · rfl
  · rfl
set_option maxHeartbeats 4000000 in
set_option maxRecDepth 100000 in
theorem ok_X5_count {w : wD} (hw : wOK w) (σ : wSt) (a : Int32) {n : Nat} (hn : σ.1 1 0 5 = nI n) (h6 : n ≤ 6) {l : Nat} (hl : σ.1 0 0 3 = nI l) (hl20 : l ≤ 20) : MI w yX5_count cX5_count 2 (some .int) 3 68 [.ref (w.2.2.2.1 0 0), .int a] σ (fun r τ => σ = τ ∧ ((¬ (0 ≤ a ∧ a ≤ 5) ∧ r = -1) ∨ ((0 ≤ a ∧ a ≤ 5) ∧ r = if a = 0 then σ.1 1 0 5 else if a = 1 then σ.1 0 0 3 else if a = 2 then σ.1 0 0 5 else if a = 3 then σ.1 2 0 4 else if a = 4 then cntU (fun q => candU (σ.1 6 0) (σ.1 14 q 0) (σ.1 14 q 1) n) 0 l else cntU (fun q => candU (σ.1 6 0) (σ.1 14 q 0) (σ.1 14 q 1) n) 1 l))) := by
  refine MI.of hw (by decide +kernel) (Nat.le_of_ble_eq_true rfl) (fun x C hr => ?_)
  suffices key : ∀ Q, Q = QI w x (fun r τ => σ = τ ∧ ((¬ (0 ≤ a ∧ a ≤ 5) ∧ r = -1) ∨ ((0 ≤ a ∧ a ≤ 5) ∧ r = if a = 0 then σ.1 1 0 5 else if a = 1 then σ.1 0 0 3 else if a = 2 then σ.1 0 0 5 else if a = 3 then σ.1 2 0 4 else if a = 4 then cntU (fun q => candU (σ.1 6 0) (σ.1 14 q 0) (σ.1 14 q 1) n) 0 l else cntU (fun q => candU (σ.1 6 0) (σ.1 14 q 0) (σ.1 14 q 1) n) 1 l))) → G w x 2 Q 0 [(0, .ref (w.2.2.2.1 0 0)), (1, .int a)] [] σ from key _ rfl
  intro Q hQ
  refine G.iload_n C 1 dX5_count_0 rfl rfl ?_
  refine G.table C dX5_count_1 (fun j off hj hb ho => ?_) (by decide) (fun hj => ?_)
  · have hj9 : j < 6 := by have := (Array.getElem?_eq_some_iff.mp ho).1; simpa using this
    rcases (show j = 0 ∨ j = 1 ∨ j = 2 ∨ j = 3 ∨ j = 4 ∨ j = 5 by omega) with rfl | rfl | rfl | rfl | rfl | rfl
    · cases ho
      refine ⟨40, by decide, ?_⟩
      have c_1 : a = 0 := w_ofInt (by simpa using hj)
      refine G.aload_n C 0 dX5_count_40 rfl rfl ?_
      refine G.get (g := 0) (i := 0) C 0 none dX5_count_41 (by decide) rfl rfl uX_X5 (by decide) uf_RX5_10 rfl rfl ?_
      refine G.get (g := 1) (i := 0) C 5 (some "PlateRoom") dX5_count_44 (by decide) rfl rfl uX_X3 (by decide) unf_RX5_100 rfl rfl ?_
      subst hQ
      exact G.iret C hr dX5_count_47 (by
          subst c_1
          exact ⟨rfl, Or.inr ⟨by decide, rfl⟩⟩)
    · cases ho
      refine ⟨48, by decide, ?_⟩
      have c_1 : a = 1 := w_ofInt (by simpa using hj)
      refine G.aload_n C 0 dX5_count_48 rfl rfl ?_
      refine G.get (g := 0) (i := 0) C 3 none dX5_count_49 (by decide) rfl rfl uX_X5 (by decide) uf_RX5_29 rfl rfl ?_
      subst hQ
      exact G.iret C hr dX5_count_52 (by
          subst c_1
          exact ⟨rfl, Or.inr ⟨by decide, rfl⟩⟩)
    · cases ho
      refine ⟨53, by decide, ?_⟩
      have c_1 : a = 2 := w_ofInt (by simpa using hj)
      refine G.aload_n C 0 dX5_count_53 rfl rfl ?_
      refine G.get (g := 0) (i := 0) C 5 none dX5_count_54 (by decide) rfl rfl uX_X5 (by decide) uf_RX5_39 rfl rfl ?_
      subst hQ
      exact G.iret C hr dX5_count_57 (by
          subst c_1
          exact ⟨rfl, Or.inr ⟨by decide, rfl⟩⟩)
    · cases ho
      refine ⟨58, by decide, ?_⟩
      have c_1 : a = 3 := w_ofInt (by simpa using hj)
      refine G.aload_n C 0 dX5_count_58 rfl rfl ?_
      refine G.get (g := 0) (i := 0) C 1 none dX5_count_59 (by decide) rfl rfl uX_X5 (by decide) uf_RX5_19 rfl rfl ?_
      refine G.get (g := 2) (i := 0) C 4 (some "PlateRoom") dX5_count_62 (by decide) rfl rfl uX_X0 (by decide) unf_RX5_223 rfl rfl ?_
      subst hQ
      exact G.iret C hr dX5_count_65 (by
          subst c_1
          exact ⟨rfl, Or.inr ⟨by decide, rfl⟩⟩)
    · cases ho
      refine ⟨66, by decide, ?_⟩
      have c_1 : a = 4 := w_ofInt (by simpa using hj)
      refine G.aload_n C 0 dX5_count_66 rfl rfl ?_
      refine G.iconst (v := 0) C dX5_count_67 (by decide) ?_
      have hM_0 := ok_X5_leavesWithCandidates hw σ 0 hn h6 hl hl20
      refine G.callV C (g := 0) (i := 0) none hM_0 dX5_count_68 (by decide) rfl rfl rfl uv_X5_leavesWithCandidates ul_RX5_226 rfl rfl (by decide) (Nat.le_of_ble_eq_true rfl) (fun r_68 τ_68 h_68 => ?_)
      obtain ⟨h_68, e_68⟩ := h_68; subst h_68
      subst hQ
      exact G.iret C hr dX5_count_71 (by
          subst c_1
          exact ⟨rfl, Or.inr ⟨by decide, e_68⟩⟩)
    · cases ho
      refine ⟨72, by decide, ?_⟩
      have c_1 : a = 5 := w_ofInt (by simpa using hj)
      refine G.aload_n C 0 dX5_count_72 rfl rfl ?_
      refine G.iconst (v := 1) C dX5_count_73 (by decide) ?_
      have hM_1 := ok_X5_leavesWithCandidates hw σ 1 hn h6 hl hl20
      refine G.callV C (g := 0) (i := 0) none hM_1 dX5_count_74 (by decide) rfl rfl rfl uv_X5_leavesWithCandidates ul_RX5_226 rfl rfl (by decide) (Nat.le_of_ble_eq_true rfl) (fun r_74 τ_74 h_74 => ?_)
      obtain ⟨h_74, e_74⟩ := h_74; subst h_74
      subst hQ
      exact G.iret C hr dX5_count_77 (by
          subst c_1
          exact ⟨rfl, Or.inr ⟨by decide, e_74⟩⟩)
  · refine ⟨78, by decide, ?_⟩
    have c_1 := hj
    refine G.iconst (v := -1) C dX5_count_78 (by decide) ?_
    subst hQ
    exact G.iret C hr dX5_count_79 (by
        refine ⟨rfl, Or.inl ⟨fun q => ?_, rfl⟩⟩
        exact w_out (k := 5) c_1 q.1 q.2)
set_option maxHeartbeats 4000000 in
set_option maxRecDepth 100000 in
theorem ok_X5_trace {w : wD} (hw : wOK w) (σ : wSt)   : ML w yX5_trace cX5_trace 1 (some .long) 0 0 [.ref (w.2.2.2.1 0 0)] σ (fun r τ => σ = τ ∧ r = σ.2 0) := by
  refine ML.of hw (by decide +kernel) (Nat.le_of_ble_eq_true rfl) (fun x C hr => ?_)
  suffices key : ∀ Q, Q = QL w x (fun r τ => σ = τ ∧ r = σ.2 0) → G w x 1 Q 0 [(0, .ref (w.2.2.2.1 0 0))] [] σ from key _ rfl
  intro Q hQ
  refine G.aload_n C 0 dX5_trace_0 rfl rfl ?_
  refine G.get (g := 0) (i := 0) C 7 none dX5_trace_1 (by decide) rfl rfl uX_X5 (by decide) uf_RX5_48 rfl rfl ?_
  subst hQ
  exact G.lret C hr dX5_trace_4 (by
      exact ⟨rfl, rfl⟩)
