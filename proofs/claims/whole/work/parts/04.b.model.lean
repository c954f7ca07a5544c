set_option maxHeartbeats 4000000 in
set_option maxRecDepth 100000 in
theorem ok_X6_isYears {w : wD} (hw : wOK w) (σ : wSt) (a b : Int32)  : MI w yX6_isYears cX6_isYears 2 (some .boolean) 1 22 [.int a, .int b] σ (fun r τ => σ = τ ∧ r = wb (okYY a b)) := by
  refine MI.of hw (by decide +kernel) (Nat.le_of_ble_eq_true rfl) (fun x C hr => ?_)
  suffices key : ∀ Q, Q = QI w x (fun r τ => σ = τ ∧ r = wb (okYY a b)) → G w x 2 Q 0 [(0, .int a), (1, .int b)] [] σ from key _ rfl
  intro Q hQ
  refine G.iload_n C 0 dX6_isYears_0 rfl rfl ?_
  refine G.sipush (v := 1500) C dX6_isYears_1 (by decide) ?_
  refine G.sipush (v := 1900) C dX6_isYears_4 (by decide) ?_
  have hM_0 := ok_X6_in hw σ a 1500 1900
  refine G.callS C none hM_0 dX6_isYears_7 us_X6_in ul_RX6_65 rfl rfl (by decide) (Nat.le_of_ble_eq_true rfl) (fun r_7 τ_7 h_7 => ?_)
  obtain ⟨h_7, e_7⟩ := h_7; subst h_7
  refine G.if_eq (tgt := 28) C dX6_isYears_10 (by decide) (fun c_10 => ?_) (fun c_10 => ?_)
  · have b_7 := wb_0 e_7 c_10
    refine G.iconst (v := 0) C dX6_isYears_28 (by decide) ?_
    subst hQ
    exact G.zret C hr (by rfl) dX6_isYears_29 (by
        exact ⟨rfl, (wb_f (fun q => b_7 q.1)).symm⟩)
  · have b_7 := wb_1 e_7 c_10
    refine G.iload_n C 1 dX6_isYears_13 rfl rfl ?_
    refine G.iload_n C 0 dX6_isYears_14 rfl rfl ?_
    refine G.sipush (v := 1900) C dX6_isYears_15 (by decide) ?_
    have hM_1 := ok_X6_in hw σ b a 1900
    refine G.callS C none hM_1 dX6_isYears_18 us_X6_in ul_RX6_65 rfl rfl (by decide) (Nat.le_of_ble_eq_true rfl) (fun r_18 τ_18 h_18 => ?_)
    obtain ⟨h_18, e_18⟩ := h_18; subst h_18
    refine G.if_eq (tgt := 28) C dX6_isYears_21 (by decide) (fun c_21 => ?_) (fun c_21 => ?_)
    · have b_18 := wb_0 e_18 c_21
      refine G.iconst (v := 0) C dX6_isYears_28 (by decide) ?_
      subst hQ
      exact G.zret C hr (by rfl) dX6_isYears_29 (by
          exact ⟨rfl, (wb_f (fun q => b_18 ⟨q.2.2, q.2.1.2⟩)).symm⟩)
    · have b_18 := wb_1 e_18 c_21
      refine G.iconst (v := 1) C dX6_isYears_24 (by decide) ?_
      refine G.goto (tgt := 29) C dX6_isYears_25 (by decide) ?_
      subst hQ
      exact G.zret C hr (by rfl) dX6_isYears_29 (by
          exact ⟨rfl, (wb_t (yy_of b_7 b_18)).symm⟩)
set_option maxHeartbeats 4000000 in
set_option maxRecDepth 100000 in
theorem ok_X6_bits {w : wD} (hw : wOK w) (σ : wSt) (a : Int32)  : MI w yX6_bits cX6_bits 3 (some .int) 0 0 [.int a] σ (fun r τ => σ = τ ∧ r = pop a) := by
  refine MI.of hw (by decide +kernel) (Nat.le_of_ble_eq_true rfl) (fun x C hr => ?_)
  suffices key : ∀ Q, Q = QI w x (fun r τ => σ = τ ∧ r = pop a) → G w x 3 Q 0 [(0, .int a)] [] σ from key _ rfl
  intro Q hQ
  refine G.iconst (v := 0) C dX6_bits_0 (by decide) ?_
  refine G.istore_n (L1 := [(1, .int 0), (0, .int a)]) C dX6_bits_1 rfl (by decide) rfl ?_
  refine G.iconst (v := 0) C dX6_bits_2 (by decide) ?_
  refine G.istore_n (L1 := [(2, .int 0), (1, .int 0), (0, .int a)]) C dX6_bits_3 rfl (by decide) rfl ?_
  have cut_4 : ∀ (m9 : Nat) (j : Nat) (x2 x1 : Int32), j ≤ 12 → 12 < j + m9 → x2 = nI j → x1 = popU a j → G w x 3 Q 4 [(2, .int x2), (1, .int x1), (0, .int a)] [] σ := by
    intro m9
    induction m9 with
    | zero =>
      intro j x2 x1 hj hm hx2 hx1
      exfalso
      omega
    | succ m9 ih_4 =>
      intro j x2 x1 hj hm hx2 hx1
      subst hx2
      subst hx1
      refine G.iload_n C 0 dX6_bits_4 rfl rfl ?_
      refine G.bipush (v := 12) C dX6_bits_5 (by decide) ?_
      refine G.icmp_ge (tgt := 24) C dX6_bits_7 (by decide) (fun c_7 => ?_) (fun c_7 => ?_)
      · have hjn : j = 12 := by
          rw [show (12 : Int32) = nI 12 from rfl, nI_leI (by decide) (by omega)] at c_7; omega
        refine G.iload_n C 1 dX6_bits_24 rfl rfl ?_
        subst hQ
        exact G.iret C hr dX6_bits_25 (by
            rw [hjn]
            exact ⟨rfl, rfl⟩)
      · have hjn : j < 12 := by
          rw [show (12 : Int32) = nI 12 from rfl, nI_leI (by decide) (by omega)] at c_7; omega
        refine G.iload_n C 1 dX6_bits_10 rfl rfl ?_
        refine G.iload_n C 2 dX6_bits_11 rfl rfl ?_
        refine G.iload_n C 0 dX6_bits_12 rfl rfl ?_
        refine G.ishr C dX6_bits_13 ?_
        refine G.iconst (v := 1) C dX6_bits_14 (by decide) ?_
        refine G.iand C dX6_bits_15 ?_
        refine G.iadd C dX6_bits_16 ?_
        refine G.topi (fun x1_17 ex1_17 => ?_)
        refine G.istore_n (L1 := [(1, .int x1_17), (2, .int (nI j)), (0, .int a)]) C dX6_bits_17 rfl (by decide) rfl ?_
        obtain ⟨x2_18, ex2_18⟩ : ∃ z : Int32, z = (nI j) + 1 := ⟨_, rfl⟩
        refine G.iinc (v := x2_18) (L1 := [(2, .int x2_18), (1, .int x1_17), (0, .int a)]) C 1 dX6_bits_18 rfl (by rw [ex2_18]; rfl) (by decide) rfl ?_
        refine G.goto (tgt := 4) C dX6_bits_21 (by decide) ?_
        refine ih_4  (j + 1) _ _ ?_ ?_ ?_ ?_
        · omega
        · omega
        · rw [ex2_18]; exact nI_1 j
        · exact ex1_17
  refine cut_4 13 0 _ _ ?_ ?_ ?_ ?_
  · omega
  · omega
  · rfl
  · rfl
set_option maxHeartbeats 4000000 in
set_option maxRecDepth 100000 in
theorem ok_X6_isLeaf {w : wD} (hw : wOK w) (σ : wSt) (a : Int32) {l : Nat} (hl : σ.1 20 0 7 = nI l) (hl20 : l ≤ 20) : MI w yX6_isLeaf cX6_isLeaf 2 (some .boolean) 1 22 [.ref (w.2.2.2.1 20 0), .int a] σ (fun r τ => σ = τ ∧ r = wb (inN (σ.1 20 0 7) a)) := by
  refine MI.of hw (by decide +kernel) (Nat.le_of_ble_eq_true rfl) (fun x C hr => ?_)
  suffices key : ∀ Q, Q = QI w x (fun r τ => σ = τ ∧ r = wb (inN (σ.1 20 0 7) a)) → G w x 2 Q 0 [(0, .ref (w.2.2.2.1 20 0)), (1, .int a)] [] σ from key _ rfl
  intro Q hQ
  refine G.iload_n C 1 dX6_isLeaf_0 rfl rfl ?_
  refine G.iconst (v := 0) C dX6_isLeaf_1 (by decide) ?_
  refine G.aload_n C 0 dX6_isLeaf_2 rfl rfl ?_
  refine G.get (g := 20) (i := 0) C 7 none dX6_isLeaf_3 (by decide) rfl rfl uX_X6 (by decide) uf_RX6_88 rfl rfl ?_
  refine G.iconst (v := 1) C dX6_isLeaf_6 (by decide) ?_
  refine G.isub C dX6_isLeaf_7 ?_
  have hM_0 := ok_X6_in hw σ a 0 ((σ.1 20 0 7) - 1)
  refine G.callS C none hM_0 dX6_isLeaf_8 us_X6_in ul_RX6_65 rfl rfl (by decide) (Nat.le_of_ble_eq_true rfl) (fun r_8 τ_8 h_8 => ?_)
  obtain ⟨h_8, e_8⟩ := h_8; subst h_8
  subst hQ
  exact G.zret C hr (by exact wb_nar e_8) dX6_isLeaf_11 (by
      exact ⟨rfl, e_8.trans (by rw [hl]; exact wb_iff (in_pred (by omega)))⟩)
set_option maxHeartbeats 4000000 in
set_option maxRecDepth 100000 in
theorem ok_X6_isMap {w : wD} (hw : wOK w) (σ : wSt) (a : Int32) {c : Nat} (hc : σ.1 20 0 17 = nI c) (hc8 : c ≤ 8) : MI w yX6_isMap cX6_isMap 2 (some .boolean) 1 22 [.ref (w.2.2.2.1 20 0), .int a] σ (fun r τ => σ = τ ∧ r = wb (inN (σ.1 20 0 17) a)) := by
  refine MI.of hw (by decide +kernel) (Nat.le_of_ble_eq_true rfl) (fun x C hr => ?_)
  suffices key : ∀ Q, Q = QI w x (fun r τ => σ = τ ∧ r = wb (inN (σ.1 20 0 17) a)) → G w x 2 Q 0 [(0, .ref (w.2.2.2.1 20 0)), (1, .int a)] [] σ from key _ rfl
  intro Q hQ
  refine G.iload_n C 1 dX6_isMap_0 rfl rfl ?_
  refine G.iconst (v := 0) C dX6_isMap_1 (by decide) ?_
  refine G.aload_n C 0 dX6_isMap_2 rfl rfl ?_
  refine G.get (g := 20) (i := 0) C 17 none dX6_isMap_3 (by decide) rfl rfl uX_X6 (by decide) uf_RX6_108 rfl rfl ?_
  refine G.iconst (v := 1) C dX6_isMap_6 (by decide) ?_
  refine G.isub C dX6_isMap_7 ?_
  have hM_0 := ok_X6_in hw σ a 0 ((σ.1 20 0 17) - 1)
  refine G.callS C none hM_0 dX6_isMap_8 us_X6_in ul_RX6_65 rfl rfl (by decide) (Nat.le_of_ble_eq_true rfl) (fun r_8 τ_8 h_8 => ?_)
  obtain ⟨h_8, e_8⟩ := h_8; subst h_8
  subst hQ
  exact G.zret C hr (by exact wb_nar e_8) dX6_isMap_11 (by
      exact ⟨rfl, e_8.trans (by rw [hc]; exact wb_iff (in_pred (by omega)))⟩)
set_option maxHeartbeats 4000000 in
set_option maxRecDepth 100000 in
theorem ok_X6_isBook {w : wD} (hw : wOK w) (σ : wSt) (a : Int32)  : MI w yX6_isBook cX6_isBook 1 (some .boolean) 1 22 [.int a] σ (fun r τ => σ = τ ∧ r = wb (0 ≤ a ∧ a < 4)) := by
  refine MI.of hw (by decide +kernel) (Nat.le_of_ble_eq_true rfl) (fun x C hr => ?_)
  suffices key : ∀ Q, Q = QI w x (fun r τ => σ = τ ∧ r = wb (0 ≤ a ∧ a < 4)) → G w x 1 Q 0 [(0, .int a)] [] σ from key _ rfl
  intro Q hQ
  refine G.iload_n C 0 dX6_isBook_0 rfl rfl ?_
  refine G.iconst (v := 0) C dX6_isBook_1 (by decide) ?_
  refine G.iconst (v := 3) C dX6_isBook_2 (by decide) ?_
  have hM_0 := ok_X6_in hw σ a 0 3
  refine G.callS C none hM_0 dX6_isBook_3 us_X6_in ul_RX6_65 rfl rfl (by decide) (Nat.le_of_ble_eq_true rfl) (fun r_3 τ_3 h_3 => ?_)
  obtain ⟨h_3, e_3⟩ := h_3; subst h_3
  subst hQ
  exact G.zret C hr (by exact wb_nar e_3) dX6_isBook_6 (by
      exact ⟨rfl, e_3.trans (wb_iff w_le3)⟩)
set_option maxHeartbeats 4000000 in
set_option maxRecDepth 100000 in
theorem ok_X6_state {w : wD} (hw : wOK w) (σ : wSt) (a b c : Int32) (hz : σ.1 20 0 0 = 0) {n : Nat} (hn : σ.1 20 0 2 = nI n) (h6 : n ≤ 6) : MI w yX6_state cX6_state 4 (some .int) 2 43 [.ref (w.2.2.2.1 20 0), .int a, .int b, .int c] σ (fun r τ => (¬ (rng12 a ∧ okYY b c) ∧ σ = τ ∧ r = -1) ∨ ((rng12 a ∧ okYY b c) ∧ ((6 ≤ n ∧ σ = τ ∧ r = -3) ∨ (n < 6 ∧ wUp (wUp (wUp (wUp σ 21 0 n a) 22 0 n b) 23 0 n c) 20 0 2 (nI (n + 1)) = τ ∧ r = nI n)))) := by
  refine MI.of hw (by decide +kernel) (Nat.le_of_ble_eq_true rfl) (fun x C hr => ?_)
  suffices key : ∀ Q, Q = QI w x (fun r τ => (¬ (rng12 a ∧ okYY b c) ∧ σ = τ ∧ r = -1) ∨ ((rng12 a ∧ okYY b c) ∧ ((6 ≤ n ∧ σ = τ ∧ r = -3) ∨ (n < 6 ∧ wUp (wUp (wUp (wUp σ 21 0 n a) 22 0 n b) 23 0 n c) 20 0 2 (nI (n + 1)) = τ ∧ r = nI n)))) → G w x 4 Q 0 [(0, .ref (w.2.2.2.1 20 0)), (1, .int a), (2, .int b), (3, .int c)] [] σ from key _ rfl
  intro Q hQ
  refine G.aload_n C 0 dX6_state_0 rfl rfl ?_
  refine G.iconst (v := 0) C dX6_state_1 (by decide) ?_
  refine G.put (g := 20) (i := 0) C 0 none dX6_state_2 (by decide) rfl rfl uX_X6 tyX6 tyX6_ok nmX6 (by decide) uf_RX6_61 rfl rfl (by decide +kernel) (Nat.le_of_ble_eq_true rfl) w_up_20_0 ?_
  rw [wUp_id hz]
  refine G.iload_n C 1 dX6_state_5 rfl rfl ?_
  refine G.iconst (v := 0) C dX6_state_6 (by decide) ?_
  refine G.sipush (v := 4095) C dX6_state_7 (by decide) ?_
  have hM_0 := ok_X6_in hw σ a 0 4095
  refine G.callS C none hM_0 dX6_state_10 us_X6_in ul_RX6_65 rfl rfl (by decide) (Nat.le_of_ble_eq_true rfl) (fun r_10 τ_10 h_10 => ?_)
  obtain ⟨h_10, e_10⟩ := h_10; subst h_10
  refine G.if_eq (tgt := 24) C dX6_state_13 (by decide) (fun c_13 => ?_) (fun c_13 => ?_)
  · have b_10 := wb_0 e_10 c_13
    refine G.iconst (v := -1) C dX6_state_24 (by decide) ?_
    subst hQ
    exact G.iret C hr dX6_state_25 (by
        refine Or.inl ⟨fun q => ?_, rfl, rfl⟩
        first | exact b_10 q.1 | exact b_18 q.2)
  · have b_10 := wb_1 e_10 c_13
    refine G.iload_n C 2 dX6_state_16 rfl rfl ?_
    refine G.iload_n C 3 dX6_state_17 rfl rfl ?_
    have hM_1 := ok_X6_isYears hw σ b c
    refine G.callS C none hM_1 dX6_state_18 us_X6_isYears ul_RX6_69 rfl rfl (by decide) (Nat.le_of_ble_eq_true rfl) (fun r_18 τ_18 h_18 => ?_)
    obtain ⟨h_18, e_18⟩ := h_18; subst h_18
    refine G.if_ne (tgt := 26) C dX6_state_21 (by decide) (fun c_21 => ?_) (fun c_21 => ?_)
    · have b_18 := wb_1 e_18 c_21
      refine G.aload_n C 0 dX6_state_26 rfl rfl ?_
      refine G.get (g := 20) (i := 0) C 2 none dX6_state_27 (by decide) rfl rfl uX_X6 (by decide) uf_RX6_73 rfl rfl ?_
      refine G.bipush (v := 6) C dX6_state_30 (by decide) ?_
      refine G.icmp_ne (tgt := 38) C dX6_state_32 (by decide) (fun c_32 => ?_) (fun c_32 => ?_)
      · have hh9 : n < 6 := by
          refine seven (by omega) (fun q => c_32 ?_)
          rw [hn, q]; rfl
        refine G.aload_n C 0 dX6_state_38 rfl rfl ?_
        refine G.get (g := 20) (i := 0) C 3 none dX6_state_39 (by decide) rfl rfl uX_X6 (by decide) uf_RX6_7 rfl rfl ?_
        refine G.aload_n C 0 dX6_state_42 rfl rfl ?_
        refine G.get (g := 20) (i := 0) C 2 none dX6_state_43 (by decide) rfl rfl uX_X6 (by decide) uf_RX6_73 rfl rfl ?_
        refine G.iload_n C 1 dX6_state_46 rfl rfl ?_
        have hin_47 : vp_in (σ.1 20 0 2) 6 := by
          simp only [hn]
          exact vp_in_nI (by omega) (by decide)
        refine G.iast (g := 21) (i := 0) (n := 6) C dX6_state_47 (by decide) rfl hin_47 w_ast_21 ?_
        refine G.aload_n C 0 dX6_state_48 rfl rfl ?_
        refine G.get (g := 20) (i := 0) C 4 none dX6_state_49 (by decide) rfl rfl uX_X6 (by decide) uf_RX6_13 rfl rfl ?_
        refine G.aload_n C 0 dX6_state_52 rfl rfl ?_
        refine G.get (g := 20) (i := 0) C 2 none dX6_state_53 (by decide) rfl rfl uX_X6 (by decide) uf_RX6_73 rfl rfl ?_
        refine G.iload_n C 2 dX6_state_56 rfl rfl ?_
        have hin_57 : vp_in ((wUp σ 21 0 (σ.1 20 0 2).toNatClampNeg a).1 20 0 2) 6 := by
          simp only [wUp_ng (show 20 ≠ 21 by decide), hn]
          exact vp_in_nI (by omega) (by decide)
        refine G.iast (g := 22) (i := 0) (n := 6) C dX6_state_57 (by decide) rfl hin_57 w_ast_22 ?_
        refine G.aload_n C 0 dX6_state_58 rfl rfl ?_
        refine G.get (g := 20) (i := 0) C 5 none dX6_state_59 (by decide) rfl rfl uX_X6 (by decide) uf_RX6_16 rfl rfl ?_
        refine G.aload_n C 0 dX6_state_62 rfl rfl ?_
        refine G.get (g := 20) (i := 0) C 2 none dX6_state_63 (by decide) rfl rfl uX_X6 (by decide) uf_RX6_73 rfl rfl ?_
        refine G.iload_n C 3 dX6_state_66 rfl rfl ?_
        have hin_67 : vp_in ((wUp (wUp σ 21 0 (σ.1 20 0 2).toNatClampNeg a) 22 0 ((wUp σ 21 0 (σ.1 20 0 2).toNatClampNeg a).1 20 0 2).toNatClampNeg b).1 20 0 2) 6 := by
          simp only [wUp_ng (show 20 ≠ 21 by decide), wUp_ng (show 20 ≠ 22 by decide), hn]
          exact vp_in_nI (by omega) (by decide)
        refine G.iast (g := 23) (i := 0) (n := 6) C dX6_state_67 (by decide) rfl hin_67 w_ast_23 ?_
        refine G.aload_n C 0 dX6_state_68 rfl rfl ?_
        refine G.dup C dX6_state_69 rfl ?_
        refine G.get (g := 20) (i := 0) C 2 none dX6_state_70 (by decide) rfl rfl uX_X6 (by decide) uf_RX6_73 rfl rfl ?_
        refine G.iconst (v := 1) C dX6_state_73 (by decide) ?_
        refine G.iadd C dX6_state_74 ?_
        refine G.put (g := 20) (i := 0) C 2 none dX6_state_75 (by decide) rfl rfl uX_X6 tyX6 tyX6_ok nmX6 (by decide) uf_RX6_73 rfl rfl (by decide +kernel) (Nat.le_of_ble_eq_true rfl) w_up_20_2 ?_
        refine G.aload_n C 0 dX6_state_78 rfl rfl ?_
        refine G.get (g := 20) (i := 0) C 2 none dX6_state_79 (by decide) rfl rfl uX_X6 (by decide) uf_RX6_73 rfl rfl ?_
        refine G.iconst (v := 1) C dX6_state_82 (by decide) ?_
        refine G.isub C dX6_state_83 ?_
        subst hQ
        exact G.iret C hr dX6_state_84 (by
            refine Or.inr ⟨⟨b_10, b_18⟩, Or.inr ⟨hh9, ?_, ?_⟩⟩
            · simp only [wUp_ng (show 20 ≠ 21 by decide), wUp_ng (show 20 ≠ 22 by decide), wUp_ng (show 20 ≠ 23 by decide), wUp_eq, hn, nI_clamp (show n < 2 ^ 31 by omega), nI_1, nI_pred]
            · simp only [wUp_ng (show 20 ≠ 21 by decide), wUp_ng (show 20 ≠ 22 by decide), wUp_ng (show 20 ≠ 23 by decide), wUp_eq, hn, nI_clamp (show n < 2 ^ 31 by omega), nI_1, nI_pred])
      · have hh9 : 6 ≤ n := by
          rw [hn, show (6 : Int32) = nI 6 from rfl, nI_eq (by omega) (by decide)] at c_32
          omega
        refine G.bipush (v := -3) C dX6_state_35 (by decide) ?_
        subst hQ
        exact G.iret C hr dX6_state_37 (by
            exact Or.inr ⟨⟨b_10, b_18⟩, Or.inl ⟨hh9, rfl, rfl⟩⟩)
    · have b_18 := wb_0 e_18 c_21
      refine G.iconst (v := -1) C dX6_state_24 (by decide) ?_
      subst hQ
      exact G.iret C hr dX6_state_25 (by
          refine Or.inl ⟨fun q => ?_, rfl, rfl⟩
          first | exact b_10 q.1 | exact b_18 q.2)
set_option maxHeartbeats 4000000 in
set_option maxRecDepth 100000 in
theorem ok_X6_about {w : wD} (hw : wOK w) (σ : wSt) (a b : Int32) (hz : σ.1 20 0 0 = 0) {n : Nat} (hn : σ.1 20 0 2 = nI n) (h6 : n ≤ 6) : MI w yX6_about cX6_about 3 (some .int) 1 22 [.ref (w.2.2.2.1 20 0), .int a, .int b] σ (fun r τ => σ = τ ∧ ((¬ (inN (σ.1 20 0 2) a ∧ 0 ≤ b ∧ b ≤ 2) ∧ r = -1) ∨ ((inN (σ.1 20 0 2) a ∧ 0 ≤ b ∧ b ≤ 2) ∧ r = if b = 0 then σ.1 21 0 a.toNatClampNeg else if b = 1 then σ.1 22 0 a.toNatClampNeg else σ.1 23 0 a.toNatClampNeg))) := by
  refine MI.of hw (by decide +kernel) (Nat.le_of_ble_eq_true rfl) (fun x C hr => ?_)
  suffices key : ∀ Q, Q = QI w x (fun r τ => σ = τ ∧ ((¬ (inN (σ.1 20 0 2) a ∧ 0 ≤ b ∧ b ≤ 2) ∧ r = -1) ∨ ((inN (σ.1 20 0 2) a ∧ 0 ≤ b ∧ b ≤ 2) ∧ r = if b = 0 then σ.1 21 0 a.toNatClampNeg else if b = 1 then σ.1 22 0 a.toNatClampNeg else σ.1 23 0 a.toNatClampNeg))) → G w x 3 Q 0 [(0, .ref (w.2.2.2.1 20 0)), (1, .int a), (2, .int b)] [] σ from key _ rfl
  intro Q hQ
  refine G.aload_n C 0 dX6_about_0 rfl rfl ?_
  refine G.iconst (v := 0) C dX6_about_1 (by decide) ?_
  refine G.put (g := 20) (i := 0) C 0 none dX6_about_2 (by decide) rfl rfl uX_X6 tyX6 tyX6_ok nmX6 (by decide) uf_RX6_61 rfl rfl (by decide +kernel) (Nat.le_of_ble_eq_true rfl) w_up_20_0 ?_
  rw [wUp_id hz]
  refine G.iload_n C 1 dX6_about_5 rfl rfl ?_
  refine G.iconst (v := 0) C dX6_about_6 (by decide) ?_
  refine G.aload_n C 0 dX6_about_7 rfl rfl ?_
  refine G.get (g := 20) (i := 0) C 2 none dX6_about_8 (by decide) rfl rfl uX_X6 (by decide) uf_RX6_73 rfl rfl ?_
  refine G.iconst (v := 1) C dX6_about_11 (by decide) ?_
  refine G.isub C dX6_about_12 ?_
  have hM_0 := ok_X6_in hw σ a 0 ((σ.1 20 0 2) - 1)
  refine G.callS C none hM_0 dX6_about_13 us_X6_in ul_RX6_65 rfl rfl (by decide) (Nat.le_of_ble_eq_true rfl) (fun r_13 τ_13 h_13 => ?_)
  obtain ⟨h_13, e_13⟩ := h_13; subst h_13
  rw [hn] at e_13
  rw [wb_iff (in_pred (by omega))] at e_13
  rw [← hn] at e_13
  refine G.if_eq (tgt := 28) C dX6_about_16 (by decide) (fun c_16 => ?_) (fun c_16 => ?_)
  · have b_13 := wb_0 e_13 c_16
    refine G.iconst (v := -1) C dX6_about_28 (by decide) ?_
    subst hQ
    exact G.iret C hr dX6_about_29 (by
        refine ⟨rfl, Or.inl ⟨fun q => ?_, rfl⟩⟩
        first | exact b_13 q.1 | exact b_22 q.2)
  · have b_13 := wb_1 e_13 c_16
    refine G.iload_n C 2 dX6_about_19 rfl rfl ?_
    refine G.iconst (v := 0) C dX6_about_20 (by decide) ?_
    refine G.iconst (v := 2) C dX6_about_21 (by decide) ?_
    have hM_1 := ok_X6_in hw σ b 0 2
    refine G.callS C none hM_1 dX6_about_22 us_X6_in ul_RX6_65 rfl rfl (by decide) (Nat.le_of_ble_eq_true rfl) (fun r_22 τ_22 h_22 => ?_)
    obtain ⟨h_22, e_22⟩ := h_22; subst h_22
    refine G.if_ne (tgt := 30) C dX6_about_25 (by decide) (fun c_25 => ?_) (fun c_25 => ?_)
    · have b_22 := wb_1 e_22 c_25
      refine G.iload_n C 2 dX6_about_30 rfl rfl ?_
      refine G.if_ne (tgt := 43) C dX6_about_31 (by decide) (fun c_31 => ?_) (fun c_31 => ?_)
      · refine G.iload_n C 2 dX6_about_43 rfl rfl ?_
        refine G.iconst (v := 1) C dX6_about_44 (by decide) ?_
        refine G.icmp_ne (tgt := 57) C dX6_about_45 (by decide) (fun c_45 => ?_) (fun c_45 => ?_)
        · refine G.aload_n C 0 dX6_about_57 rfl rfl ?_
          refine G.get (g := 20) (i := 0) C 5 none dX6_about_58 (by decide) rfl rfl uX_X6 (by decide) uf_RX6_16 rfl rfl ?_
          refine G.iload_n C 1 dX6_about_61 rfl rfl ?_
          have hin_62 : vp_in a 6 := by
            exact vp_ofc b_13 hn h6 (by decide)
          refine G.iald (g := 23) (i := 0) (n := 6) C dX6_about_62 (by decide) rfl hin_62 ?_
          subst hQ
          exact G.iret C hr dX6_about_63 (by
              refine ⟨rfl, Or.inr ⟨⟨b_13, b_22⟩, ?_⟩⟩
              rw [if_neg c_31, if_neg c_45])
        · refine G.aload_n C 0 dX6_about_48 rfl rfl ?_
          refine G.get (g := 20) (i := 0) C 4 none dX6_about_49 (by decide) rfl rfl uX_X6 (by decide) uf_RX6_13 rfl rfl ?_
          refine G.iload_n C 1 dX6_about_52 rfl rfl ?_
          have hin_53 : vp_in a 6 := by
            exact vp_ofc b_13 hn h6 (by decide)
          refine G.iald (g := 22) (i := 0) (n := 6) C dX6_about_53 (by decide) rfl hin_53 ?_
          refine G.goto (tgt := 63) C dX6_about_54 (by decide) ?_
          subst hQ
          exact G.iret C hr dX6_about_63 (by
              refine ⟨rfl, Or.inr ⟨⟨b_13, b_22⟩, ?_⟩⟩
              rw [if_neg c_31, if_pos c_45])
      · refine G.aload_n C 0 dX6_about_34 rfl rfl ?_
        refine G.get (g := 20) (i := 0) C 3 none dX6_about_35 (by decide) rfl rfl uX_X6 (by decide) uf_RX6_7 rfl rfl ?_
        refine G.iload_n C 1 dX6_about_38 rfl rfl ?_
        have hin_39 : vp_in a 6 := by
          exact vp_ofc b_13 hn h6 (by decide)
        refine G.iald (g := 21) (i := 0) (n := 6) C dX6_about_39 (by decide) rfl hin_39 ?_
        refine G.goto (tgt := 63) C dX6_about_40 (by decide) ?_
        subst hQ
        exact G.iret C hr dX6_about_63 (by
            refine ⟨rfl, Or.inr ⟨⟨b_13, b_22⟩, ?_⟩⟩
            rw [if_pos c_31])
    · have b_22 := wb_0 e_22 c_25
      refine G.iconst (v := -1) C dX6_about_28 (by decide) ?_
      subst hQ
      exact G.iret C hr dX6_about_29 (by
          refine ⟨rfl, Or.inl ⟨fun q => ?_, rfl⟩⟩
          first | exact b_13 q.1 | exact b_22 q.2)
set_option maxHeartbeats 4000000 in
set_option maxRecDepth 100000 in
theorem ok_X6_set {w : wD} (hw : wOK w) (σ : wSt) (a b : Int32) (hz : σ.1 20 0 0 = 0) : MI w yX6_set cX6_set 4 (some .int) 1 22 [.ref (w.2.2.2.1 20 0), .int a, .int b] σ (fun r τ => (¬ (0 ≤ b ∧ b ≤ mostC a) ∧ σ = τ ∧ r = -1) ∨ ((0 ≤ b ∧ b ≤ mostC a) ∧ (0 ≤ a ∧ a ≤ 4) ∧ wUp σ 24 0 a.toNatClampNeg b = τ ∧ r = σ.1 24 0 a.toNatClampNeg)) := by
  refine MI.of hw (by decide +kernel) (Nat.le_of_ble_eq_true rfl) (fun x C hr => ?_)
  suffices key : ∀ Q, Q = QI w x (fun r τ => (¬ (0 ≤ b ∧ b ≤ mostC a) ∧ σ = τ ∧ r = -1) ∨ ((0 ≤ b ∧ b ≤ mostC a) ∧ (0 ≤ a ∧ a ≤ 4) ∧ wUp σ 24 0 a.toNatClampNeg b = τ ∧ r = σ.1 24 0 a.toNatClampNeg)) → G w x 4 Q 0 [(0, .ref (w.2.2.2.1 20 0)), (1, .int a), (2, .int b)] [] σ from key _ rfl
  intro Q hQ
  refine G.aload_n C 0 dX6_set_0 rfl rfl ?_
  refine G.iconst (v := 0) C dX6_set_1 (by decide) ?_
  refine G.put (g := 20) (i := 0) C 0 none dX6_set_2 (by decide) rfl rfl uX_X6 tyX6 tyX6_ok nmX6 (by decide) uf_RX6_61 rfl rfl (by decide +kernel) (Nat.le_of_ble_eq_true rfl) w_up_20_0 ?_
  rw [wUp_id hz]
  refine G.iload_n C 1 dX6_set_5 rfl rfl ?_
  refine G.iconst (v := 0) C dX6_set_6 (by decide) ?_
  refine G.iconst (v := 4) C dX6_set_7 (by decide) ?_
  have hM_0 := ok_X6_in hw σ a 0 4
  refine G.callS C none hM_0 dX6_set_8 us_X6_in ul_RX6_65 rfl rfl (by decide) (Nat.le_of_ble_eq_true rfl) (fun r_8 τ_8 h_8 => ?_)
  obtain ⟨h_8, e_8⟩ := h_8; subst h_8
  refine G.if_eq (tgt := 44) C dX6_set_11 (by decide) (fun c_11 => ?_) (fun c_11 => ?_)
  · have b_8 := wb_0 e_8 c_11
    refine G.iconst (v := -1) C dX6_set_44 (by decide) ?_
    subst hQ
    exact G.iret C hr dX6_set_45 (by
        refine Or.inl ⟨fun q => ?_, rfl, rfl⟩
        exact b_8 (mostC_in q.1 q.2))
  · have b_8 := wb_1 e_8 c_11
    refine G.iload_n C 2 dX6_set_14 rfl rfl ?_
    refine G.iconst (v := 0) C dX6_set_15 (by decide) ?_
    refine G.iload_n C 1 dX6_set_16 rfl rfl ?_
    refine G.iconst (v := 2) C dX6_set_17 (by decide) ?_
    refine G.icmp_ne (tgt := 26) C dX6_set_18 (by decide) (fun c_18 => ?_) (fun c_18 => ?_)
    · refine G.iload_n C 1 dX6_set_26 rfl rfl ?_
      refine G.iconst (v := 4) C dX6_set_27 (by decide) ?_
      refine G.icmp_ne (tgt := 36) C dX6_set_28 (by decide) (fun c_28 => ?_) (fun c_28 => ?_)
      · refine G.bipush (v := 9) C dX6_set_36 (by decide) ?_
        have hM_1 := ok_X6_in hw σ b 0 9
        refine G.callS C none hM_1 dX6_set_38 us_X6_in ul_RX6_65 rfl rfl (by decide) (Nat.le_of_ble_eq_true rfl) (fun r_38 τ_38 h_38 => ?_)
        obtain ⟨h_38, e_38⟩ := h_38; subst h_38
        refine G.if_ne (tgt := 46) C dX6_set_41 (by decide) (fun c_41 => ?_) (fun c_41 => ?_)
        · have b_38 := wb_1 e_38 c_41
          refine G.aload_n C 0 dX6_set_46 rfl rfl ?_
          refine G.get (g := 20) (i := 0) C 6 none dX6_set_47 (by decide) rfl rfl uX_X6 (by decide) uf_RX6_19 rfl rfl ?_
          refine G.iload_n C 1 dX6_set_50 rfl rfl ?_
          have hin_51 : vp_in a 5 := by
            exact vp_04 b_8
          refine G.iald (g := 24) (i := 0) (n := 5) C dX6_set_51 (by decide) rfl hin_51 ?_
          refine G.topi (fun x3_52 ex3_52 => ?_)
          refine G.istore_n (L1 := [(3, .int x3_52), (0, .ref (w.2.2.2.1 20 0)), (1, .int a), (2, .int b)]) C dX6_set_52 rfl (by decide) rfl ?_
          refine G.aload_n C 1 dX6_set_53 rfl rfl ?_
          refine G.get (g := 20) (i := 0) C 6 none dX6_set_54 (by decide) rfl rfl uX_X6 (by decide) uf_RX6_19 rfl rfl ?_
          refine G.iload_n C 2 dX6_set_57 rfl rfl ?_
          refine G.iload_n C 3 dX6_set_58 rfl rfl ?_
          have hin_59 : vp_in a 5 := by
            exact vp_04 b_8
          refine G.iast (g := 24) (i := 0) (n := 5) C dX6_set_59 (by decide) rfl hin_59 w_ast_24 ?_
          refine G.iload_n C 0 dX6_set_60 rfl rfl ?_
          subst hQ
          exact G.iret C hr dX6_set_61 (by
              refine Or.inr ⟨?_, b_8, rfl, ex3_52⟩
              rw [mostM b_8, if_neg c_18, if_neg c_28]
              exact b_38)
        · have b_38 := wb_0 e_38 c_41
          refine G.iconst (v := -1) C dX6_set_44 (by decide) ?_
          subst hQ
          exact G.iret C hr dX6_set_45 (by
              refine Or.inl ⟨fun q => ?_, rfl, rfl⟩
              rw [mostM b_8] at q
              rw [if_neg c_18, if_neg c_28] at q
              exact b_38 q)
      · refine G.bipush (v := 20) C dX6_set_31 (by decide) ?_
        refine G.goto (tgt := 38) C dX6_set_33 (by decide) ?_
        have hM_2 := ok_X6_in hw σ b 0 20
        refine G.callS C none hM_2 dX6_set_38 us_X6_in ul_RX6_65 rfl rfl (by decide) (Nat.le_of_ble_eq_true rfl) (fun r_38 τ_38 h_38 => ?_)
        obtain ⟨h_38, e_38⟩ := h_38; subst h_38
        refine G.if_ne (tgt := 46) C dX6_set_41 (by decide) (fun c_41 => ?_) (fun c_41 => ?_)
        · have b_38 := wb_1 e_38 c_41
          refine G.aload_n C 0 dX6_set_46 rfl rfl ?_
          refine G.get (g := 20) (i := 0) C 6 none dX6_set_47 (by decide) rfl rfl uX_X6 (by decide) uf_RX6_19 rfl rfl ?_
          refine G.iload_n C 1 dX6_set_50 rfl rfl ?_
          have hin_51 : vp_in a 5 := by
            exact vp_04 b_8
          refine G.iald (g := 24) (i := 0) (n := 5) C dX6_set_51 (by decide) rfl hin_51 ?_
          refine G.topi (fun x3_52 ex3_52 => ?_)
          refine G.istore_n (L1 := [(3, .int x3_52), (0, .ref (w.2.2.2.1 20 0)), (1, .int a), (2, .int b)]) C dX6_set_52 rfl (by decide) rfl ?_
          refine G.aload_n C 1 dX6_set_53 rfl rfl ?_
          refine G.get (g := 20) (i := 0) C 6 none dX6_set_54 (by decide) rfl rfl uX_X6 (by decide) uf_RX6_19 rfl rfl ?_
          refine G.iload_n C 2 dX6_set_57 rfl rfl ?_
          refine G.iload_n C 3 dX6_set_58 rfl rfl ?_
          have hin_59 : vp_in a 5 := by
            exact vp_04 b_8
          refine G.iast (g := 24) (i := 0) (n := 5) C dX6_set_59 (by decide) rfl hin_59 w_ast_24 ?_
          refine G.iload_n C 0 dX6_set_60 rfl rfl ?_
          subst hQ
          exact G.iret C hr dX6_set_61 (by
              refine Or.inr ⟨?_, b_8, rfl, ex3_52⟩
              rw [mostM b_8, if_neg c_18, if_pos c_28]
              exact b_38)
        · have b_38 := wb_0 e_38 c_41
          refine G.iconst (v := -1) C dX6_set_44 (by decide) ?_
          subst hQ
          exact G.iret C hr dX6_set_45 (by
              refine Or.inl ⟨fun q => ?_, rfl, rfl⟩
              rw [mostM b_8] at q
              rw [if_neg c_18, if_pos c_28] at q
              exact b_38 q)
    · refine G.bipush (v := 50) C dX6_set_21 (by decide) ?_
      refine G.goto (tgt := 38) C dX6_set_23 (by decide) ?_
      have hM_3 := ok_X6_in hw σ b 0 50
      refine G.callS C none hM_3 dX6_set_38 us_X6_in ul_RX6_65 rfl rfl (by decide) (Nat.le_of_ble_eq_true rfl) (fun r_38 τ_38 h_38 => ?_)
      obtain ⟨h_38, e_38⟩ := h_38; subst h_38
      refine G.if_ne (tgt := 46) C dX6_set_41 (by decide) (fun c_41 => ?_) (fun c_41 => ?_)
      · have b_38 := wb_1 e_38 c_41
        refine G.aload_n C 0 dX6_set_46 rfl rfl ?_
        refine G.get (g := 20) (i := 0) C 6 none dX6_set_47 (by decide) rfl rfl uX_X6 (by decide) uf_RX6_19 rfl rfl ?_
        refine G.iload_n C 1 dX6_set_50 rfl rfl ?_
        have hin_51 : vp_in a 5 := by
          exact vp_04 b_8
        refine G.iald (g := 24) (i := 0) (n := 5) C dX6_set_51 (by decide) rfl hin_51 ?_
        refine G.topi (fun x3_52 ex3_52 => ?_)
        refine G.istore_n (L1 := [(3, .int x3_52), (0, .ref (w.2.2.2.1 20 0)), (1, .int a), (2, .int b)]) C dX6_set_52 rfl (by decide) rfl ?_
        refine G.aload_n C 1 dX6_set_53 rfl rfl ?_
        refine G.get (g := 20) (i := 0) C 6 none dX6_set_54 (by decide) rfl rfl uX_X6 (by decide) uf_RX6_19 rfl rfl ?_
        refine G.iload_n C 2 dX6_set_57 rfl rfl ?_
        refine G.iload_n C 3 dX6_set_58 rfl rfl ?_
        have hin_59 : vp_in a 5 := by
          exact vp_04 b_8
        refine G.iast (g := 24) (i := 0) (n := 5) C dX6_set_59 (by decide) rfl hin_59 w_ast_24 ?_
        refine G.iload_n C 0 dX6_set_60 rfl rfl ?_
        subst hQ
        exact G.iret C hr dX6_set_61 (by
            refine Or.inr ⟨?_, b_8, rfl, ex3_52⟩
            rw [mostM b_8, if_pos c_18]
            exact b_38)
      · have b_38 := wb_0 e_38 c_41
        refine G.iconst (v := -1) C dX6_set_44 (by decide) ?_
        subst hQ
        exact G.iret C hr dX6_set_45 (by
            refine Or.inl ⟨fun q => ?_, rfl, rfl⟩
            rw [mostM b_8] at q
            rw [if_pos c_18] at q
            exact b_38 q)
set_option maxHeartbeats 4000000 in
set_option maxRecDepth 100000 in
theorem ok_X6_leaf {w : wD} (hw : wOK w) (σ : wSt) (a b c d : Int32) (hz : σ.1 20 0 0 = 0) {l : Nat} (hl : σ.1 20 0 7 = nI l) (hl20 : l ≤ 20) : MI w yX6_leaf cX6_leaf 5 (some .int) 1 22 [.ref (w.2.2.2.1 20 0), .int a, .int b, .int c, .int d] σ (fun r τ => (¬ okLeaf a b c d ∧ σ = τ ∧ r = -1) ∨ (okLeaf a b c d ∧ 20 ≤ l ∧ σ = τ ∧ r = -3) ∨ (okLeaf a b c d ∧ l < 20 ∧ wUp (wUp (wUp (wUp (wUp (wUp (wUp σ 25 0 l a) 26 0 l b) 27 0 l c) 28 0 l d) 29 0 l (-9)) 30 0 l (-9)) 20 0 7 (nI (l + 1)) = τ ∧ r = nI l)) := by
  refine MI.of hw (by decide +kernel) (Nat.le_of_ble_eq_true rfl) (fun x C hr => ?_)
  suffices key : ∀ Q, Q = QI w x (fun r τ => (¬ okLeaf a b c d ∧ σ = τ ∧ r = -1) ∨ (okLeaf a b c d ∧ 20 ≤ l ∧ σ = τ ∧ r = -3) ∨ (okLeaf a b c d ∧ l < 20 ∧ wUp (wUp (wUp (wUp (wUp (wUp (wUp σ 25 0 l a) 26 0 l b) 27 0 l c) 28 0 l d) 29 0 l (-9)) 30 0 l (-9)) 20 0 7 (nI (l + 1)) = τ ∧ r = nI l)) → G w x 5 Q 0 [(0, .ref (w.2.2.2.1 20 0)), (1, .int a), (2, .int b), (3, .int c), (4, .int d)] [] σ from key _ rfl
  intro Q hQ
  refine G.aload_n C 0 dX6_leaf_0 rfl rfl ?_
  refine G.iconst (v := 0) C dX6_leaf_1 (by decide) ?_
  refine G.put (g := 20) (i := 0) C 0 none dX6_leaf_2 (by decide) rfl rfl uX_X6 tyX6 tyX6_ok nmX6 (by decide) uf_RX6_61 rfl rfl (by decide +kernel) (Nat.le_of_ble_eq_true rfl) w_up_20_0 ?_
  rw [wUp_id hz]
  refine G.iload_n C 1 dX6_leaf_5 rfl rfl ?_
  refine G.iconst (v := 0) C dX6_leaf_6 (by decide) ?_
  refine G.sipush (v := 4095) C dX6_leaf_7 (by decide) ?_
  have hM_0 := ok_X6_in hw σ a 0 4095
  refine G.callS C none hM_0 dX6_leaf_10 us_X6_in ul_RX6_65 rfl rfl (by decide) (Nat.le_of_ble_eq_true rfl) (fun r_10 τ_10 h_10 => ?_)
  obtain ⟨h_10, e_10⟩ := h_10; subst h_10
  refine G.if_eq (tgt := 54) C dX6_leaf_13 (by decide) (fun c_13 => ?_) (fun c_13 => ?_)
  · have b_10 := wb_0 e_10 c_13
    refine G.iconst (v := -1) C dX6_leaf_54 (by decide) ?_
    subst hQ
    exact G.iret C hr dX6_leaf_55 (by
        refine Or.inl ⟨fun q => ?_, rfl, rfl⟩
        obtain ⟨q1, q2, q3, q4, q5⟩ := q
        first | exact b_10 q1 | exact b_21 q2 | exact c_30 q3 | exact b_38 q4 | exact b_48 q5)
  · have b_10 := wb_1 e_10 c_13
    refine G.iload_n C 2 dX6_leaf_16 rfl rfl ?_
    refine G.iconst (v := 0) C dX6_leaf_17 (by decide) ?_
    refine G.sipush (v := 4095) C dX6_leaf_18 (by decide) ?_
    have hM_1 := ok_X6_in hw σ b 0 4095
    refine G.callS C none hM_1 dX6_leaf_21 us_X6_in ul_RX6_65 rfl rfl (by decide) (Nat.le_of_ble_eq_true rfl) (fun r_21 τ_21 h_21 => ?_)
    obtain ⟨h_21, e_21⟩ := h_21; subst h_21
    refine G.if_eq (tgt := 54) C dX6_leaf_24 (by decide) (fun c_24 => ?_) (fun c_24 => ?_)
    · have b_21 := wb_0 e_21 c_24
      refine G.iconst (v := -1) C dX6_leaf_54 (by decide) ?_
      subst hQ
      exact G.iret C hr dX6_leaf_55 (by
          refine Or.inl ⟨fun q => ?_, rfl, rfl⟩
          obtain ⟨q1, q2, q3, q4, q5⟩ := q
          first | exact b_10 q1 | exact b_21 q2 | exact c_30 q3 | exact b_38 q4 | exact b_48 q5)
    · have b_21 := wb_1 e_21 c_24
      refine G.iload_n C 1 dX6_leaf_27 rfl rfl ?_
      refine G.iload_n C 2 dX6_leaf_28 rfl rfl ?_
      refine G.iand C dX6_leaf_29 ?_
      refine G.if_ne (tgt := 54) C dX6_leaf_30 (by decide) (fun c_30 => ?_) (fun c_30 => ?_)
      · refine G.iconst (v := -1) C dX6_leaf_54 (by decide) ?_
        subst hQ
        exact G.iret C hr dX6_leaf_55 (by
            refine Or.inl ⟨fun q => ?_, rfl, rfl⟩
            obtain ⟨q1, q2, q3, q4, q5⟩ := q
            first | exact b_10 q1 | exact b_21 q2 | exact c_30 q3 | exact b_38 q4 | exact b_48 q5)
      · refine G.iload_n C 3 dX6_leaf_33 rfl rfl ?_
        refine G.iconst (v := 0) C dX6_leaf_34 (by decide) ?_
        refine G.sipush (v := 1000) C dX6_leaf_35 (by decide) ?_
        have hM_2 := ok_X6_in hw σ c 0 1000
        refine G.callS C none hM_2 dX6_leaf_38 us_X6_in ul_RX6_65 rfl rfl (by decide) (Nat.le_of_ble_eq_true rfl) (fun r_38 τ_38 h_38 => ?_)
        obtain ⟨h_38, e_38⟩ := h_38; subst h_38
        refine G.if_eq (tgt := 54) C dX6_leaf_41 (by decide) (fun c_41 => ?_) (fun c_41 => ?_)
        · have b_38 := wb_0 e_38 c_41
          refine G.iconst (v := -1) C dX6_leaf_54 (by decide) ?_
          subst hQ
          exact G.iret C hr dX6_leaf_55 (by
              refine Or.inl ⟨fun q => ?_, rfl, rfl⟩
              obtain ⟨q1, q2, q3, q4, q5⟩ := q
              first | exact b_10 q1 | exact b_21 q2 | exact c_30 q3 | exact b_38 q4 | exact b_48 q5)
        · have b_38 := wb_1 e_38 c_41
          refine G.iload C 4 dX6_leaf_44 rfl ?_
          refine G.iconst (v := 0) C dX6_leaf_46 (by decide) ?_
          refine G.iconst (v := 2) C dX6_leaf_47 (by decide) ?_
          have hM_3 := ok_X6_in hw σ d 0 2
          refine G.callS C none hM_3 dX6_leaf_48 us_X6_in ul_RX6_65 rfl rfl (by decide) (Nat.le_of_ble_eq_true rfl) (fun r_48 τ_48 h_48 => ?_)
          obtain ⟨h_48, e_48⟩ := h_48; subst h_48
          refine G.if_ne (tgt := 56) C dX6_leaf_51 (by decide) (fun c_51 => ?_) (fun c_51 => ?_)
          · have b_48 := wb_1 e_48 c_51
            have hok : okLeaf a b c d := ⟨b_10, b_21, c_30, b_38, b_48⟩
            refine G.aload_n C 0 dX6_leaf_56 rfl rfl ?_
            refine G.get (g := 20) (i := 0) C 7 none dX6_leaf_57 (by decide) rfl rfl uX_X6 (by decide) uf_RX6_88 rfl rfl ?_
            refine G.bipush (v := 20) C dX6_leaf_60 (by decide) ?_
            refine G.icmp_ne (tgt := 68) C dX6_leaf_62 (by decide) (fun c_62 => ?_) (fun c_62 => ?_)
            · have hh9 : l < 20 := by
                refine seven (by omega) (fun q => c_62 ?_)
                rw [hl, q]; rfl
              refine G.aload_n C 0 dX6_leaf_68 rfl rfl ?_
              refine G.get (g := 20) (i := 0) C 8 none dX6_leaf_69 (by decide) rfl rfl uX_X6 (by decide) uf_RX6_22 rfl rfl ?_
              refine G.aload_n C 0 dX6_leaf_72 rfl rfl ?_
              refine G.get (g := 20) (i := 0) C 7 none dX6_leaf_73 (by decide) rfl rfl uX_X6 (by decide) uf_RX6_88 rfl rfl ?_
              refine G.iload_n C 1 dX6_leaf_76 rfl rfl ?_
              have hin_77 : vp_in (σ.1 20 0 7) 20 := by
                simp only [hl]
                exact vp_in_nI (by omega) (by decide)
              refine G.iast (g := 25) (i := 0) (n := 20) C dX6_leaf_77 (by decide) rfl hin_77 w_ast_25 ?_
              refine G.aload_n C 0 dX6_leaf_78 rfl rfl ?_
              refine G.get (g := 20) (i := 0) C 9 none dX6_leaf_79 (by decide) rfl rfl uX_X6 (by decide) uf_RX6_25 rfl rfl ?_
              refine G.aload_n C 0 dX6_leaf_82 rfl rfl ?_
              refine G.get (g := 20) (i := 0) C 7 none dX6_leaf_83 (by decide) rfl rfl uX_X6 (by decide) uf_RX6_88 rfl rfl ?_
              refine G.iload_n C 2 dX6_leaf_86 rfl rfl ?_
              have hin_87 : vp_in ((wUp σ 25 0 (σ.1 20 0 7).toNatClampNeg a).1 20 0 7) 20 := by
                simp only [wUp_ng (show 20 ≠ 25 by decide), hl]
                exact vp_in_nI (by omega) (by decide)
              refine G.iast (g := 26) (i := 0) (n := 20) C dX6_leaf_87 (by decide) rfl hin_87 w_ast_26 ?_
              refine G.aload_n C 0 dX6_leaf_88 rfl rfl ?_
              refine G.get (g := 20) (i := 0) C 10 none dX6_leaf_89 (by decide) rfl rfl uX_X6 (by decide) uf_RX6_28 rfl rfl ?_
              refine G.aload_n C 0 dX6_leaf_92 rfl rfl ?_
              refine G.get (g := 20) (i := 0) C 7 none dX6_leaf_93 (by decide) rfl rfl uX_X6 (by decide) uf_RX6_88 rfl rfl ?_
              refine G.iload_n C 3 dX6_leaf_96 rfl rfl ?_
              have hin_97 : vp_in ((wUp (wUp σ 25 0 (σ.1 20 0 7).toNatClampNeg a) 26 0 ((wUp σ 25 0 (σ.1 20 0 7).toNatClampNeg a).1 20 0 7).toNatClampNeg b).1 20 0 7) 20 := by
                simp only [wUp_ng (show 20 ≠ 25 by decide), wUp_ng (show 20 ≠ 26 by decide), hl]
                exact vp_in_nI (by omega) (by decide)
              refine G.iast (g := 27) (i := 0) (n := 20) C dX6_leaf_97 (by decide) rfl hin_97 w_ast_27 ?_
              refine G.aload_n C 0 dX6_leaf_98 rfl rfl ?_
              refine G.get (g := 20) (i := 0) C 11 none dX6_leaf_99 (by decide) rfl rfl uX_X6 (by decide) uf_RX6_31 rfl rfl ?_
              refine G.aload_n C 0 dX6_leaf_102 rfl rfl ?_
              refine G.get (g := 20) (i := 0) C 7 none dX6_leaf_103 (by decide) rfl rfl uX_X6 (by decide) uf_RX6_88 rfl rfl ?_
              refine G.iload C 4 dX6_leaf_106 rfl ?_
              have hin_108 : vp_in ((wUp (wUp (wUp σ 25 0 (σ.1 20 0 7).toNatClampNeg a) 26 0 ((wUp σ 25 0 (σ.1 20 0 7).toNatClampNeg a).1 20 0 7).toNatClampNeg b) 27 0 ((wUp (wUp σ 25 0 (σ.1 20 0 7).toNatClampNeg a) 26 0 ((wUp σ 25 0 (σ.1 20 0 7).toNatClampNeg a).1 20 0 7).toNatClampNeg b).1 20 0 7).toNatClampNeg c).1 20 0 7) 20 := by
                simp only [wUp_ng (show 20 ≠ 25 by decide), wUp_ng (show 20 ≠ 26 by decide), wUp_ng (show 20 ≠ 27 by decide), hl]
                exact vp_in_nI (by omega) (by decide)
              refine G.iast (g := 28) (i := 0) (n := 20) C dX6_leaf_108 (by decide) rfl hin_108 w_ast_28 ?_
              refine G.aload_n C 0 dX6_leaf_109 rfl rfl ?_
              refine G.get (g := 20) (i := 0) C 12 none dX6_leaf_110 (by decide) rfl rfl uX_X6 (by decide) uf_RX6_34 rfl rfl ?_
              refine G.aload_n C 0 dX6_leaf_113 rfl rfl ?_
              refine G.get (g := 20) (i := 0) C 7 none dX6_leaf_114 (by decide) rfl rfl uX_X6 (by decide) uf_RX6_88 rfl rfl ?_
              refine G.bipush (v := -9) C dX6_leaf_117 (by decide) ?_
              have hin_119 : vp_in ((wUp (wUp (wUp (wUp σ 25 0 (σ.1 20 0 7).toNatClampNeg a) 26 0 ((wUp σ 25 0 (σ.1 20 0 7).toNatClampNeg a).1 20 0 7).toNatClampNeg b) 27 0 ((wUp (wUp σ 25 0 (σ.1 20 0 7).toNatClampNeg a) 26 0 ((wUp σ 25 0 (σ.1 20 0 7).toNatClampNeg a).1 20 0 7).toNatClampNeg b).1 20 0 7).toNatClampNeg c) 28 0 ((wUp (wUp (wUp σ 25 0 (σ.1 20 0 7).toNatClampNeg a) 26 0 ((wUp σ 25 0 (σ.1 20 0 7).toNatClampNeg a).1 20 0 7).toNatClampNeg b) 27 0 ((wUp (wUp σ 25 0 (σ.1 20 0 7).toNatClampNeg a) 26 0 ((wUp σ 25 0 (σ.1 20 0 7).toNatClampNeg a).1 20 0 7).toNatClampNeg b).1 20 0 7).toNatClampNeg c).1 20 0 7).toNatClampNeg d).1 20 0 7) 20 := by
                simp only [wUp_ng (show 20 ≠ 25 by decide), wUp_ng (show 20 ≠ 26 by decide), wUp_ng (show 20 ≠ 27 by decide), wUp_ng (show 20 ≠ 28 by decide), hl]
                exact vp_in_nI (by omega) (by decide)
              refine G.iast (g := 29) (i := 0) (n := 20) C dX6_leaf_119 (by decide) rfl hin_119 w_ast_29 ?_
              refine G.aload_n C 0 dX6_leaf_120 rfl rfl ?_
              refine G.get (g := 20) (i := 0) C 13 none dX6_leaf_121 (by decide) rfl rfl uX_X6 (by decide) uf_RX6_37 rfl rfl ?_
              refine G.aload_n C 0 dX6_leaf_124 rfl rfl ?_
              refine G.get (g := 20) (i := 0) C 7 none dX6_leaf_125 (by decide) rfl rfl uX_X6 (by decide) uf_RX6_88 rfl rfl ?_
              refine G.bipush (v := -9) C dX6_leaf_128 (by decide) ?_
              have hin_130 : vp_in ((wUp (wUp (wUp (wUp (wUp σ 25 0 (σ.1 20 0 7).toNatClampNeg a) 26 0 ((wUp σ 25 0 (σ.1 20 0 7).toNatClampNeg a).1 20 0 7).toNatClampNeg b) 27 0 ((wUp (wUp σ 25 0 (σ.1 20 0 7).toNatClampNeg a) 26 0 ((wUp σ 25 0 (σ.1 20 0 7).toNatClampNeg a).1 20 0 7).toNatClampNeg b).1 20 0 7).toNatClampNeg c) 28 0 ((wUp (wUp (wUp σ 25 0 (σ.1 20 0 7).toNatClampNeg a) 26 0 ((wUp σ 25 0 (σ.1 20 0 7).toNatClampNeg a).1 20 0 7).toNatClampNeg b) 27 0 ((wUp (wUp σ 25 0 (σ.1 20 0 7).toNatClampNeg a) 26 0 ((wUp σ 25 0 (σ.1 20 0 7).toNatClampNeg a).1 20 0 7).toNatClampNeg b).1 20 0 7).toNatClampNeg c).1 20 0 7).toNatClampNeg d) 29 0 ((wUp (wUp (wUp (wUp σ 25 0 (σ.1 20 0 7).toNatClampNeg a) 26 0 ((wUp σ 25 0 (σ.1 20 0 7).toNatClampNeg a).1 20 0 7).toNatClampNeg b) 27 0 ((wUp (wUp σ 25 0 (σ.1 20 0 7).toNatClampNeg a) 26 0 ((wUp σ 25 0 (σ.1 20 0 7).toNatClampNeg a).1 20 0 7).toNatClampNeg b).1 20 0 7).toNatClampNeg c) 28 0 ((wUp (wUp (wUp σ 25 0 (σ.1 20 0 7).toNatClampNeg a) 26 0 ((wUp σ 25 0 (σ.1 20 0 7).toNatClampNeg a).1 20 0 7).toNatClampNeg b) 27 0 ((wUp (wUp σ 25 0 (σ.1 20 0 7).toNatClampNeg a) 26 0 ((wUp σ 25 0 (σ.1 20 0 7).toNatClampNeg a).1 20 0 7).toNatClampNeg b).1 20 0 7).toNatClampNeg c).1 20 0 7).toNatClampNeg d).1 20 0 7).toNatClampNeg (-9)).1 20 0 7) 20 := by
                simp only [wUp_ng (show 20 ≠ 25 by decide), wUp_ng (show 20 ≠ 26 by decide), wUp_ng (show 20 ≠ 27 by decide), wUp_ng (show 20 ≠ 28 by decide), wUp_ng (show 20 ≠ 29 by decide), hl]
                exact vp_in_nI (by omega) (by decide)
              refine G.iast (g := 30) (i := 0) (n := 20) C dX6_leaf_130 (by decide) rfl hin_130 w_ast_30 ?_
              refine G.aload_n C 0 dX6_leaf_131 rfl rfl ?_
              refine G.dup C dX6_leaf_132 rfl ?_
              refine G.get (g := 20) (i := 0) C 7 none dX6_leaf_133 (by decide) rfl rfl uX_X6 (by decide) uf_RX6_88 rfl rfl ?_
              refine G.iconst (v := 1) C dX6_leaf_136 (by decide) ?_
              refine G.iadd C dX6_leaf_137 ?_
              refine G.put (g := 20) (i := 0) C 7 none dX6_leaf_138 (by decide) rfl rfl uX_X6 tyX6 tyX6_ok nmX6 (by decide) uf_RX6_88 rfl rfl (by decide +kernel) (Nat.le_of_ble_eq_true rfl) w_up_20_7 ?_
              refine G.aload_n C 0 dX6_leaf_141 rfl rfl ?_
              refine G.get (g := 20) (i := 0) C 7 none dX6_leaf_142 (by decide) rfl rfl uX_X6 (by decide) uf_RX6_88 rfl rfl ?_
              refine G.iconst (v := 1) C dX6_leaf_145 (by decide) ?_
              refine G.isub C dX6_leaf_146 ?_
              subst hQ
              exact G.iret C hr dX6_leaf_147 (by
                  refine Or.inr (Or.inr ⟨hok, hh9, ?_, ?_⟩)
                  · simp only [wUp_ng (show 20 ≠ 25 by decide), wUp_ng (show 20 ≠ 26 by decide), wUp_ng (show 20 ≠ 27 by decide), wUp_ng (show 20 ≠ 28 by decide), wUp_ng (show 20 ≠ 29 by decide), wUp_ng (show 20 ≠ 30 by decide), wUp_eq, hl, nI_clamp (show l < 2 ^ 31 by omega), nI_1, nI_pred]
                  · simp only [wUp_ng (show 20 ≠ 25 by decide), wUp_ng (show 20 ≠ 26 by decide), wUp_ng (show 20 ≠ 27 by decide), wUp_ng (show 20 ≠ 28 by decide), wUp_ng (show 20 ≠ 29 by decide), wUp_ng (show 20 ≠ 30 by decide), wUp_eq, hl, nI_clamp (show l < 2 ^ 31 by omega), nI_1, nI_pred])
            · have hh9 : 20 ≤ l := by
                rw [hl, show (20 : Int32) = nI 20 from rfl, nI_eq (by omega) (by decide)] at c_62
                omega
              refine G.bipush (v := -3) C dX6_leaf_65 (by decide) ?_
              subst hQ
              exact G.iret C hr dX6_leaf_67 (by
                  exact Or.inr (Or.inl ⟨hok, hh9, rfl, rfl⟩))
          · have b_48 := wb_0 e_48 c_51
            refine G.iconst (v := -1) C dX6_leaf_54 (by decide) ?_
            subst hQ
            exact G.iret C hr dX6_leaf_55 (by
                refine Or.inl ⟨fun q => ?_, rfl, rfl⟩
                obtain ⟨q1, q2, q3, q4, q5⟩ := q
                first | exact b_10 q1 | exact b_21 q2 | exact c_30 q3 | exact b_38 q4 | exact b_48 q5)
set_option maxHeartbeats 4000000 in
set_option maxRecDepth 100000 in
theorem ok_X6_see {w : wD} (hw : wOK w) (σ : wSt) (a b c : Int32) (hz : σ.1 20 0 0 = 0) {l : Nat} (hl : σ.1 20 0 7 = nI l) (hl20 : l ≤ 20) : MI w yX6_see cX6_see 5 (some .int) 2 43 [.ref (w.2.2.2.1 20 0), .int a, .int b, .int c] σ (fun r τ => (¬ (inN (σ.1 20 0 7) a ∧ (0 ≤ b ∧ b < 12) ∧ 0 ≤ c ∧ c ≤ 2) ∧ σ = τ ∧ r = -1) ∨ ((inN (σ.1 20 0 7) a ∧ (0 ≤ b ∧ b < 12) ∧ 0 ≤ c ∧ c ≤ 2) ∧ wUp (wUp σ 25 0 a.toNatClampNeg (seeT (σ.1 25 0 a.toNatClampNeg) b c 1)) 26 0 a.toNatClampNeg (seeT (σ.1 26 0 a.toNatClampNeg) b c 2) = τ ∧ r = seeF (σ.1 25 0 a.toNatClampNeg) (σ.1 26 0 a.toNatClampNeg) b)) := by
  refine MI.of hw (by decide +kernel) (Nat.le_of_ble_eq_true rfl) (fun x C hr => ?_)
  suffices key : ∀ Q, Q = QI w x (fun r τ => (¬ (inN (σ.1 20 0 7) a ∧ (0 ≤ b ∧ b < 12) ∧ 0 ≤ c ∧ c ≤ 2) ∧ σ = τ ∧ r = -1) ∨ ((inN (σ.1 20 0 7) a ∧ (0 ≤ b ∧ b < 12) ∧ 0 ≤ c ∧ c ≤ 2) ∧ wUp (wUp σ 25 0 a.toNatClampNeg (seeT (σ.1 25 0 a.toNatClampNeg) b c 1)) 26 0 a.toNatClampNeg (seeT (σ.1 26 0 a.toNatClampNeg) b c 2) = τ ∧ r = seeF (σ.1 25 0 a.toNatClampNeg) (σ.1 26 0 a.toNatClampNeg) b)) → G w x 5 Q 0 [(0, .ref (w.2.2.2.1 20 0)), (1, .int a), (2, .int b), (3, .int c)] [] σ from key _ rfl
  intro Q hQ
  refine G.aload_n C 0 dX6_see_0 rfl rfl ?_
  refine G.iconst (v := 0) C dX6_see_1 (by decide) ?_
  refine G.put (g := 20) (i := 0) C 0 none dX6_see_2 (by decide) rfl rfl uX_X6 tyX6 tyX6_ok nmX6 (by decide) uf_RX6_61 rfl rfl (by decide +kernel) (Nat.le_of_ble_eq_true rfl) w_up_20_0 ?_
  rw [wUp_id hz]
  refine G.aload_n C 0 dX6_see_5 rfl rfl ?_
  refine G.iload_n C 1 dX6_see_6 rfl rfl ?_
  have hM_0 := ok_X6_isLeaf hw σ a hl hl20
  refine G.callV C (g := 20) (i := 0) none hM_0 dX6_see_7 (by decide) rfl rfl rfl uv_X6_isLeaf ul_RX6_91 rfl rfl (by decide) (Nat.le_of_ble_eq_true rfl) (fun r_7 τ_7 h_7 => ?_)
  obtain ⟨h_7, e_7⟩ := h_7; subst h_7
  refine G.if_eq (tgt := 32) C dX6_see_10 (by decide) (fun c_10 => ?_) (fun c_10 => ?_)
  · have b_7 := wb_0 e_7 c_10
    refine G.iconst (v := -1) C dX6_see_32 (by decide) ?_
    subst hQ
    exact G.iret C hr dX6_see_33 (by
        refine Or.inl ⟨fun q => ?_, rfl, rfl⟩
        first | exact b_7 q.1 | exact b_17 (w_le11.mpr q.2.1) | exact b_26 q.2.2)
  · have b_7 := wb_1 e_7 c_10
    refine G.iload_n C 2 dX6_see_13 rfl rfl ?_
    refine G.iconst (v := 0) C dX6_see_14 (by decide) ?_
    refine G.bipush (v := 11) C dX6_see_15 (by decide) ?_
    have hM_1 := ok_X6_in hw σ b 0 11
    refine G.callS C none hM_1 dX6_see_17 us_X6_in ul_RX6_65 rfl rfl (by decide) (Nat.le_of_ble_eq_true rfl) (fun r_17 τ_17 h_17 => ?_)
    obtain ⟨h_17, e_17⟩ := h_17; subst h_17
    refine G.if_eq (tgt := 32) C dX6_see_20 (by decide) (fun c_20 => ?_) (fun c_20 => ?_)
    · have b_17 := wb_0 e_17 c_20
      refine G.iconst (v := -1) C dX6_see_32 (by decide) ?_
      subst hQ
      exact G.iret C hr dX6_see_33 (by
          refine Or.inl ⟨fun q => ?_, rfl, rfl⟩
          first | exact b_7 q.1 | exact b_17 (w_le11.mpr q.2.1) | exact b_26 q.2.2)
    · have b_17 := wb_1 e_17 c_20
      refine G.iload_n C 3 dX6_see_23 rfl rfl ?_
      refine G.iconst (v := 0) C dX6_see_24 (by decide) ?_
      refine G.iconst (v := 2) C dX6_see_25 (by decide) ?_
      have hM_2 := ok_X6_in hw σ c 0 2
      refine G.callS C none hM_2 dX6_see_26 us_X6_in ul_RX6_65 rfl rfl (by decide) (Nat.le_of_ble_eq_true rfl) (fun r_26 τ_26 h_26 => ?_)
      obtain ⟨h_26, e_26⟩ := h_26; subst h_26
      refine G.if_ne (tgt := 34) C dX6_see_29 (by decide) (fun c_29 => ?_) (fun c_29 => ?_)
      · have b_26 := wb_1 e_26 c_29
        refine G.aload_n C 0 dX6_see_34 rfl rfl ?_
        refine G.get (g := 20) (i := 0) C 8 none dX6_see_35 (by decide) rfl rfl uX_X6 (by decide) uf_RX6_22 rfl rfl ?_
        refine G.iload_n C 1 dX6_see_38 rfl rfl ?_
        have hin_39 : vp_in a 20 := by
          exact vp_ofc b_7 hl hl20 (by decide)
        refine G.iald (g := 25) (i := 0) (n := 20) C dX6_see_39 (by decide) rfl hin_39 ?_
        refine G.iload_n C 2 dX6_see_40 rfl rfl ?_
        refine G.ishr C dX6_see_41 ?_
        refine G.iconst (v := 1) C dX6_see_42 (by decide) ?_
        refine G.iand C dX6_see_43 ?_
        refine G.iconst (v := 2) C dX6_see_44 (by decide) ?_
        refine G.aload_n C 0 dX6_see_45 rfl rfl ?_
        refine G.get (g := 20) (i := 0) C 9 none dX6_see_46 (by decide) rfl rfl uX_X6 (by decide) uf_RX6_25 rfl rfl ?_
        refine G.iload_n C 1 dX6_see_49 rfl rfl ?_
        have hin_50 : vp_in a 20 := by
          exact vp_ofc b_7 hl hl20 (by decide)
        refine G.iald (g := 26) (i := 0) (n := 20) C dX6_see_50 (by decide) rfl hin_50 ?_
        refine G.iload_n C 2 dX6_see_51 rfl rfl ?_
        refine G.ishr C dX6_see_52 ?_
        refine G.iconst (v := 1) C dX6_see_53 (by decide) ?_
        refine G.iand C dX6_see_54 ?_
        refine G.imul C dX6_see_55 ?_
        refine G.iadd C dX6_see_56 ?_
        refine G.topi (fun x4_57 ex4_57 => ?_)
        refine G.istore (L1 := [(4, .int x4_57), (0, .ref (w.2.2.2.1 20 0)), (1, .int a), (2, .int b), (3, .int c)]) C dX6_see_57 (by decide) rfl ?_
        refine G.aload_n C 1 dX6_see_59 rfl rfl ?_
        refine G.get (g := 20) (i := 0) C 8 none dX6_see_60 (by decide) rfl rfl uX_X6 (by decide) uf_RX6_22 rfl rfl ?_
        refine G.iload_n C 2 dX6_see_63 rfl rfl ?_
        refine G.aload_n C 1 dX6_see_64 rfl rfl ?_
        refine G.get (g := 20) (i := 0) C 8 none dX6_see_65 (by decide) rfl rfl uX_X6 (by decide) uf_RX6_22 rfl rfl ?_
        refine G.iload_n C 2 dX6_see_68 rfl rfl ?_
        have hin_69 : vp_in a 20 := by
          exact vp_ofc b_7 hl hl20 (by decide)
        refine G.iald (g := 25) (i := 0) (n := 20) C dX6_see_69 (by decide) rfl hin_69 ?_
        refine G.iconst (v := 1) C dX6_see_70 (by decide) ?_
        refine G.iload_n C 3 dX6_see_71 rfl rfl ?_
        refine G.ishl C dX6_see_72 ?_
        refine G.iconst (v := -1) C dX6_see_73 (by decide) ?_
        refine G.ixor C dX6_see_74 ?_
        refine G.iand C dX6_see_75 ?_
        refine G.iload_n C 4 dX6_see_76 rfl rfl ?_
        refine G.iconst (v := 1) C dX6_see_77 (by decide) ?_
        refine G.icmp_ne (tgt := 87) C dX6_see_78 (by decide) (fun c_78 => ?_) (fun c_78 => ?_)
        · refine G.iconst (v := 0) C dX6_see_87 (by decide) ?_
          refine G.ior C dX6_see_88 ?_
          have hin_89 : vp_in a 20 := by
            exact vp_ofc b_7 hl hl20 (by decide)
          refine G.iast (g := 25) (i := 0) (n := 20) C dX6_see_89 (by decide) rfl hin_89 w_ast_25 ?_
          refine G.aload_n C 1 dX6_see_90 rfl rfl ?_
          refine G.get (g := 20) (i := 0) C 9 none dX6_see_91 (by decide) rfl rfl uX_X6 (by decide) uf_RX6_25 rfl rfl ?_
          refine G.iload_n C 2 dX6_see_94 rfl rfl ?_
          refine G.aload_n C 1 dX6_see_95 rfl rfl ?_
          refine G.get (g := 20) (i := 0) C 9 none dX6_see_96 (by decide) rfl rfl uX_X6 (by decide) uf_RX6_25 rfl rfl ?_
          refine G.iload_n C 2 dX6_see_99 rfl rfl ?_
          have hin_100 : vp_in a 20 := by
            exact vp_ofc b_7 hl hl20 (by decide)
          refine G.iald (g := 26) (i := 0) (n := 20) C dX6_see_100 (by decide) rfl hin_100 ?_
          refine G.iconst (v := 1) C dX6_see_101 (by decide) ?_
          refine G.iload_n C 3 dX6_see_102 rfl rfl ?_
          refine G.ishl C dX6_see_103 ?_
          refine G.iconst (v := -1) C dX6_see_104 (by decide) ?_
          refine G.ixor C dX6_see_105 ?_
          refine G.iand C dX6_see_106 ?_
          refine G.iload_n C 4 dX6_see_107 rfl rfl ?_
          refine G.iconst (v := 2) C dX6_see_108 (by decide) ?_
          refine G.icmp_ne (tgt := 118) C dX6_see_109 (by decide) (fun c_109 => ?_) (fun c_109 => ?_)
          · refine G.iconst (v := 0) C dX6_see_118 (by decide) ?_
            refine G.ior C dX6_see_119 ?_
            have hin_120 : vp_in a 20 := by
              exact vp_ofc b_7 hl hl20 (by decide)
            refine G.iast (g := 26) (i := 0) (n := 20) C dX6_see_120 (by decide) rfl hin_120 w_ast_26 ?_
            refine G.iload C 0 dX6_see_121 rfl ?_
            subst hQ
            exact G.iret C hr dX6_see_123 (by
                refine Or.inr ⟨⟨b_7, w_le11.mp b_17, b_26⟩, ?_, ex4_57⟩
                simp only [seeT, wUp_ng (show 26 ≠ 25 by decide), if_neg c_78, if_neg c_109])
          · refine G.iconst (v := 1) C dX6_see_112 (by decide) ?_
            refine G.iload_n C 3 dX6_see_113 rfl rfl ?_
            refine G.ishl C dX6_see_114 ?_
            refine G.goto (tgt := 119) C dX6_see_115 (by decide) ?_
            refine G.ior C dX6_see_119 ?_
            have hin_120 : vp_in a 20 := by
              exact vp_ofc b_7 hl hl20 (by decide)
            refine G.iast (g := 26) (i := 0) (n := 20) C dX6_see_120 (by decide) rfl hin_120 w_ast_26 ?_
            refine G.iload C 0 dX6_see_121 rfl ?_
            subst hQ
            exact G.iret C hr dX6_see_123 (by
                refine Or.inr ⟨⟨b_7, w_le11.mp b_17, b_26⟩, ?_, ex4_57⟩
                simp only [seeT, wUp_ng (show 26 ≠ 25 by decide), if_neg c_78, if_pos c_109])
        · refine G.iconst (v := 1) C dX6_see_81 (by decide) ?_
          refine G.iload_n C 3 dX6_see_82 rfl rfl ?_
          refine G.ishl C dX6_see_83 ?_
          refine G.goto (tgt := 88) C dX6_see_84 (by decide) ?_
          refine G.ior C dX6_see_88 ?_
          have hin_89 : vp_in a 20 := by
            exact vp_ofc b_7 hl hl20 (by decide)
          refine G.iast (g := 25) (i := 0) (n := 20) C dX6_see_89 (by decide) rfl hin_89 w_ast_25 ?_
          refine G.aload_n C 1 dX6_see_90 rfl rfl ?_
          refine G.get (g := 20) (i := 0) C 9 none dX6_see_91 (by decide) rfl rfl uX_X6 (by decide) uf_RX6_25 rfl rfl ?_
          refine G.iload_n C 2 dX6_see_94 rfl rfl ?_
          refine G.aload_n C 1 dX6_see_95 rfl rfl ?_
          refine G.get (g := 20) (i := 0) C 9 none dX6_see_96 (by decide) rfl rfl uX_X6 (by decide) uf_RX6_25 rfl rfl ?_
          refine G.iload_n C 2 dX6_see_99 rfl rfl ?_
          have hin_100 : vp_in a 20 := by
            exact vp_ofc b_7 hl hl20 (by decide)
          refine G.iald (g := 26) (i := 0) (n := 20) C dX6_see_100 (by decide) rfl hin_100 ?_
          refine G.iconst (v := 1) C dX6_see_101 (by decide) ?_
          refine G.iload_n C 3 dX6_see_102 rfl rfl ?_
          refine G.ishl C dX6_see_103 ?_
          refine G.iconst (v := -1) C dX6_see_104 (by decide) ?_
          refine G.ixor C dX6_see_105 ?_
          refine G.iand C dX6_see_106 ?_
          refine G.iload_n C 4 dX6_see_107 rfl rfl ?_
          refine G.iconst (v := 2) C dX6_see_108 (by decide) ?_
          refine G.icmp_ne (tgt := 118) C dX6_see_109 (by decide) (fun c_109 => ?_) (fun c_109 => ?_)
          · refine G.iconst (v := 0) C dX6_see_118 (by decide) ?_
            refine G.ior C dX6_see_119 ?_
            have hin_120 : vp_in a 20 := by
              exact vp_ofc b_7 hl hl20 (by decide)
            refine G.iast (g := 26) (i := 0) (n := 20) C dX6_see_120 (by decide) rfl hin_120 w_ast_26 ?_
            refine G.iload C 0 dX6_see_121 rfl ?_
            subst hQ
            exact G.iret C hr dX6_see_123 (by
                refine Or.inr ⟨⟨b_7, w_le11.mp b_17, b_26⟩, ?_, ex4_57⟩
                simp only [seeT, wUp_ng (show 26 ≠ 25 by decide), if_pos c_78, if_neg c_109])
          · refine G.iconst (v := 1) C dX6_see_112 (by decide) ?_
            refine G.iload_n C 3 dX6_see_113 rfl rfl ?_
            refine G.ishl C dX6_see_114 ?_
            refine G.goto (tgt := 119) C dX6_see_115 (by decide) ?_
            refine G.ior C dX6_see_119 ?_
            have hin_120 : vp_in a 20 := by
              exact vp_ofc b_7 hl hl20 (by decide)
            refine G.iast (g := 26) (i := 0) (n := 20) C dX6_see_120 (by decide) rfl hin_120 w_ast_26 ?_
            refine G.iload C 0 dX6_see_121 rfl ?_
            subst hQ
            exact G.iret C hr dX6_see_123 (by
                refine Or.inr ⟨⟨b_7, w_le11.mp b_17, b_26⟩, ?_, ex4_57⟩
                simp only [seeT, wUp_ng (show 26 ≠ 25 by decide), if_pos c_78, if_pos c_109])
      · have b_26 := wb_0 e_26 c_29
        refine G.iconst (v := -1) C dX6_see_32 (by decide) ?_
        subst hQ
        exact G.iret C hr dX6_see_33 (by
            refine Or.inl ⟨fun q => ?_, rfl, rfl⟩
            first | exact b_7 q.1 | exact b_17 (w_le11.mpr q.2.1) | exact b_26 q.2.2)
set_option maxHeartbeats 4000000 in
set_option maxRecDepth 100000 in
theorem ok_X6_candidatesOf {w : wD} (hw : wOK w) (σ : wSt) (a : Int32) {n : Nat} (hn : σ.1 20 0 2 = nI n) (h6 : n ≤ 6) (hva : vp_in a 20) : MI w yX6_candidatesOf cX6_candidatesOf 4 (some .int) 0 0 [.ref (w.2.2.2.1 20 0), .int a] σ (fun r τ => σ = τ ∧ r = candU (σ.1 21 0) (σ.1 25 0 a.toNatClampNeg) (σ.1 26 0 a.toNatClampNeg) n) := by
  refine MI.of hw (by decide +kernel) (Nat.le_of_ble_eq_true rfl) (fun x C hr => ?_)
  suffices key : ∀ Q, Q = QI w x (fun r τ => σ = τ ∧ r = candU (σ.1 21 0) (σ.1 25 0 a.toNatClampNeg) (σ.1 26 0 a.toNatClampNeg) n) → G w x 4 Q 0 [(0, .ref (w.2.2.2.1 20 0)), (1, .int a)] [] σ from key _ rfl
  intro Q hQ
  refine G.iconst (v := 0) C dX6_candidatesOf_0 (by decide) ?_
  refine G.istore_n (L1 := [(2, .int 0), (0, .ref (w.2.2.2.1 20 0)), (1, .int a)]) C dX6_candidatesOf_1 rfl (by decide) rfl ?_
  refine G.iconst (v := 0) C dX6_candidatesOf_2 (by decide) ?_
  refine G.istore_n (L1 := [(3, .int 0), (2, .int 0), (0, .ref (w.2.2.2.1 20 0)), (1, .int a)]) C dX6_candidatesOf_3 rfl (by decide) rfl ?_
  have cut_4 : ∀ (m9 : Nat) (j : Nat) (x3 x2 : Int32), j ≤ n → n < j + m9 → x3 = nI j → x2 = candU (σ.1 21 0) (σ.1 25 0 a.toNatClampNeg) (σ.1 26 0 a.toNatClampNeg) j → G w x 4 Q 4 [(3, .int x3), (2, .int x2), (0, .ref (w.2.2.2.1 20 0)), (1, .int a)] [] σ := by
    intro m9
    induction m9 with
    | zero =>
      intro j x3 x2 hj hm hx3 hx2
      exfalso
      omega
    | succ m9 ih_4 =>
      intro j x3 x2 hj hm hx3 hx2
      subst hx3
      subst hx2
      refine G.iload_n C 0 dX6_candidatesOf_4 rfl rfl ?_
      refine G.aload_n C 2 dX6_candidatesOf_5 rfl rfl ?_
      refine G.get (g := 20) (i := 0) C 2 none dX6_candidatesOf_6 (by decide) rfl rfl uX_X6 (by decide) uf_RX6_73 rfl rfl ?_
      refine G.icmp_ge (tgt := 62) C dX6_candidatesOf_9 (by decide) (fun c_9 => ?_) (fun c_9 => ?_)
      · have hjn : j = n := by
          rw [hn, nI_leI (by omega) (by omega)] at c_9; omega
        refine G.iload_n C 1 dX6_candidatesOf_62 rfl rfl ?_
        subst hQ
        exact G.iret C hr dX6_candidatesOf_63 (by
            rw [hjn]
            exact ⟨rfl, rfl⟩)
      · have hjn : j < n := by
          rw [hn, nI_leI (by omega) (by omega)] at c_9; omega
        refine G.iload_n C 1 dX6_candidatesOf_12 rfl rfl ?_
        refine G.aload_n C 2 dX6_candidatesOf_13 rfl rfl ?_
        refine G.get (g := 20) (i := 0) C 8 none dX6_candidatesOf_14 (by decide) rfl rfl uX_X6 (by decide) uf_RX6_22 rfl rfl ?_
        refine G.iload_n C 3 dX6_candidatesOf_17 rfl rfl ?_
        have hin_18 : vp_in a 20 := by
          exact hva
        refine G.iald (g := 25) (i := 0) (n := 20) C dX6_candidatesOf_18 (by decide) rfl hin_18 ?_
        refine G.aload_n C 2 dX6_candidatesOf_19 rfl rfl ?_
        refine G.get (g := 20) (i := 0) C 3 none dX6_candidatesOf_20 (by decide) rfl rfl uX_X6 (by decide) uf_RX6_7 rfl rfl ?_
        refine G.iload_n C 0 dX6_candidatesOf_23 rfl rfl ?_
        have hin_24 : vp_in (nI j) 6 := by
          exact vp_in_nI (by omega) (by decide)
        refine G.iald (g := 21) (i := 0) (n := 6) C dX6_candidatesOf_24 (by decide) rfl hin_24 ?_
        refine G.iconst (v := -1) C dX6_candidatesOf_25 (by decide) ?_
        refine G.ixor C dX6_candidatesOf_26 ?_
        refine G.iand C dX6_candidatesOf_27 ?_
        refine G.if_ne (tgt := 53) C dX6_candidatesOf_28 (by decide) (fun c_28 => ?_) (fun c_28 => ?_)
        · refine G.iconst (v := 0) C dX6_candidatesOf_53 (by decide) ?_
          refine G.ior C dX6_candidatesOf_54 ?_
          refine G.topi (fun x2_55 ex2_55 => ?_)
          refine G.istore_n (L1 := [(2, .int x2_55), (3, .int (nI j)), (0, .ref (w.2.2.2.1 20 0)), (1, .int a)]) C dX6_candidatesOf_55 rfl (by decide) rfl ?_
          obtain ⟨x3_56, ex3_56⟩ : ∃ z : Int32, z = (nI j) + 1 := ⟨_, rfl⟩
          refine G.iinc (v := x3_56) (L1 := [(3, .int x3_56), (2, .int x2_55), (0, .ref (w.2.2.2.1 20 0)), (1, .int a)]) C 1 dX6_candidatesOf_56 rfl (by rw [ex3_56]; rfl) (by decide) rfl ?_
          refine G.goto (tgt := 4) C dX6_candidatesOf_59 (by decide) ?_
          refine ih_4  (j + 1) _ _ ?_ ?_ ?_ ?_
          · omega
          · omega
          · rw [ex3_56]; exact nI_1 j
          · rw [nI_clamp (by omega)] at c_28
            rw [ex2_55, i_or0, candU_f _ rfl rfl (fun q => c_28 (candM.mpr q).1)]
        · refine G.aload_n C 2 dX6_candidatesOf_31 rfl rfl ?_
          refine G.get (g := 20) (i := 0) C 9 none dX6_candidatesOf_32 (by decide) rfl rfl uX_X6 (by decide) uf_RX6_25 rfl rfl ?_
          refine G.iload_n C 3 dX6_candidatesOf_35 rfl rfl ?_
          have hin_36 : vp_in a 20 := by
            exact hva
          refine G.iald (g := 26) (i := 0) (n := 20) C dX6_candidatesOf_36 (by decide) rfl hin_36 ?_
          refine G.aload_n C 2 dX6_candidatesOf_37 rfl rfl ?_
          refine G.get (g := 20) (i := 0) C 3 none dX6_candidatesOf_38 (by decide) rfl rfl uX_X6 (by decide) uf_RX6_7 rfl rfl ?_
          refine G.iload_n C 0 dX6_candidatesOf_41 rfl rfl ?_
          have hin_42 : vp_in (nI j) 6 := by
            exact vp_in_nI (by omega) (by decide)
          refine G.iald (g := 21) (i := 0) (n := 6) C dX6_candidatesOf_42 (by decide) rfl hin_42 ?_
          refine G.iand C dX6_candidatesOf_43 ?_
          refine G.if_ne (tgt := 53) C dX6_candidatesOf_44 (by decide) (fun c_44 => ?_) (fun c_44 => ?_)
          · refine G.iconst (v := 0) C dX6_candidatesOf_53 (by decide) ?_
            refine G.ior C dX6_candidatesOf_54 ?_
            refine G.topi (fun x2_55 ex2_55 => ?_)
            refine G.istore_n (L1 := [(2, .int x2_55), (3, .int (nI j)), (0, .ref (w.2.2.2.1 20 0)), (1, .int a)]) C dX6_candidatesOf_55 rfl (by decide) rfl ?_
            obtain ⟨x3_56, ex3_56⟩ : ∃ z : Int32, z = (nI j) + 1 := ⟨_, rfl⟩
            refine G.iinc (v := x3_56) (L1 := [(3, .int x3_56), (2, .int x2_55), (0, .ref (w.2.2.2.1 20 0)), (1, .int a)]) C 1 dX6_candidatesOf_56 rfl (by rw [ex3_56]; rfl) (by decide) rfl ?_
            refine G.goto (tgt := 4) C dX6_candidatesOf_59 (by decide) ?_
            refine ih_4  (j + 1) _ _ ?_ ?_ ?_ ?_
            · omega
            · omega
            · rw [ex3_56]; exact nI_1 j
            · rw [nI_clamp (by omega)] at c_28 c_44
              rw [ex2_55, i_or0, candU_f _ rfl rfl (fun q => c_44 (candM.mpr q).2)]
          · refine G.iconst (v := 1) C dX6_candidatesOf_47 (by decide) ?_
            refine G.iload_n C 0 dX6_candidatesOf_48 rfl rfl ?_
            refine G.ishl C dX6_candidatesOf_49 ?_
            refine G.goto (tgt := 54) C dX6_candidatesOf_50 (by decide) ?_
            refine G.ior C dX6_candidatesOf_54 ?_
            refine G.topi (fun x2_55 ex2_55 => ?_)
            refine G.istore_n (L1 := [(2, .int x2_55), (3, .int (nI j)), (0, .ref (w.2.2.2.1 20 0)), (1, .int a)]) C dX6_candidatesOf_55 rfl (by decide) rfl ?_
            obtain ⟨x3_56, ex3_56⟩ : ∃ z : Int32, z = (nI j) + 1 := ⟨_, rfl⟩
            refine G.iinc (v := x3_56) (L1 := [(3, .int x3_56), (2, .int x2_55), (0, .ref (w.2.2.2.1 20 0)), (1, .int a)]) C 1 dX6_candidatesOf_56 rfl (by rw [ex3_56]; rfl) (by decide) rfl ?_
            refine G.goto (tgt := 4) C dX6_candidatesOf_59 (by decide) ?_
            refine ih_4  (j + 1) _ _ ?_ ?_ ?_ ?_
            · omega
            · omega
            · rw [ex3_56]; exact nI_1 j
            · rw [nI_clamp (by omega)] at c_28 c_44
              rw [ex2_55, candU_t _ rfl rfl (candM.mp ⟨c_28, c_44⟩)]
  refine cut_4 (n + 1) 0 _ _ ?_ ?_ ?_ ?_
  · omega
  · omega
  · rfl
  · rfl
set_option maxHeartbeats 4000000 in
set_option maxRecDepth 100000 in
theorem ok_X6_candidates {w : wD} (hw : wOK w) (σ : wSt) (a : Int32) (hz : σ.1 20 0 0 = 0) {n : Nat} (hn : σ.1 20 0 2 = nI n) (h6 : n ≤ 6) {l : Nat} (hl : σ.1 20 0 7 = nI l) (hl20 : l ≤ 20) : MI w yX6_candidates cX6_candidates 2 (some .int) 2 43 [.ref (w.2.2.2.1 20 0), .int a] σ (fun r τ => σ = τ ∧ ((¬ inN (σ.1 20 0 7) a ∧ r = -1) ∨ (inN (σ.1 20 0 7) a ∧ r = candU (σ.1 21 0) (σ.1 25 0 a.toNatClampNeg) (σ.1 26 0 a.toNatClampNeg) n))) := by
  refine MI.of hw (by decide +kernel) (Nat.le_of_ble_eq_true rfl) (fun x C hr => ?_)
  suffices key : ∀ Q, Q = QI w x (fun r τ => σ = τ ∧ ((¬ inN (σ.1 20 0 7) a ∧ r = -1) ∨ (inN (σ.1 20 0 7) a ∧ r = candU (σ.1 21 0) (σ.1 25 0 a.toNatClampNeg) (σ.1 26 0 a.toNatClampNeg) n))) → G w x 2 Q 0 [(0, .ref (w.2.2.2.1 20 0)), (1, .int a)] [] σ from key _ rfl
  intro Q hQ
  refine G.aload_n C 0 dX6_candidates_0 rfl rfl ?_
  refine G.iconst (v := 0) C dX6_candidates_1 (by decide) ?_
  refine G.put (g := 20) (i := 0) C 0 none dX6_candidates_2 (by decide) rfl rfl uX_X6 tyX6 tyX6_ok nmX6 (by decide) uf_RX6_61 rfl rfl (by decide +kernel) (Nat.le_of_ble_eq_true rfl) w_up_20_0 ?_
  rw [wUp_id hz]
  refine G.aload_n C 0 dX6_candidates_5 rfl rfl ?_
  refine G.iload_n C 1 dX6_candidates_6 rfl rfl ?_
  have hM_0 := ok_X6_isLeaf hw σ a hl hl20
  refine G.callV C (g := 20) (i := 0) none hM_0 dX6_candidates_7 (by decide) rfl rfl rfl uv_X6_isLeaf ul_RX6_91 rfl rfl (by decide) (Nat.le_of_ble_eq_true rfl) (fun r_7 τ_7 h_7 => ?_)
  obtain ⟨h_7, e_7⟩ := h_7; subst h_7
  refine G.if_eq (tgt := 21) C dX6_candidates_10 (by decide) (fun c_10 => ?_) (fun c_10 => ?_)
  · have b_7 := wb_0 e_7 c_10
    refine G.iconst (v := -1) C dX6_candidates_21 (by decide) ?_
    subst hQ
    exact G.iret C hr dX6_candidates_22 (by
        exact ⟨rfl, Or.inl ⟨b_7, rfl⟩⟩)
  · have b_7 := wb_1 e_7 c_10
    refine G.aload_n C 0 dX6_candidates_13 rfl rfl ?_
    refine G.iload_n C 1 dX6_candidates_14 rfl rfl ?_
    have hM_1 := ok_X6_candidatesOf hw σ a hn h6 (vp_ofc b_7 hl hl20 (by decide))
    refine G.callV C (g := 20) (i := 0) none hM_1 dX6_candidates_15 (by decide) rfl rfl rfl uv_X6_candidatesOf ul_RX6_94 rfl rfl (by decide) (Nat.le_of_ble_eq_true rfl) (fun r_15 τ_15 h_15 => ?_)
    obtain ⟨h_15, e_15⟩ := h_15; subst h_15
    refine G.goto (tgt := 22) C dX6_candidates_18 (by decide) ?_
    subst hQ
    exact G.iret C hr dX6_candidates_22 (by
        exact ⟨rfl, Or.inr ⟨b_7, e_15⟩⟩)
set_option maxHeartbeats 4000000 in
set_option maxRecDepth 100000 in
theorem ok_X6_mould {w : wD} (hw : wOK w) (σ : wSt) (a b : Int32) (hz : σ.1 20 0 0 = 0) {m : Nat} (hm0 : σ.1 20 0 14 = nI m) (hm8 : m ≤ 8) : MI w yX6_mould cX6_mould 3 (some .int) 2 43 [.ref (w.2.2.2.1 20 0), .int a, .int b] σ (fun r τ => (¬ okYY a b ∧ σ = τ ∧ r = -1) ∨ (okYY a b ∧ 8 ≤ m ∧ σ = τ ∧ r = -3) ∨ (okYY a b ∧ m < 8 ∧ wUp (wUp (wUp σ 31 0 m a) 32 0 m b) 20 0 14 (nI (m + 1)) = τ ∧ r = nI m)) := by
  refine MI.of hw (by decide +kernel) (Nat.le_of_ble_eq_true rfl) (fun x C hr => ?_)
  suffices key : ∀ Q, Q = QI w x (fun r τ => (¬ okYY a b ∧ σ = τ ∧ r = -1) ∨ (okYY a b ∧ 8 ≤ m ∧ σ = τ ∧ r = -3) ∨ (okYY a b ∧ m < 8 ∧ wUp (wUp (wUp σ 31 0 m a) 32 0 m b) 20 0 14 (nI (m + 1)) = τ ∧ r = nI m)) → G w x 3 Q 0 [(0, .ref (w.2.2.2.1 20 0)), (1, .int a), (2, .int b)] [] σ from key _ rfl
  intro Q hQ
  refine G.aload_n C 0 dX6_mould_0 rfl rfl ?_
  refine G.iconst (v := 0) C dX6_mould_1 (by decide) ?_
  refine G.put (g := 20) (i := 0) C 0 none dX6_mould_2 (by decide) rfl rfl uX_X6 tyX6 tyX6_ok nmX6 (by decide) uf_RX6_61 rfl rfl (by decide +kernel) (Nat.le_of_ble_eq_true rfl) w_up_20_0 ?_
  rw [wUp_id hz]
  refine G.iload_n C 1 dX6_mould_5 rfl rfl ?_
  refine G.iload_n C 2 dX6_mould_6 rfl rfl ?_
  have hM_0 := ok_X6_isYears hw σ a b
  refine G.callS C none hM_0 dX6_mould_7 us_X6_isYears ul_RX6_69 rfl rfl (by decide) (Nat.le_of_ble_eq_true rfl) (fun r_7 τ_7 h_7 => ?_)
  obtain ⟨h_7, e_7⟩ := h_7; subst h_7
  refine G.if_ne (tgt := 15) C dX6_mould_10 (by decide) (fun c_10 => ?_) (fun c_10 => ?_)
  · have b_7 := wb_1 e_7 c_10
    refine G.aload_n C 0 dX6_mould_15 rfl rfl ?_
    refine G.get (g := 20) (i := 0) C 14 none dX6_mould_16 (by decide) rfl rfl uX_X6 (by decide) uf_RX6_97 rfl rfl ?_
    refine G.bipush (v := 8) C dX6_mould_19 (by decide) ?_
    refine G.icmp_ne (tgt := 27) C dX6_mould_21 (by decide) (fun c_21 => ?_) (fun c_21 => ?_)
    · have hh9 : m < 8 := by
        refine seven (by omega) (fun q => c_21 ?_)
        rw [hm0, q]; rfl
      refine G.aload_n C 0 dX6_mould_27 rfl rfl ?_
      refine G.get (g := 20) (i := 0) C 15 none dX6_mould_28 (by decide) rfl rfl uX_X6 (by decide) uf_RX6_40 rfl rfl ?_
      refine G.aload_n C 0 dX6_mould_31 rfl rfl ?_
      refine G.get (g := 20) (i := 0) C 14 none dX6_mould_32 (by decide) rfl rfl uX_X6 (by decide) uf_RX6_97 rfl rfl ?_
      refine G.iload_n C 1 dX6_mould_35 rfl rfl ?_
      have hin_36 : vp_in (σ.1 20 0 14) 8 := by
        simp only [hm0]
        exact vp_in_nI (by omega) (by decide)
      refine G.iast (g := 31) (i := 0) (n := 8) C dX6_mould_36 (by decide) rfl hin_36 w_ast_31 ?_
      refine G.aload_n C 0 dX6_mould_37 rfl rfl ?_
      refine G.get (g := 20) (i := 0) C 16 none dX6_mould_38 (by decide) rfl rfl uX_X6 (by decide) uf_RX6_43 rfl rfl ?_
      refine G.aload_n C 0 dX6_mould_41 rfl rfl ?_
      refine G.get (g := 20) (i := 0) C 14 none dX6_mould_42 (by decide) rfl rfl uX_X6 (by decide) uf_RX6_97 rfl rfl ?_
      refine G.iload_n C 2 dX6_mould_45 rfl rfl ?_
      have hin_46 : vp_in ((wUp σ 31 0 (σ.1 20 0 14).toNatClampNeg a).1 20 0 14) 8 := by
        simp only [wUp_ng (show 20 ≠ 31 by decide), hm0]
        exact vp_in_nI (by omega) (by decide)
      refine G.iast (g := 32) (i := 0) (n := 8) C dX6_mould_46 (by decide) rfl hin_46 w_ast_32 ?_
      refine G.aload_n C 0 dX6_mould_47 rfl rfl ?_
      refine G.dup C dX6_mould_48 rfl ?_
      refine G.get (g := 20) (i := 0) C 14 none dX6_mould_49 (by decide) rfl rfl uX_X6 (by decide) uf_RX6_97 rfl rfl ?_
      refine G.iconst (v := 1) C dX6_mould_52 (by decide) ?_
      refine G.iadd C dX6_mould_53 ?_
      refine G.put (g := 20) (i := 0) C 14 none dX6_mould_54 (by decide) rfl rfl uX_X6 tyX6 tyX6_ok nmX6 (by decide) uf_RX6_97 rfl rfl (by decide +kernel) (Nat.le_of_ble_eq_true rfl) w_up_20_14 ?_
      refine G.aload_n C 0 dX6_mould_57 rfl rfl ?_
      refine G.get (g := 20) (i := 0) C 14 none dX6_mould_58 (by decide) rfl rfl uX_X6 (by decide) uf_RX6_97 rfl rfl ?_
      refine G.iconst (v := 1) C dX6_mould_61 (by decide) ?_
      refine G.isub C dX6_mould_62 ?_
      subst hQ
      exact G.iret C hr dX6_mould_63 (by
          refine Or.inr (Or.inr ⟨b_7, hh9, ?_, ?_⟩)
          · simp only [wUp_ng (show 20 ≠ 31 by decide), wUp_ng (show 20 ≠ 32 by decide), wUp_eq, hm0, nI_clamp (show m < 2 ^ 31 by omega), nI_1, nI_pred]
          · simp only [wUp_ng (show 20 ≠ 31 by decide), wUp_ng (show 20 ≠ 32 by decide), wUp_eq, hm0, nI_clamp (show m < 2 ^ 31 by omega), nI_1, nI_pred])
    · have hh9 : 8 ≤ m := by
        rw [hm0, show (8 : Int32) = nI 8 from rfl, nI_eq (by omega) (by decide)] at c_21
        omega
      refine G.bipush (v := -3) C dX6_mould_24 (by decide) ?_
      subst hQ
      exact G.iret C hr dX6_mould_26 (by
          exact Or.inr (Or.inl ⟨b_7, hh9, rfl, rfl⟩))
  · have b_7 := wb_0 e_7 c_10
    refine G.iconst (v := -1) C dX6_mould_13 (by decide) ?_
    subst hQ
    exact G.iret C hr dX6_mould_14 (by
        refine Or.inl ⟨fun q => ?_, rfl, rfl⟩
        first | exact b_7 q)
set_option maxHeartbeats 4000000 in
set_option maxRecDepth 100000 in
theorem ok_X6_paper {w : wD} (hw : wOK w) (σ : wSt) (a b : Int32) (hz : σ.1 20 0 0 = 0) {l : Nat} (hl : σ.1 20 0 7 = nI l) (hl20 : l ≤ 20) {m : Nat} (hm0 : σ.1 20 0 14 = nI m) (hm8 : m ≤ 8) : MI w yX6_paper cX6_paper 4 (some .int) 2 43 [.ref (w.2.2.2.1 20 0), .int a, .int b] σ (fun r τ => (¬ (inN (σ.1 20 0 7) a ∧ (b = -9 ∨ inN (σ.1 20 0 14) b)) ∧ σ = τ ∧ r = -2) ∨ ((inN (σ.1 20 0 7) a ∧ (b = -9 ∨ inN (σ.1 20 0 14) b)) ∧ wUp σ 29 0 a.toNatClampNeg b = τ ∧ r = σ.1 29 0 a.toNatClampNeg)) := by
  refine MI.of hw (by decide +kernel) (Nat.le_of_ble_eq_true rfl) (fun x C hr => ?_)
  suffices key : ∀ Q, Q = QI w x (fun r τ => (¬ (inN (σ.1 20 0 7) a ∧ (b = -9 ∨ inN (σ.1 20 0 14) b)) ∧ σ = τ ∧ r = -2) ∨ ((inN (σ.1 20 0 7) a ∧ (b = -9 ∨ inN (σ.1 20 0 14) b)) ∧ wUp σ 29 0 a.toNatClampNeg b = τ ∧ r = σ.1 29 0 a.toNatClampNeg)) → G w x 4 Q 0 [(0, .ref (w.2.2.2.1 20 0)), (1, .int a), (2, .int b)] [] σ from key _ rfl
  intro Q hQ
  refine G.aload_n C 0 dX6_paper_0 rfl rfl ?_
  refine G.iconst (v := 0) C dX6_paper_1 (by decide) ?_
  refine G.put (g := 20) (i := 0) C 0 none dX6_paper_2 (by decide) rfl rfl uX_X6 tyX6 tyX6_ok nmX6 (by decide) uf_RX6_61 rfl rfl (by decide +kernel) (Nat.le_of_ble_eq_true rfl) w_up_20_0 ?_
  rw [wUp_id hz]
  refine G.aload_n C 0 dX6_paper_5 rfl rfl ?_
  refine G.iload_n C 1 dX6_paper_6 rfl rfl ?_
  have hM_0 := ok_X6_isLeaf hw σ a hl hl20
  refine G.callV C (g := 20) (i := 0) none hM_0 dX6_paper_7 (by decide) rfl rfl rfl uv_X6_isLeaf ul_RX6_91 rfl rfl (by decide) (Nat.le_of_ble_eq_true rfl) (fun r_7 τ_7 h_7 => ?_)
  obtain ⟨h_7, e_7⟩ := h_7; subst h_7
  refine G.if_eq (tgt := 33) C dX6_paper_10 (by decide) (fun c_10 => ?_) (fun c_10 => ?_)
  · have b_7 := wb_0 e_7 c_10
    refine G.bipush (v := -2) C dX6_paper_33 (by decide) ?_
    subst hQ
    exact G.iret C hr dX6_paper_35 (by
        refine Or.inl ⟨fun q => ?_, rfl, rfl⟩
        first | exact b_7 q.1 | exact q.2.elim c_16 b_27)
  · have b_7 := wb_1 e_7 c_10
    refine G.iload_n C 2 dX6_paper_13 rfl rfl ?_
    refine G.bipush (v := -9) C dX6_paper_14 (by decide) ?_
    refine G.icmp_eq (tgt := 36) C dX6_paper_16 (by decide) (fun c_16 => ?_) (fun c_16 => ?_)
    · refine G.aload_n C 0 dX6_paper_36 rfl rfl ?_
      refine G.get (g := 20) (i := 0) C 12 none dX6_paper_37 (by decide) rfl rfl uX_X6 (by decide) uf_RX6_34 rfl rfl ?_
      refine G.iload_n C 1 dX6_paper_40 rfl rfl ?_
      have hin_41 : vp_in a 20 := by
        exact vp_ofc b_7 hl hl20 (by decide)
      refine G.iald (g := 29) (i := 0) (n := 20) C dX6_paper_41 (by decide) rfl hin_41 ?_
      refine G.topi (fun x3_42 ex3_42 => ?_)
      refine G.istore_n (L1 := [(3, .int x3_42), (0, .ref (w.2.2.2.1 20 0)), (1, .int a), (2, .int b)]) C dX6_paper_42 rfl (by decide) rfl ?_
      refine G.aload_n C 1 dX6_paper_43 rfl rfl ?_
      refine G.get (g := 20) (i := 0) C 12 none dX6_paper_44 (by decide) rfl rfl uX_X6 (by decide) uf_RX6_34 rfl rfl ?_
      refine G.iload_n C 2 dX6_paper_47 rfl rfl ?_
      refine G.iload_n C 3 dX6_paper_48 rfl rfl ?_
      have hin_49 : vp_in a 20 := by
        exact vp_ofc b_7 hl hl20 (by decide)
      refine G.iast (g := 29) (i := 0) (n := 20) C dX6_paper_49 (by decide) rfl hin_49 w_ast_29 ?_
      refine G.iload_n C 0 dX6_paper_50 rfl rfl ?_
      subst hQ
      exact G.iret C hr dX6_paper_51 (by
          exact Or.inr ⟨⟨b_7, Or.inl c_16⟩, rfl, ex3_42⟩)
    · refine G.iload_n C 2 dX6_paper_19 rfl rfl ?_
      refine G.iconst (v := 0) C dX6_paper_20 (by decide) ?_
      refine G.aload_n C 0 dX6_paper_21 rfl rfl ?_
      refine G.get (g := 20) (i := 0) C 14 none dX6_paper_22 (by decide) rfl rfl uX_X6 (by decide) uf_RX6_97 rfl rfl ?_
      refine G.iconst (v := 1) C dX6_paper_25 (by decide) ?_
      refine G.isub C dX6_paper_26 ?_
      have hM_1 := ok_X6_in hw σ b 0 ((σ.1 20 0 14) - 1)
      refine G.callS C none hM_1 dX6_paper_27 us_X6_in ul_RX6_65 rfl rfl (by decide) (Nat.le_of_ble_eq_true rfl) (fun r_27 τ_27 h_27 => ?_)
      obtain ⟨h_27, e_27⟩ := h_27; subst h_27
      rw [hm0] at e_27
      rw [wb_iff (in_pred (by omega))] at e_27
      rw [← hm0] at e_27
      refine G.if_ne (tgt := 36) C dX6_paper_30 (by decide) (fun c_30 => ?_) (fun c_30 => ?_)
      · have b_27 := wb_1 e_27 c_30
        refine G.aload_n C 0 dX6_paper_36 rfl rfl ?_
        refine G.get (g := 20) (i := 0) C 12 none dX6_paper_37 (by decide) rfl rfl uX_X6 (by decide) uf_RX6_34 rfl rfl ?_
        refine G.iload_n C 1 dX6_paper_40 rfl rfl ?_
        have hin_41 : vp_in a 20 := by
          exact vp_ofc b_7 hl hl20 (by decide)
        refine G.iald (g := 29) (i := 0) (n := 20) C dX6_paper_41 (by decide) rfl hin_41 ?_
        refine G.topi (fun x3_42 ex3_42 => ?_)
        refine G.istore_n (L1 := [(3, .int x3_42), (0, .ref (w.2.2.2.1 20 0)), (1, .int a), (2, .int b)]) C dX6_paper_42 rfl (by decide) rfl ?_
        refine G.aload_n C 1 dX6_paper_43 rfl rfl ?_
        refine G.get (g := 20) (i := 0) C 12 none dX6_paper_44 (by decide) rfl rfl uX_X6 (by decide) uf_RX6_34 rfl rfl ?_
        refine G.iload_n C 2 dX6_paper_47 rfl rfl ?_
        refine G.iload_n C 3 dX6_paper_48 rfl rfl ?_
        have hin_49 : vp_in a 20 := by
          exact vp_ofc b_7 hl hl20 (by decide)
        refine G.iast (g := 29) (i := 0) (n := 20) C dX6_paper_49 (by decide) rfl hin_49 w_ast_29 ?_
        refine G.iload_n C 0 dX6_paper_50 rfl rfl ?_
        subst hQ
        exact G.iret C hr dX6_paper_51 (by
            exact Or.inr ⟨⟨b_7, Or.inr b_27⟩, rfl, ex3_42⟩)
      · have b_27 := wb_0 e_27 c_30
        refine G.bipush (v := -2) C dX6_paper_33 (by decide) ?_
        subst hQ
        exact G.iret C hr dX6_paper_35 (by
            refine Or.inl ⟨fun q => ?_, rfl, rfl⟩
            first | exact b_7 q.1 | exact q.2.elim c_16 b_27)
set_option maxHeartbeats 4000000 in
set_option maxRecDepth 100000 in
theorem ok_X6_imprint {w : wD} (hw : wOK w) (σ : wSt) (a b : Int32) (hz : σ.1 20 0 0 = 0) {l : Nat} (hl : σ.1 20 0 7 = nI l) (hl20 : l ≤ 20) : MI w yX6_imprint cX6_imprint 4 (some .int) 2 43 [.ref (w.2.2.2.1 20 0), .int a, .int b] σ (fun r τ => (¬ (inN (σ.1 20 0 7) a ∧ (b = -9 ∨ okY b)) ∧ σ = τ ∧ r = -2) ∨ ((inN (σ.1 20 0 7) a ∧ (b = -9 ∨ okY b)) ∧ wUp σ 30 0 a.toNatClampNeg b = τ ∧ r = σ.1 30 0 a.toNatClampNeg)) := by
  refine MI.of hw (by decide +kernel) (Nat.le_of_ble_eq_true rfl) (fun x C hr => ?_)
  suffices key : ∀ Q, Q = QI w x (fun r τ => (¬ (inN (σ.1 20 0 7) a ∧ (b = -9 ∨ okY b)) ∧ σ = τ ∧ r = -2) ∨ ((inN (σ.1 20 0 7) a ∧ (b = -9 ∨ okY b)) ∧ wUp σ 30 0 a.toNatClampNeg b = τ ∧ r = σ.1 30 0 a.toNatClampNeg)) → G w x 4 Q 0 [(0, .ref (w.2.2.2.1 20 0)), (1, .int a), (2, .int b)] [] σ from key _ rfl
  intro Q hQ
  refine G.aload_n C 0 dX6_imprint_0 rfl rfl ?_
  refine G.iconst (v := 0) C dX6_imprint_1 (by decide) ?_
  refine G.put (g := 20) (i := 0) C 0 none dX6_imprint_2 (by decide) rfl rfl uX_X6 tyX6 tyX6_ok nmX6 (by decide) uf_RX6_61 rfl rfl (by decide +kernel) (Nat.le_of_ble_eq_true rfl) w_up_20_0 ?_
  rw [wUp_id hz]
  refine G.aload_n C 0 dX6_imprint_5 rfl rfl ?_
  refine G.iload_n C 1 dX6_imprint_6 rfl rfl ?_
  have hM_0 := ok_X6_isLeaf hw σ a hl hl20
  refine G.callV C (g := 20) (i := 0) none hM_0 dX6_imprint_7 (by decide) rfl rfl rfl uv_X6_isLeaf ul_RX6_91 rfl rfl (by decide) (Nat.le_of_ble_eq_true rfl) (fun r_7 τ_7 h_7 => ?_)
  obtain ⟨h_7, e_7⟩ := h_7; subst h_7
  refine G.if_eq (tgt := 32) C dX6_imprint_10 (by decide) (fun c_10 => ?_) (fun c_10 => ?_)
  · have b_7 := wb_0 e_7 c_10
    refine G.bipush (v := -2) C dX6_imprint_32 (by decide) ?_
    subst hQ
    exact G.iret C hr dX6_imprint_34 (by
        refine Or.inl ⟨fun q => ?_, rfl, rfl⟩
        first | exact b_7 q.1 | exact q.2.elim c_16 b_26)
  · have b_7 := wb_1 e_7 c_10
    refine G.iload_n C 2 dX6_imprint_13 rfl rfl ?_
    refine G.bipush (v := -9) C dX6_imprint_14 (by decide) ?_
    refine G.icmp_eq (tgt := 35) C dX6_imprint_16 (by decide) (fun c_16 => ?_) (fun c_16 => ?_)
    · refine G.aload_n C 0 dX6_imprint_35 rfl rfl ?_
      refine G.get (g := 20) (i := 0) C 13 none dX6_imprint_36 (by decide) rfl rfl uX_X6 (by decide) uf_RX6_37 rfl rfl ?_
      refine G.iload_n C 1 dX6_imprint_39 rfl rfl ?_
      have hin_40 : vp_in a 20 := by
        exact vp_ofc b_7 hl hl20 (by decide)
      refine G.iald (g := 30) (i := 0) (n := 20) C dX6_imprint_40 (by decide) rfl hin_40 ?_
      refine G.topi (fun x3_41 ex3_41 => ?_)
      refine G.istore_n (L1 := [(3, .int x3_41), (0, .ref (w.2.2.2.1 20 0)), (1, .int a), (2, .int b)]) C dX6_imprint_41 rfl (by decide) rfl ?_
      refine G.aload_n C 1 dX6_imprint_42 rfl rfl ?_
      refine G.get (g := 20) (i := 0) C 13 none dX6_imprint_43 (by decide) rfl rfl uX_X6 (by decide) uf_RX6_37 rfl rfl ?_
      refine G.iload_n C 2 dX6_imprint_46 rfl rfl ?_
      refine G.iload_n C 3 dX6_imprint_47 rfl rfl ?_
      have hin_48 : vp_in a 20 := by
        exact vp_ofc b_7 hl hl20 (by decide)
      refine G.iast (g := 30) (i := 0) (n := 20) C dX6_imprint_48 (by decide) rfl hin_48 w_ast_30 ?_
      refine G.iload_n C 0 dX6_imprint_49 rfl rfl ?_
      subst hQ
      exact G.iret C hr dX6_imprint_50 (by
          exact Or.inr ⟨⟨b_7, Or.inl c_16⟩, rfl, ex3_41⟩)
    · refine G.iload_n C 2 dX6_imprint_19 rfl rfl ?_
      refine G.sipush (v := 1500) C dX6_imprint_20 (by decide) ?_
      refine G.sipush (v := 1900) C dX6_imprint_23 (by decide) ?_
      have hM_1 := ok_X6_in hw σ b 1500 1900
      refine G.callS C none hM_1 dX6_imprint_26 us_X6_in ul_RX6_65 rfl rfl (by decide) (Nat.le_of_ble_eq_true rfl) (fun r_26 τ_26 h_26 => ?_)
      obtain ⟨h_26, e_26⟩ := h_26; subst h_26
      refine G.if_ne (tgt := 35) C dX6_imprint_29 (by decide) (fun c_29 => ?_) (fun c_29 => ?_)
      · have b_26 := wb_1 e_26 c_29
        refine G.aload_n C 0 dX6_imprint_35 rfl rfl ?_
        refine G.get (g := 20) (i := 0) C 13 none dX6_imprint_36 (by decide) rfl rfl uX_X6 (by decide) uf_RX6_37 rfl rfl ?_
        refine G.iload_n C 1 dX6_imprint_39 rfl rfl ?_
        have hin_40 : vp_in a 20 := by
          exact vp_ofc b_7 hl hl20 (by decide)
        refine G.iald (g := 30) (i := 0) (n := 20) C dX6_imprint_40 (by decide) rfl hin_40 ?_
        refine G.topi (fun x3_41 ex3_41 => ?_)
        refine G.istore_n (L1 := [(3, .int x3_41), (0, .ref (w.2.2.2.1 20 0)), (1, .int a), (2, .int b)]) C dX6_imprint_41 rfl (by decide) rfl ?_
        refine G.aload_n C 1 dX6_imprint_42 rfl rfl ?_
        refine G.get (g := 20) (i := 0) C 13 none dX6_imprint_43 (by decide) rfl rfl uX_X6 (by decide) uf_RX6_37 rfl rfl ?_
        refine G.iload_n C 2 dX6_imprint_46 rfl rfl ?_
        refine G.iload_n C 3 dX6_imprint_47 rfl rfl ?_
        have hin_48 : vp_in a 20 := by
          exact vp_ofc b_7 hl hl20 (by decide)
        refine G.iast (g := 30) (i := 0) (n := 20) C dX6_imprint_48 (by decide) rfl hin_48 w_ast_30 ?_
        refine G.iload_n C 0 dX6_imprint_49 rfl rfl ?_
        subst hQ
        exact G.iret C hr dX6_imprint_50 (by
            exact Or.inr ⟨⟨b_7, Or.inr b_26⟩, rfl, ex3_41⟩)
      · have b_26 := wb_0 e_26 c_29
        refine G.bipush (v := -2) C dX6_imprint_32 (by decide) ?_
        subst hQ
        exact G.iret C hr dX6_imprint_34 (by
            refine Or.inl ⟨fun q => ?_, rfl, rfl⟩
            first | exact b_7 q.1 | exact q.2.elim c_16 b_26)
