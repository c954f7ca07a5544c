set_option maxHeartbeats 4000000 in
set_option maxRecDepth 100000 in
theorem ok_X1_bestShift {w : wD} (hw : wOK w) (σ : wSt) (i j : Nat) (hi : i < wN 15) (hj9 : j < wN 18) {h b : Nat} (hh : σ.1 15 i 1 = nI h) (hh6 : h ≤ 6) (hb : σ.1 18 j 1 = nI b) (hb6 : b ≤ 6) : MI w yX1_bestShift cX1_bestShift 7 (some .int) 3 68 [.ref (w.2.2.2.1 15 i), .ref (w.2.2.2.1 18 j)] σ (fun r τ => σ = τ ∧ r = shU (fun q => fitU (σ.1 16 i) (σ.1 19 j) b q h) 20) := by
  refine MI.of hw (by decide +kernel) (Nat.le_of_ble_eq_true rfl) (fun x C hr => ?_)
  suffices key : ∀ Q, Q = QI w x (fun r τ => σ = τ ∧ r = shU (fun q => fitU (σ.1 16 i) (σ.1 19 j) b q h) 20) → G w x 7 Q 0 [(0, .ref (w.2.2.2.1 15 i)), (1, .ref (w.2.2.2.1 18 j))] [] σ from key _ rfl
  intro Q hQ
  refine G.iconst (v := 0) C dX1_bestShift_0 (by decide) ?_
  refine G.istore_n (L1 := [(2, .int 0), (0, .ref (w.2.2.2.1 15 i)), (1, .ref (w.2.2.2.1 18 j))]) C dX1_bestShift_1 rfl (by decide) rfl ?_
  refine G.aload_n C 1 dX1_bestShift_2 rfl rfl ?_
  refine G.aload_n C 2 dX1_bestShift_3 rfl rfl ?_
  refine G.iconst (v := 0) C dX1_bestShift_4 (by decide) ?_
  have hM_0 := ok_X1_fitting hw σ i j 0 hi hj9 hh hh6 hb hb6
  refine G.callV C (g := 15) (i := i) none hM_0 dX1_bestShift_5 hi rfl rfl rfl uv_X1_fitting ul_RX1_33 rfl rfl (by decide) (Nat.le_of_ble_eq_true rfl) (fun r_5 τ_5 h_5 => ?_)
  obtain ⟨h_5, e_5⟩ := h_5; subst h_5
  refine G.istore_n (L1 := [(3, .int r_5), (2, .int 0), (0, .ref (w.2.2.2.1 15 i)), (1, .ref (w.2.2.2.1 18 j))]) C dX1_bestShift_8 rfl (by decide) rfl ?_
  refine G.iconst (v := 1) C dX1_bestShift_9 (by decide) ?_
  refine G.istore (L1 := [(4, .int 1), (3, .int r_5), (2, .int 0), (0, .ref (w.2.2.2.1 15 i)), (1, .ref (w.2.2.2.1 18 j))]) C dX1_bestShift_10 (by decide) rfl ?_
  have cut_12 : ∀ (m9 : Nat) (far : Nat) (x4 x3 x2 : Int32), far ≤ 20 → 20 < far + m9 → x4 = nI (far + 1) → x3 = (fun q => fitU (σ.1 16 i) (σ.1 19 j) b q h) (shU (fun q => fitU (σ.1 16 i) (σ.1 19 j) b q h) far) → x2 = shU (fun q => fitU (σ.1 16 i) (σ.1 19 j) b q h) far → G w x 7 Q 12 [(4, .int x4), (3, .int x3), (2, .int x2), (0, .ref (w.2.2.2.1 15 i)), (1, .ref (w.2.2.2.1 18 j))] [] σ := by
    intro m9
    induction m9 with
    | zero =>
      intro far x4 x3 x2 hk hm hx4 hx3 hx2
      exfalso
      omega
    | succ m9 ih_12 =>
      intro far x4 x3 x2 hk hm hx4 hx3 hx2
      subst hx4
      subst hx3
      subst hx2
      refine G.iload C 0 dX1_bestShift_12 rfl ?_
      refine G.bipush (v := 20) C dX1_bestShift_14 (by decide) ?_
      refine G.icmp_gt (tgt := 70) C dX1_bestShift_16 (by decide) (fun c_16 => ?_) (fun c_16 => ?_)
      · have h20 : far = 20 := by
          rw [show (20 : Int32) = nI 20 from rfl, nI_ltI (by decide) (by omega)] at c_16; omega
        refine G.iload_n C 2 dX1_bestShift_70 rfl rfl ?_
        subst hQ
        exact G.iret C hr dX1_bestShift_71 (by
            rw [h20]
            exact ⟨rfl, rfl⟩)
      · have h20 : far < 20 := by
          rw [show (20 : Int32) = nI 20 from rfl, nI_ltI (by decide) (by omega)] at c_16; omega
        refine G.iload C 0 dX1_bestShift_19 rfl ?_
        refine G.ineg C dX1_bestShift_21 ?_
        refine G.topi (fun x5_22 ex5_22 => ?_)
        refine G.istore (L1 := [(5, .int x5_22), (4, .int (nI (far + 1))), (3, .int ((fun q => fitU (σ.1 16 i) (σ.1 19 j) b q h) (shU (fun q => fitU (σ.1 16 i) (σ.1 19 j) b q h) far))), (2, .int (shU (fun q => fitU (σ.1 16 i) (σ.1 19 j) b q h) far)), (0, .ref (w.2.2.2.1 15 i)), (1, .ref (w.2.2.2.1 18 j))]) C dX1_bestShift_22 (by decide) rfl ?_
        subst ex5_22
        refine G.iload C 0 dX1_bestShift_24 rfl ?_
        refine G.iload C 1 dX1_bestShift_26 rfl ?_
        refine G.icmp_gt (tgt := 64) C dX1_bestShift_28 (by decide) (fun c_28 => ?_) (fun c_28 => ?_)
        · exact absurd c_28 (w_shift1 far (by omega))
        · refine G.aload_n C 4 dX1_bestShift_31 rfl rfl ?_
          refine G.aload_n C 5 dX1_bestShift_32 rfl rfl ?_
          refine G.iload C 0 dX1_bestShift_33 rfl ?_
          have hM_1 := ok_X1_fitting hw σ i j (-nI (far + 1)) hi hj9 hh hh6 hb hb6
          refine G.callV C (g := 15) (i := i) none hM_1 dX1_bestShift_35 hi rfl rfl rfl uv_X1_fitting ul_RX1_33 rfl rfl (by decide) (Nat.le_of_ble_eq_true rfl) (fun r_35 τ_35 h_35 => ?_)
          obtain ⟨h_35, e_35⟩ := h_35; subst h_35
          refine G.istore (L1 := [(6, .int r_35), (5, .int (-nI (far + 1))), (4, .int (nI (far + 1))), (3, .int ((fun q => fitU (σ.1 16 i) (σ.1 19 j) b q h) (shU (fun q => fitU (σ.1 16 i) (σ.1 19 j) b q h) far))), (2, .int (shU (fun q => fitU (σ.1 16 i) (σ.1 19 j) b q h) far)), (0, .ref (w.2.2.2.1 15 i)), (1, .ref (w.2.2.2.1 18 j))]) C dX1_bestShift_38 (by decide) rfl ?_
          refine G.iload C 0 dX1_bestShift_40 rfl ?_
          refine G.iload_n C 3 dX1_bestShift_42 rfl rfl ?_
          refine G.icmp_le (tgt := 52) C dX1_bestShift_43 (by decide) (fun c_43 => ?_) (fun c_43 => ?_)
          · refine G.iload C 1 dX1_bestShift_52 rfl ?_
            refine G.iconst (v := 2) C dX1_bestShift_54 (by decide) ?_
            refine G.iload C 2 dX1_bestShift_55 rfl ?_
            refine G.imul C dX1_bestShift_57 ?_
            refine G.iadd C dX1_bestShift_58 ?_
            refine G.topi (fun x5_59 ex5_59 => ?_)
            refine G.istore (L1 := [(5, .int x5_59), (6, .int r_35), (4, .int (nI (far + 1))), (3, .int ((fun q => fitU (σ.1 16 i) (σ.1 19 j) b q h) (shU (fun q => fitU (σ.1 16 i) (σ.1 19 j) b q h) far))), (2, .int (shU (fun q => fitU (σ.1 16 i) (σ.1 19 j) b q h) far)), (0, .ref (w.2.2.2.1 15 i)), (1, .ref (w.2.2.2.1 18 j))]) C dX1_bestShift_59 (by decide) rfl ?_
            refine G.goto (tgt := 24) C dX1_bestShift_61 (by decide) ?_
            have e9 : x5_59 = nI (far + 1) := by
              rw [ex5_59]; exact w_shift2 far (by omega)
            subst e9
            refine G.iload C 0 dX1_bestShift_24 rfl ?_
            refine G.iload C 2 dX1_bestShift_26 rfl ?_
            refine G.icmp_gt (tgt := 64) C dX1_bestShift_28 (by decide) (fun c_28v2 => ?_) (fun c_28v2 => ?_)
            · exact absurd c_28v2 (Int32.not_lt.mpr (Int32.le_refl _))
            · refine G.aload_n C 5 dX1_bestShift_31 rfl rfl ?_
              refine G.aload_n C 6 dX1_bestShift_32 rfl rfl ?_
              refine G.iload C 0 dX1_bestShift_33 rfl ?_
              have hM_2 := ok_X1_fitting hw σ i j (nI (far + 1)) hi hj9 hh hh6 hb hb6
              refine G.callV C (g := 15) (i := i) none hM_2 dX1_bestShift_35 hi rfl rfl rfl uv_X1_fitting ul_RX1_33 rfl rfl (by decide) (Nat.le_of_ble_eq_true rfl) (fun r_35v2 τ_35v2 h_35v2 => ?_)
              obtain ⟨h_35v2, e_35v2⟩ := h_35v2; subst h_35v2
              refine G.istore (L1 := [(6, .int r_35v2), (5, .int (nI (far + 1))), (4, .int (nI (far + 1))), (3, .int ((fun q => fitU (σ.1 16 i) (σ.1 19 j) b q h) (shU (fun q => fitU (σ.1 16 i) (σ.1 19 j) b q h) far))), (2, .int (shU (fun q => fitU (σ.1 16 i) (σ.1 19 j) b q h) far)), (0, .ref (w.2.2.2.1 15 i)), (1, .ref (w.2.2.2.1 18 j))]) C dX1_bestShift_38 (by decide) rfl ?_
              refine G.iload C 0 dX1_bestShift_40 rfl ?_
              refine G.iload_n C 3 dX1_bestShift_42 rfl rfl ?_
              refine G.icmp_le (tgt := 52) C dX1_bestShift_43 (by decide) (fun c_43v2 => ?_) (fun c_43v2 => ?_)
              · refine G.iload C 1 dX1_bestShift_52 rfl ?_
                refine G.iconst (v := 2) C dX1_bestShift_54 (by decide) ?_
                refine G.iload C 2 dX1_bestShift_55 rfl ?_
                refine G.imul C dX1_bestShift_57 ?_
                refine G.iadd C dX1_bestShift_58 ?_
                refine G.topi (fun x5_59v2 ex5_59v2 => ?_)
                refine G.istore (L1 := [(5, .int x5_59v2), (6, .int r_35v2), (4, .int (nI (far + 1))), (3, .int ((fun q => fitU (σ.1 16 i) (σ.1 19 j) b q h) (shU (fun q => fitU (σ.1 16 i) (σ.1 19 j) b q h) far))), (2, .int (shU (fun q => fitU (σ.1 16 i) (σ.1 19 j) b q h) far)), (0, .ref (w.2.2.2.1 15 i)), (1, .ref (w.2.2.2.1 18 j))]) C dX1_bestShift_59 (by decide) rfl ?_
                refine G.goto (tgt := 24) C dX1_bestShift_61 (by decide) ?_
                have e9 : x5_59v2 = nI (far + 1) + 2 * nI (far + 1) := ex5_59v2
                subst e9
                refine G.iload C 0 dX1_bestShift_24 rfl ?_
                refine G.iload C 2 dX1_bestShift_26 rfl ?_
                refine G.icmp_gt (tgt := 64) C dX1_bestShift_28 (by decide) (fun c_28v3 => ?_) (fun c_28v3 => ?_)
                · obtain ⟨x4_64, ex4_64⟩ : ∃ z : Int32, z = (nI (far + 1)) + 1 := ⟨_, rfl⟩
                  refine G.iinc (v := x4_64) (L1 := [(4, .int x4_64), (5, .int (nI (far + 1) + 2 * nI (far + 1))), (6, .int r_35v2), (3, .int ((fun q => fitU (σ.1 16 i) (σ.1 19 j) b q h) (shU (fun q => fitU (σ.1 16 i) (σ.1 19 j) b q h) far))), (2, .int (shU (fun q => fitU (σ.1 16 i) (σ.1 19 j) b q h) far)), (0, .ref (w.2.2.2.1 15 i)), (1, .ref (w.2.2.2.1 18 j))]) C 2 dX1_bestShift_64 rfl (by rw [ex4_64]; rfl) (by decide) rfl ?_
                  refine G.goto (tgt := 12) C dX1_bestShift_67 (by decide) ?_
                  refine G.sub (L1 := [(4, .int x4_64), (3, .int ((fun q => fitU (σ.1 16 i) (σ.1 19 j) b q h) (shU (fun q => fitU (σ.1 16 i) (σ.1 19 j) b q h) far))), (2, .int (shU (fun q => fitU (σ.1 16 i) (σ.1 19 j) b q h) far)), (0, .ref (w.2.2.2.1 15 i)), (1, .ref (w.2.2.2.1 18 j))]) [0, 3, 4, 5, 6] rfl ?_
                  refine ih_12  (far + 1) _ _ _ ?_ ?_ ?_ ?_ ?_
                  · omega
                  · omega
                  · rw [ex4_64]; exact nI_1 (far + 1)
                  · rw [e_35] at c_43
                    rw [e_35v2] at c_43v2
                    have q1 : shS (fun q => fitU (σ.1 16 i) (σ.1 19 j) b q h) (-nI (far + 1)) (shU (fun q => fitU (σ.1 16 i) (σ.1 19 j) b q h) far) = shU (fun q => fitU (σ.1 16 i) (σ.1 19 j) b q h) far := shS_le c_43
                    have q2 : shS (fun q => fitU (σ.1 16 i) (σ.1 19 j) b q h) (nI (far + 1)) (shU (fun q => fitU (σ.1 16 i) (σ.1 19 j) b q h) far) = shU (fun q => fitU (σ.1 16 i) (σ.1 19 j) b q h) far := shS_le c_43v2
                    simp only [shU]
                    rw [q1, q2]
                    try first | exact e_35v2 | exact e_35 | rfl
                  · rw [e_35] at c_43
                    rw [e_35v2] at c_43v2
                    have q1 : shS (fun q => fitU (σ.1 16 i) (σ.1 19 j) b q h) (-nI (far + 1)) (shU (fun q => fitU (σ.1 16 i) (σ.1 19 j) b q h) far) = shU (fun q => fitU (σ.1 16 i) (σ.1 19 j) b q h) far := shS_le c_43
                    have q2 : shS (fun q => fitU (σ.1 16 i) (σ.1 19 j) b q h) (nI (far + 1)) (shU (fun q => fitU (σ.1 16 i) (σ.1 19 j) b q h) far) = shU (fun q => fitU (σ.1 16 i) (σ.1 19 j) b q h) far := shS_le c_43v2
                    simp only [shU]
                    rw [q1, q2]
                    try first | assumption | rfl
                · exact absurd (w_shift3 far (by omega)) c_28v3
              · refine G.iload C 0 dX1_bestShift_46 rfl ?_
                refine G.istore_n (L1 := [(3, .int r_35v2), (6, .int r_35v2), (5, .int (nI (far + 1))), (4, .int (nI (far + 1))), (2, .int (shU (fun q => fitU (σ.1 16 i) (σ.1 19 j) b q h) far)), (0, .ref (w.2.2.2.1 15 i)), (1, .ref (w.2.2.2.1 18 j))]) C dX1_bestShift_48 rfl (by decide) rfl ?_
                refine G.iload C 2 dX1_bestShift_49 rfl ?_
                refine G.topi (fun x2_51 ex2_51 => ?_)
                refine G.istore_n (L1 := [(2, .int x2_51), (3, .int r_35v2), (6, .int r_35v2), (5, .int (nI (far + 1))), (4, .int (nI (far + 1))), (0, .ref (w.2.2.2.1 15 i)), (1, .ref (w.2.2.2.1 18 j))]) C dX1_bestShift_51 rfl (by decide) rfl ?_
                refine G.iload C 3 dX1_bestShift_52 rfl ?_
                refine G.iconst (v := 2) C dX1_bestShift_54 (by decide) ?_
                refine G.iload C 4 dX1_bestShift_55 rfl ?_
                refine G.imul C dX1_bestShift_57 ?_
                refine G.iadd C dX1_bestShift_58 ?_
                refine G.topi (fun x5_59v2 ex5_59v2 => ?_)
                refine G.istore (L1 := [(5, .int x5_59v2), (2, .int x2_51), (3, .int r_35v2), (6, .int r_35v2), (4, .int (nI (far + 1))), (0, .ref (w.2.2.2.1 15 i)), (1, .ref (w.2.2.2.1 18 j))]) C dX1_bestShift_59 (by decide) rfl ?_
                refine G.goto (tgt := 24) C dX1_bestShift_61 (by decide) ?_
                have e9 : x5_59v2 = nI (far + 1) + 2 * nI (far + 1) := ex5_59v2
                subst e9
                refine G.iload C 0 dX1_bestShift_24 rfl ?_
                refine G.iload C 4 dX1_bestShift_26 rfl ?_
                refine G.icmp_gt (tgt := 64) C dX1_bestShift_28 (by decide) (fun c_28v3 => ?_) (fun c_28v3 => ?_)
                · obtain ⟨x4_64, ex4_64⟩ : ∃ z : Int32, z = (nI (far + 1)) + 1 := ⟨_, rfl⟩
                  refine G.iinc (v := x4_64) (L1 := [(4, .int x4_64), (5, .int (nI (far + 1) + 2 * nI (far + 1))), (2, .int x2_51), (3, .int r_35v2), (6, .int r_35v2), (0, .ref (w.2.2.2.1 15 i)), (1, .ref (w.2.2.2.1 18 j))]) C 4 dX1_bestShift_64 rfl (by rw [ex4_64]; rfl) (by decide) rfl ?_
                  refine G.goto (tgt := 12) C dX1_bestShift_67 (by decide) ?_
                  refine G.sub (L1 := [(4, .int x4_64), (3, .int r_35v2), (2, .int x2_51), (0, .ref (w.2.2.2.1 15 i)), (1, .ref (w.2.2.2.1 18 j))]) [0, 3, 2, 5, 6] rfl ?_
                  refine ih_12  (far + 1) _ _ _ ?_ ?_ ?_ ?_ ?_
                  · omega
                  · omega
                  · rw [ex4_64]; exact nI_1 (far + 1)
                  · rw [e_35] at c_43
                    rw [e_35v2] at c_43v2
                    have q1 : shS (fun q => fitU (σ.1 16 i) (σ.1 19 j) b q h) (-nI (far + 1)) (shU (fun q => fitU (σ.1 16 i) (σ.1 19 j) b q h) far) = shU (fun q => fitU (σ.1 16 i) (σ.1 19 j) b q h) far := shS_le c_43
                    have q2 : shS (fun q => fitU (σ.1 16 i) (σ.1 19 j) b q h) (nI (far + 1)) (shU (fun q => fitU (σ.1 16 i) (σ.1 19 j) b q h) far) = nI (far + 1) := shS_gt c_43v2
                    simp only [shU]
                    rw [q1, q2]
                    try first | exact e_35v2 | exact e_35 | rfl
                  · rw [e_35] at c_43
                    rw [e_35v2] at c_43v2
                    have q1 : shS (fun q => fitU (σ.1 16 i) (σ.1 19 j) b q h) (-nI (far + 1)) (shU (fun q => fitU (σ.1 16 i) (σ.1 19 j) b q h) far) = shU (fun q => fitU (σ.1 16 i) (σ.1 19 j) b q h) far := shS_le c_43
                    have q2 : shS (fun q => fitU (σ.1 16 i) (σ.1 19 j) b q h) (nI (far + 1)) (shU (fun q => fitU (σ.1 16 i) (σ.1 19 j) b q h) far) = nI (far + 1) := shS_gt c_43v2
                    simp only [shU]
                    rw [q1, q2]
                    try first | assumption | rfl
                · exact absurd (w_shift3 far (by omega)) c_28v3
          · refine G.iload C 0 dX1_bestShift_46 rfl ?_
            refine G.istore_n (L1 := [(3, .int r_35), (6, .int r_35), (5, .int (-nI (far + 1))), (4, .int (nI (far + 1))), (2, .int (shU (fun q => fitU (σ.1 16 i) (σ.1 19 j) b q h) far)), (0, .ref (w.2.2.2.1 15 i)), (1, .ref (w.2.2.2.1 18 j))]) C dX1_bestShift_48 rfl (by decide) rfl ?_
            refine G.iload C 2 dX1_bestShift_49 rfl ?_
            refine G.topi (fun x2_51 ex2_51 => ?_)
            refine G.istore_n (L1 := [(2, .int x2_51), (3, .int r_35), (6, .int r_35), (5, .int (-nI (far + 1))), (4, .int (nI (far + 1))), (0, .ref (w.2.2.2.1 15 i)), (1, .ref (w.2.2.2.1 18 j))]) C dX1_bestShift_51 rfl (by decide) rfl ?_
            refine G.iload C 3 dX1_bestShift_52 rfl ?_
            refine G.iconst (v := 2) C dX1_bestShift_54 (by decide) ?_
            refine G.iload C 4 dX1_bestShift_55 rfl ?_
            refine G.imul C dX1_bestShift_57 ?_
            refine G.iadd C dX1_bestShift_58 ?_
            refine G.topi (fun x5_59 ex5_59 => ?_)
            refine G.istore (L1 := [(5, .int x5_59), (2, .int x2_51), (3, .int r_35), (6, .int r_35), (4, .int (nI (far + 1))), (0, .ref (w.2.2.2.1 15 i)), (1, .ref (w.2.2.2.1 18 j))]) C dX1_bestShift_59 (by decide) rfl ?_
            refine G.goto (tgt := 24) C dX1_bestShift_61 (by decide) ?_
            have e9 : x5_59 = nI (far + 1) := by
              rw [ex5_59]; exact w_shift2 far (by omega)
            subst e9
            refine G.iload C 0 dX1_bestShift_24 rfl ?_
            refine G.iload C 4 dX1_bestShift_26 rfl ?_
            refine G.icmp_gt (tgt := 64) C dX1_bestShift_28 (by decide) (fun c_28v2 => ?_) (fun c_28v2 => ?_)
            · exact absurd c_28v2 (Int32.not_lt.mpr (Int32.le_refl _))
            · refine G.aload_n C 5 dX1_bestShift_31 rfl rfl ?_
              refine G.aload_n C 6 dX1_bestShift_32 rfl rfl ?_
              refine G.iload C 0 dX1_bestShift_33 rfl ?_
              have hM_3 := ok_X1_fitting hw σ i j (nI (far + 1)) hi hj9 hh hh6 hb hb6
              refine G.callV C (g := 15) (i := i) none hM_3 dX1_bestShift_35 hi rfl rfl rfl uv_X1_fitting ul_RX1_33 rfl rfl (by decide) (Nat.le_of_ble_eq_true rfl) (fun r_35v2 τ_35v2 h_35v2 => ?_)
              obtain ⟨h_35v2, e_35v2⟩ := h_35v2; subst h_35v2
              refine G.istore (L1 := [(6, .int r_35v2), (5, .int (nI (far + 1))), (2, .int x2_51), (3, .int r_35), (4, .int (nI (far + 1))), (0, .ref (w.2.2.2.1 15 i)), (1, .ref (w.2.2.2.1 18 j))]) C dX1_bestShift_38 (by decide) rfl ?_
              refine G.iload C 0 dX1_bestShift_40 rfl ?_
              refine G.iload_n C 3 dX1_bestShift_42 rfl rfl ?_
              refine G.icmp_le (tgt := 52) C dX1_bestShift_43 (by decide) (fun c_43v2 => ?_) (fun c_43v2 => ?_)
              · refine G.iload C 1 dX1_bestShift_52 rfl ?_
                refine G.iconst (v := 2) C dX1_bestShift_54 (by decide) ?_
                refine G.iload C 4 dX1_bestShift_55 rfl ?_
                refine G.imul C dX1_bestShift_57 ?_
                refine G.iadd C dX1_bestShift_58 ?_
                refine G.topi (fun x5_59v2 ex5_59v2 => ?_)
                refine G.istore (L1 := [(5, .int x5_59v2), (6, .int r_35v2), (2, .int x2_51), (3, .int r_35), (4, .int (nI (far + 1))), (0, .ref (w.2.2.2.1 15 i)), (1, .ref (w.2.2.2.1 18 j))]) C dX1_bestShift_59 (by decide) rfl ?_
                refine G.goto (tgt := 24) C dX1_bestShift_61 (by decide) ?_
                have e9 : x5_59v2 = nI (far + 1) + 2 * nI (far + 1) := ex5_59v2
                subst e9
                refine G.iload C 0 dX1_bestShift_24 rfl ?_
                refine G.iload C 4 dX1_bestShift_26 rfl ?_
                refine G.icmp_gt (tgt := 64) C dX1_bestShift_28 (by decide) (fun c_28v3 => ?_) (fun c_28v3 => ?_)
                · obtain ⟨x4_64, ex4_64⟩ : ∃ z : Int32, z = (nI (far + 1)) + 1 := ⟨_, rfl⟩
                  refine G.iinc (v := x4_64) (L1 := [(4, .int x4_64), (5, .int (nI (far + 1) + 2 * nI (far + 1))), (6, .int r_35v2), (2, .int x2_51), (3, .int r_35), (0, .ref (w.2.2.2.1 15 i)), (1, .ref (w.2.2.2.1 18 j))]) C 4 dX1_bestShift_64 rfl (by rw [ex4_64]; rfl) (by decide) rfl ?_
                  refine G.goto (tgt := 12) C dX1_bestShift_67 (by decide) ?_
                  refine G.sub (L1 := [(4, .int x4_64), (3, .int r_35), (2, .int x2_51), (0, .ref (w.2.2.2.1 15 i)), (1, .ref (w.2.2.2.1 18 j))]) [0, 4, 3, 5, 6] rfl ?_
                  refine ih_12  (far + 1) _ _ _ ?_ ?_ ?_ ?_ ?_
                  · omega
                  · omega
                  · rw [ex4_64]; exact nI_1 (far + 1)
                  · rw [e_35] at c_43
                    rw [e_35v2] at c_43v2
                    rw [e_35] at c_43v2
                    have q1 : shS (fun q => fitU (σ.1 16 i) (σ.1 19 j) b q h) (-nI (far + 1)) (shU (fun q => fitU (σ.1 16 i) (σ.1 19 j) b q h) far) = -nI (far + 1) := shS_gt c_43
                    have q2 : shS (fun q => fitU (σ.1 16 i) (σ.1 19 j) b q h) (nI (far + 1)) (-nI (far + 1)) = -nI (far + 1) := shS_le c_43v2
                    simp only [shU]
                    rw [q1, q2]
                    try first | exact e_35v2 | exact e_35 | rfl
                  · rw [e_35] at c_43
                    rw [e_35v2] at c_43v2
                    rw [e_35] at c_43v2
                    have q1 : shS (fun q => fitU (σ.1 16 i) (σ.1 19 j) b q h) (-nI (far + 1)) (shU (fun q => fitU (σ.1 16 i) (σ.1 19 j) b q h) far) = -nI (far + 1) := shS_gt c_43
                    have q2 : shS (fun q => fitU (σ.1 16 i) (σ.1 19 j) b q h) (nI (far + 1)) (-nI (far + 1)) = -nI (far + 1) := shS_le c_43v2
                    simp only [shU]
                    rw [q1, q2]
                    try first | assumption | rfl
                · exact absurd (w_shift3 far (by omega)) c_28v3
              · refine G.iload C 0 dX1_bestShift_46 rfl ?_
                refine G.istore_n (L1 := [(3, .int r_35v2), (6, .int r_35v2), (5, .int (nI (far + 1))), (2, .int x2_51), (4, .int (nI (far + 1))), (0, .ref (w.2.2.2.1 15 i)), (1, .ref (w.2.2.2.1 18 j))]) C dX1_bestShift_48 rfl (by decide) rfl ?_
                refine G.iload C 2 dX1_bestShift_49 rfl ?_
                refine G.topi (fun x2_51v2 ex2_51v2 => ?_)
                refine G.istore_n (L1 := [(2, .int x2_51v2), (3, .int r_35v2), (6, .int r_35v2), (5, .int (nI (far + 1))), (4, .int (nI (far + 1))), (0, .ref (w.2.2.2.1 15 i)), (1, .ref (w.2.2.2.1 18 j))]) C dX1_bestShift_51 rfl (by decide) rfl ?_
                refine G.iload C 3 dX1_bestShift_52 rfl ?_
                refine G.iconst (v := 2) C dX1_bestShift_54 (by decide) ?_
                refine G.iload C 4 dX1_bestShift_55 rfl ?_
                refine G.imul C dX1_bestShift_57 ?_
                refine G.iadd C dX1_bestShift_58 ?_
                refine G.topi (fun x5_59v2 ex5_59v2 => ?_)
                refine G.istore (L1 := [(5, .int x5_59v2), (2, .int x2_51v2), (3, .int r_35v2), (6, .int r_35v2), (4, .int (nI (far + 1))), (0, .ref (w.2.2.2.1 15 i)), (1, .ref (w.2.2.2.1 18 j))]) C dX1_bestShift_59 (by decide) rfl ?_
                refine G.goto (tgt := 24) C dX1_bestShift_61 (by decide) ?_
                have e9 : x5_59v2 = nI (far + 1) + 2 * nI (far + 1) := ex5_59v2
                subst e9
                refine G.iload C 0 dX1_bestShift_24 rfl ?_
                refine G.iload C 4 dX1_bestShift_26 rfl ?_
                refine G.icmp_gt (tgt := 64) C dX1_bestShift_28 (by decide) (fun c_28v3 => ?_) (fun c_28v3 => ?_)
                · obtain ⟨x4_64, ex4_64⟩ : ∃ z : Int32, z = (nI (far + 1)) + 1 := ⟨_, rfl⟩
                  refine G.iinc (v := x4_64) (L1 := [(4, .int x4_64), (5, .int (nI (far + 1) + 2 * nI (far + 1))), (2, .int x2_51v2), (3, .int r_35v2), (6, .int r_35v2), (0, .ref (w.2.2.2.1 15 i)), (1, .ref (w.2.2.2.1 18 j))]) C 4 dX1_bestShift_64 rfl (by rw [ex4_64]; rfl) (by decide) rfl ?_
                  refine G.goto (tgt := 12) C dX1_bestShift_67 (by decide) ?_
                  refine G.sub (L1 := [(4, .int x4_64), (3, .int r_35v2), (2, .int x2_51v2), (0, .ref (w.2.2.2.1 15 i)), (1, .ref (w.2.2.2.1 18 j))]) [0, 3, 2, 5, 6] rfl ?_
                  refine ih_12  (far + 1) _ _ _ ?_ ?_ ?_ ?_ ?_
                  · omega
                  · omega
                  · rw [ex4_64]; exact nI_1 (far + 1)
                  · rw [e_35] at c_43
                    rw [e_35v2] at c_43v2
                    rw [e_35] at c_43v2
                    have q1 : shS (fun q => fitU (σ.1 16 i) (σ.1 19 j) b q h) (-nI (far + 1)) (shU (fun q => fitU (σ.1 16 i) (σ.1 19 j) b q h) far) = -nI (far + 1) := shS_gt c_43
                    have q2 : shS (fun q => fitU (σ.1 16 i) (σ.1 19 j) b q h) (nI (far + 1)) (-nI (far + 1)) = nI (far + 1) := shS_gt c_43v2
                    simp only [shU]
                    rw [q1, q2]
                    try first | exact e_35v2 | exact e_35 | rfl
                  · rw [e_35] at c_43
                    rw [e_35v2] at c_43v2
                    rw [e_35] at c_43v2
                    have q1 : shS (fun q => fitU (σ.1 16 i) (σ.1 19 j) b q h) (-nI (far + 1)) (shU (fun q => fitU (σ.1 16 i) (σ.1 19 j) b q h) far) = -nI (far + 1) := shS_gt c_43
                    have q2 : shS (fun q => fitU (σ.1 16 i) (σ.1 19 j) b q h) (nI (far + 1)) (-nI (far + 1)) = nI (far + 1) := shS_gt c_43v2
                    simp only [shU]
                    rw [q1, q2]
                    try first | assumption | rfl
                · exact absurd (w_shift3 far (by omega)) c_28v3
  refine cut_12 21 0 _ _ _ ?_ ?_ ?_ ?_ ?_
  · omega
  · omega
  · rfl
  · exact e_5
  · rfl
set_option maxHeartbeats 4000000 in
set_option maxRecDepth 100000 in
theorem ok_X1_mostFitting {w : wD} (hw : wOK w) (σ : wSt) (i j : Nat) (hi : i < wN 15) (hj9 : j < wN 18) {h b : Nat} (hh : σ.1 15 i 1 = nI h) (hh6 : h ≤ 6) (hb : σ.1 18 j 1 = nI b) (hb6 : b ≤ 6) : MI w yX1_mostFitting cX1_mostFitting 2 (some .int) 4 94 [.ref (w.2.2.2.1 15 i), .ref (w.2.2.2.1 18 j)] σ (fun r τ => σ = τ ∧ r = mostU (fun q => fitU (σ.1 16 i) (σ.1 19 j) b q h)) := by
  refine MI.of hw (by decide +kernel) (Nat.le_of_ble_eq_true rfl) (fun x C hr => ?_)
  suffices key : ∀ Q, Q = QI w x (fun r τ => σ = τ ∧ r = mostU (fun q => fitU (σ.1 16 i) (σ.1 19 j) b q h)) → G w x 2 Q 0 [(0, .ref (w.2.2.2.1 15 i)), (1, .ref (w.2.2.2.1 18 j))] [] σ from key _ rfl
  intro Q hQ
  refine G.aload_n C 0 dX1_mostFitting_0 rfl rfl ?_
  refine G.aload_n C 1 dX1_mostFitting_1 rfl rfl ?_
  refine G.aload_n C 0 dX1_mostFitting_2 rfl rfl ?_
  refine G.aload_n C 1 dX1_mostFitting_3 rfl rfl ?_
  have hM_0 := ok_X1_bestShift hw σ i j hi hj9 hh hh6 hb hb6
  refine G.callV C (g := 15) (i := i) none hM_0 dX1_mostFitting_4 hi rfl rfl rfl uv_X1_bestShift ul_RX1_29 rfl rfl (by decide) (Nat.le_of_ble_eq_true rfl) (fun r_4 τ_4 h_4 => ?_)
  obtain ⟨h_4, e_4⟩ := h_4; subst h_4
  have hM_1 := ok_X1_fitting hw σ i j r_4 hi hj9 hh hh6 hb hb6
  refine G.callV C (g := 15) (i := i) none hM_1 dX1_mostFitting_7 hi rfl rfl rfl uv_X1_fitting ul_RX1_33 rfl rfl (by decide) (Nat.le_of_ble_eq_true rfl) (fun r_7 τ_7 h_7 => ?_)
  obtain ⟨h_7, e_7⟩ := h_7; subst h_7
  subst hQ
  exact G.iret C hr dX1_mostFitting_10 (by
      subst e_4
      exact ⟨rfl, e_7⟩)
set_option maxHeartbeats 4000000 in
set_option maxRecDepth 100000 in
theorem ok_X0_hasItFrom {w : wD} (hw : wOK w) (σ : wSt) (a b d : Int32) {c : Nat} (hc : σ.1 2 0 4 = nI c) (hc8 : c ≤ 8) (hE : ∀ k, k < c → rng12 (σ.1 13 0 k)) : MI w yX0_hasItFrom cX0_hasItFrom 6 (some .boolean) 3 69 [.ref (w.2.2.2.1 2 0), .int a, .int b, .int d] σ (fun r τ => σ = τ ∧ r = wb (chU (σ.1 13 0) (fun q => fromU (σ.1 12 0) (costU (σ.1 13 0) (σ.1 2 0 0) (σ.1 2 0 1) (σ.1 2 0 4) q) q.toNatClampNeg c) (σ.1 2 0 4) b d 8 a = true)) := by
  refine MI.of hw (by decide +kernel) (Nat.le_of_ble_eq_true rfl) (fun x C hr => ?_)
  suffices key : ∀ Q, Q = QI w x (fun r τ => σ = τ ∧ r = wb (chU (σ.1 13 0) (fun q => fromU (σ.1 12 0) (costU (σ.1 13 0) (σ.1 2 0 0) (σ.1 2 0 1) (σ.1 2 0 4) q) q.toNatClampNeg c) (σ.1 2 0 4) b d 8 a = true)) → G w x 6 Q 0 [(0, .ref (w.2.2.2.1 2 0)), (1, .int a), (2, .int b), (3, .int d)] [] σ from key _ rfl
  intro Q hQ
  refine G.iload_n C 1 dX0_hasItFrom_0 rfl rfl ?_
  refine G.istore (L1 := [(4, .int a), (0, .ref (w.2.2.2.1 2 0)), (1, .int a), (2, .int b), (3, .int d)]) C dX0_hasItFrom_1 (by decide) rfl ?_
  refine G.iconst (v := 0) C dX0_hasItFrom_3 (by decide) ?_
  refine G.istore (L1 := [(5, .int 0), (4, .int a), (0, .ref (w.2.2.2.1 2 0)), (1, .int a), (2, .int b), (3, .int d)]) C dX0_hasItFrom_4 (by decide) rfl ?_
  have cut_6 : ∀ (m9 : Nat) (j : Nat) (on : Int32) (x5 : Int32), j ≤ 8 → 8 < j + m9 → chU (σ.1 13 0) (fun q => fromU (σ.1 12 0) (costU (σ.1 13 0) (σ.1 2 0 0) (σ.1 2 0 1) (σ.1 2 0 4) q) q.toNatClampNeg c) (σ.1 2 0 4) b d (8 - j) on = chU (σ.1 13 0) (fun q => fromU (σ.1 12 0) (costU (σ.1 13 0) (σ.1 2 0 0) (σ.1 2 0 1) (σ.1 2 0 4) q) q.toNatClampNeg c) (σ.1 2 0 4) b d 8 a → x5 = nI j → G w x 6 Q 6 [(5, .int x5), (4, .int on), (0, .ref (w.2.2.2.1 2 0)), (1, .int a), (2, .int b), (3, .int d)] [] σ := by
    intro m9
    induction m9 with
    | zero =>
      intro j on x5 hj hm hch hx5
      exfalso
      omega
    | succ m9 ih_6 =>
      intro j on x5 hj hm hch hx5
      subst hx5
      refine G.iload C 0 dX0_hasItFrom_6 rfl ?_
      refine G.bipush (v := 8) C dX0_hasItFrom_8 (by decide) ?_
      refine G.icmp_ge (tgt := 60) C dX0_hasItFrom_10 (by decide) (fun c_10 => ?_) (fun c_10 => ?_)
      · have hj8 : j = 8 := by
          rw [show (8 : Int32) = nI 8 from rfl, nI_leI (by decide) (by omega)] at c_10; omega
        refine G.iconst (v := 0) C dX0_hasItFrom_60 (by decide) ?_
        subst hQ
        exact G.zret C hr (by rfl) dX0_hasItFrom_61 (by
            refine ⟨rfl, (wb_f ?_).symm⟩
            rw [← hch, hj8]
            exact Bool.false_ne_true)
      · have hj8 : j < 8 := by
          rw [show (8 : Int32) = nI 8 from rfl, nI_leI (by decide) (by omega)] at c_10; omega
        obtain ⟨k9, hk9⟩ : ∃ k9, 8 - j = k9 + 1 := ⟨7 - j, by omega⟩
        rw [hk9] at hch
        refine G.aload_n C 2 dX0_hasItFrom_13 rfl rfl ?_
        refine G.iload C 1 dX0_hasItFrom_14 rfl ?_
        have hM_0 := ok_X0_hasMap hw σ on
        refine G.callV C (g := 2) (i := 0) none hM_0 dX0_hasItFrom_16 (by decide) rfl rfl rfl uv_X0_hasMap ul_RX0_28 rfl rfl (by decide) (Nat.le_of_ble_eq_true rfl) (fun r_16 τ_16 h_16 => ?_)
        obtain ⟨h_16, e_16⟩ := h_16; subst h_16
        refine G.if_eq (tgt := 36) C dX0_hasItFrom_19 (by decide) (fun c_19 => ?_) (fun c_19 => ?_)
        · have b_16 := wb_0 e_16 c_19
          refine G.iconst (v := 0) C dX0_hasItFrom_36 (by decide) ?_
          subst hQ
          exact G.zret C hr (by rfl) dX0_hasItFrom_37 (by
              refine ⟨rfl, (wb_f ?_).symm⟩
              rw [← hch]
              simp only [chU]
              rw [if_pos b_16]
              decide)
        · have b_16 := wb_1 e_16 c_19
          refine G.aload_n C 2 dX0_hasItFrom_22 rfl rfl ?_
          refine G.get (g := 2) (i := 0) C 3 none dX0_hasItFrom_23 (by decide) rfl rfl uX_X0 (by decide) uf_RX0_22 rfl rfl ?_
          refine G.iload C 1 dX0_hasItFrom_26 rfl ?_
          have hin_28 : vp_in on 8 := by
            exact vp_ofc b_16 hc hc8 (by decide)
          refine G.iald (g := 13) (i := 0) (n := 8) C dX0_hasItFrom_28 (by decide) rfl hin_28 ?_
          refine G.iload_n C 5 dX0_hasItFrom_29 rfl rfl ?_
          have hM_1 := ok_X5_has hw σ (σ.1 13 0 on.toNatClampNeg) d
          refine G.callS C (some "PlateRoom") hM_1 dX0_hasItFrom_30 us_X5_has unm_RX0_53 rfl rfl (by decide) (Nat.le_of_ble_eq_true rfl) (fun r_30 τ_30 h_30 => ?_)
          obtain ⟨h_30, e_30⟩ := h_30; subst h_30
          refine G.if_ne (tgt := 38) C dX0_hasItFrom_33 (by decide) (fun c_33 => ?_) (fun c_33 => ?_)
          · have b_30 := wb_1 e_30 c_33
            refine G.iload C 1 dX0_hasItFrom_38 rfl ?_
            refine G.iload_n C 4 dX0_hasItFrom_40 rfl rfl ?_
            refine G.icmp_ne (tgt := 46) C dX0_hasItFrom_41 (by decide) (fun c_41 => ?_) (fun c_41 => ?_)
            · refine G.aload_n C 2 dX0_hasItFrom_46 rfl rfl ?_
              refine G.iload C 1 dX0_hasItFrom_47 rfl ?_
              have hM_2 := ok_X0_cheapest hw σ on hc hc8 hE b_16
              refine G.callV C (g := 2) (i := 0) none hM_2 dX0_hasItFrom_49 (by decide) rfl rfl rfl uv_X0_cheapest ul_RX0_46 rfl rfl (by decide) (Nat.le_of_ble_eq_true rfl) (fun r_49 τ_49 h_49 => ?_)
              obtain ⟨h_49, e_49⟩ := h_49; subst h_49
              refine G.istore (L1 := [(4, .int r_49), (5, .int (nI j)), (0, .ref (w.2.2.2.1 2 0)), (1, .int a), (2, .int b), (3, .int d)]) C dX0_hasItFrom_52 (by decide) rfl ?_
              obtain ⟨x5_54, ex5_54⟩ : ∃ z : Int32, z = (nI j) + 1 := ⟨_, rfl⟩
              refine G.iinc (v := x5_54) (L1 := [(5, .int x5_54), (4, .int r_49), (0, .ref (w.2.2.2.1 2 0)), (1, .int a), (2, .int b), (3, .int d)]) C 1 dX0_hasItFrom_54 rfl (by rw [ex5_54]; rfl) (by decide) rfl ?_
              refine G.goto (tgt := 6) C dX0_hasItFrom_57 (by decide) ?_
              refine ih_6  (j + 1) _ _ ?_ ?_ ?_ ?_
              · omega
              · omega
              · rw [← hch, show 8 - (j + 1) = k9 by omega]
                simp only [chU]
                rw [if_neg (fun q => q b_16), if_neg (fun q => q b_30), if_neg c_41, e_49]
              · rw [ex5_54]; exact nI_1 j
            · refine G.iconst (v := 1) C dX0_hasItFrom_44 (by decide) ?_
              subst hQ
              exact G.zret C hr (by rfl) dX0_hasItFrom_45 (by
                  refine ⟨rfl, (wb_t ?_).symm⟩
                  rw [← hch]
                  simp only [chU]
                  rw [if_neg (fun q => q b_16), if_neg (fun q => q b_30), if_pos c_41])
          · have b_30 := wb_0 e_30 c_33
            refine G.iconst (v := 0) C dX0_hasItFrom_36 (by decide) ?_
            subst hQ
            exact G.zret C hr (by rfl) dX0_hasItFrom_37 (by
                refine ⟨rfl, (wb_f ?_).symm⟩
                rw [← hch]
                simp only [chU]
                rw [if_neg (fun q => q b_16), if_pos b_30]
                decide)
  refine cut_6 9 0 _ _ ?_ ?_ ?_ ?_
  · omega
  · omega
  · rfl
  · rfl
set_option maxHeartbeats 4000000 in
set_option maxRecDepth 100000 in
theorem ok_X0_lifeOf {w : wD} (hw : wOK w) (σ : wSt) (a b : Int32) {c : Nat} (hc : σ.1 2 0 4 = nI c) (hc8 : c ≤ 8) (hE : ∀ k, k < c → rng12 (σ.1 13 0 k)) : MI w yX0_lifeOf cX0_lifeOf 5 (some .int) 4 94 [.ref (w.2.2.2.1 2 0), .int a, .int b] σ (fun r τ => σ = τ ∧ r = lifeU (fun q => chU (σ.1 13 0) (fun q => fromU (σ.1 12 0) (costU (σ.1 13 0) (σ.1 2 0 0) (σ.1 2 0 1) (σ.1 2 0 4) q) q.toNatClampNeg c) (σ.1 2 0 4) a b 8 q) c) := by
  refine MI.of hw (by decide +kernel) (Nat.le_of_ble_eq_true rfl) (fun x C hr => ?_)
  suffices key : ∀ Q, Q = QI w x (fun r τ => σ = τ ∧ r = lifeU (fun q => chU (σ.1 13 0) (fun q => fromU (σ.1 12 0) (costU (σ.1 13 0) (σ.1 2 0 0) (σ.1 2 0 1) (σ.1 2 0 4) q) q.toNatClampNeg c) (σ.1 2 0 4) a b 8 q) c) → G w x 5 Q 0 [(0, .ref (w.2.2.2.1 2 0)), (1, .int a), (2, .int b)] [] σ from key _ rfl
  intro Q hQ
  refine G.iconst (v := 0) C dX0_lifeOf_0 (by decide) ?_
  refine G.istore_n (L1 := [(3, .int 0), (0, .ref (w.2.2.2.1 2 0)), (1, .int a), (2, .int b)]) C dX0_lifeOf_1 rfl (by decide) rfl ?_
  refine G.iconst (v := 0) C dX0_lifeOf_2 (by decide) ?_
  refine G.istore (L1 := [(4, .int 0), (3, .int 0), (0, .ref (w.2.2.2.1 2 0)), (1, .int a), (2, .int b)]) C dX0_lifeOf_3 (by decide) rfl ?_
  have cut_5 : ∀ (m9 : Nat) (j : Nat) (x4 x3 : Int32), j ≤ c → c < j + m9 → x4 = nI j → x3 = lifeU (fun q => chU (σ.1 13 0) (fun q => fromU (σ.1 12 0) (costU (σ.1 13 0) (σ.1 2 0 0) (σ.1 2 0 1) (σ.1 2 0 4) q) q.toNatClampNeg c) (σ.1 2 0 4) a b 8 q) j → G w x 5 Q 5 [(4, .int x4), (3, .int x3), (0, .ref (w.2.2.2.1 2 0)), (1, .int a), (2, .int b)] [] σ := by
    intro m9
    induction m9 with
    | zero =>
      intro j x4 x3 hj hm hx4 hx3
      exfalso
      omega
    | succ m9 ih_5 =>
      intro j x4 x3 hj hm hx4 hx3
      subst hx4
      subst hx3
      refine G.iload C 0 dX0_lifeOf_5 rfl ?_
      refine G.aload_n C 2 dX0_lifeOf_7 rfl rfl ?_
      refine G.get (g := 2) (i := 0) C 4 none dX0_lifeOf_8 (by decide) rfl rfl uX_X0 (by decide) uf_RX0_25 rfl rfl ?_
      refine G.icmp_ge (tgt := 34) C dX0_lifeOf_11 (by decide) (fun c_11 => ?_) (fun c_11 => ?_)
      · have hjn : j = c := by
          rw [hc, nI_leI (by omega) (by omega)] at c_11; omega
        refine G.iload_n C 1 dX0_lifeOf_34 rfl rfl ?_
        subst hQ
        exact G.iret C hr dX0_lifeOf_35 (by
            rw [hjn]
            exact ⟨rfl, rfl⟩)
      · have hjn : j < c := by
          rw [hc, nI_leI (by omega) (by omega)] at c_11; omega
        refine G.aload_n C 2 dX0_lifeOf_14 rfl rfl ?_
        refine G.iload C 0 dX0_lifeOf_15 rfl ?_
        refine G.iload_n C 3 dX0_lifeOf_17 rfl rfl ?_
        refine G.iload_n C 4 dX0_lifeOf_18 rfl rfl ?_
        have hM_0 := ok_X0_hasItFrom hw σ (nI j) a b hc hc8 hE
        refine G.callV C (g := 2) (i := 0) none hM_0 dX0_lifeOf_19 (by decide) rfl rfl rfl uv_X0_hasItFrom ul_RX0_49 rfl rfl (by decide) (Nat.le_of_ble_eq_true rfl) (fun r_19 τ_19 h_19 => ?_)
        obtain ⟨h_19, e_19⟩ := h_19; subst h_19
        refine G.if_eq (tgt := 28) C dX0_lifeOf_22 (by decide) (fun c_22 => ?_) (fun c_22 => ?_)
        · have b_19 := wb_0 e_19 c_22
          obtain ⟨x4_28, ex4_28⟩ : ∃ z : Int32, z = (nI j) + 1 := ⟨_, rfl⟩
          refine G.iinc (v := x4_28) (L1 := [(4, .int x4_28), (3, .int (lifeU (fun q => chU (σ.1 13 0) (fun q => fromU (σ.1 12 0) (costU (σ.1 13 0) (σ.1 2 0 0) (σ.1 2 0 1) (σ.1 2 0 4) q) q.toNatClampNeg c) (σ.1 2 0 4) a b 8 q) j)), (0, .ref (w.2.2.2.1 2 0)), (1, .int a), (2, .int b)]) C 0 dX0_lifeOf_28 rfl (by rw [ex4_28]; rfl) (by decide) rfl ?_
          refine G.goto (tgt := 5) C dX0_lifeOf_31 (by decide) ?_
          refine ih_5  (j + 1) _ _ ?_ ?_ ?_ ?_
          · omega
          · omega
          · rw [ex4_28]; exact nI_1 j
          · rw [lifeU_f b_19]
        · have b_19 := wb_1 e_19 c_22
          obtain ⟨x3_25, ex3_25⟩ : ∃ z : Int32, z = (lifeU (fun q => chU (σ.1 13 0) (fun q => fromU (σ.1 12 0) (costU (σ.1 13 0) (σ.1 2 0 0) (σ.1 2 0 1) (σ.1 2 0 4) q) q.toNatClampNeg c) (σ.1 2 0 4) a b 8 q) j) + 1 := ⟨_, rfl⟩
          refine G.iinc (v := x3_25) (L1 := [(3, .int x3_25), (4, .int (nI j)), (0, .ref (w.2.2.2.1 2 0)), (1, .int a), (2, .int b)]) C 1 dX0_lifeOf_25 rfl (by rw [ex3_25]; rfl) (by decide) rfl ?_
          obtain ⟨x4_28, ex4_28⟩ : ∃ z : Int32, z = (nI j) + 1 := ⟨_, rfl⟩
          refine G.iinc (v := x4_28) (L1 := [(4, .int x4_28), (3, .int x3_25), (0, .ref (w.2.2.2.1 2 0)), (1, .int a), (2, .int b)]) C 1 dX0_lifeOf_28 rfl (by rw [ex4_28]; rfl) (by decide) rfl ?_
          refine G.goto (tgt := 5) C dX0_lifeOf_31 (by decide) ?_
          refine ih_5  (j + 1) _ _ ?_ ?_ ?_ ?_
          · omega
          · omega
          · rw [ex4_28]; exact nI_1 j
          · rw [ex3_25, lifeU_t b_19]
  refine cut_5 (c + 1) 0 _ _ ?_ ?_ ?_ ?_
  · omega
  · omega
  · rfl
  · rfl
