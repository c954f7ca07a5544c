set_option maxHeartbeats 4000000 in
set_option maxRecDepth 100000 in
theorem ok_X1_bestShift {w : wD} (hw : wOK w) (σ : wSt) (i j : Nat) (hi : i < wN 15) (hj9 : j < wN 18) {h b : Nat} (hh : σ.1 15 i 1 = nI h) (hh6 : h ≤ 6) (hb : σ.1 18 j 1 = nI b) (hb6 : b ≤ 6) : MI w yX1_bestShift cX1_bestShift 7 (some .int) 3 68 [.ref (w.2.2.2.1 15 i), .ref (w.2.2.2.1 18 j)] σ (fun r τ => σ = τ ∧ r = shU (fun q => fitU (σ.1 16 i) (σ.1 19 j) b q h) 20) := by
  refine MI.of hw (by decide +kernel) (Nat.le_of_ble_eq_true rfl) (fun x C hr => ?_)
  suffices key : ∀ Q, Q = QI w x (fun r τ => σ = τ ∧ r = shU (fun q => fitU (σ.1 16 i) (σ.1 19 j) b q h) 20) → G w x 7 Q 0 [(0, .ref (w.2.2.2.1 15 i)), (1, .ref (w.2.2.2.1 18 j))] [] σ from key _ rfl
  intro Q hQ
  refine G.bipush (v := -20) C dX1_bestShift_0 (by decide) ?_
  refine G.istore_n (L1 := [(2, .int (-20)), (0, .ref (w.2.2.2.1 15 i)), (1, .ref (w.2.2.2.1 18 j))]) C dX1_bestShift_2 rfl (by decide) rfl ?_
  refine G.aload_n C 1 dX1_bestShift_3 rfl rfl ?_
  refine G.aload_n C 2 dX1_bestShift_4 rfl rfl ?_
  refine G.iload_n C 0 dX1_bestShift_5 rfl rfl ?_
  have hM_0 := ok_X1_fitting hw σ i j (-20) hi hj9 hh hh6 hb hb6
  refine G.callV C (g := 15) (i := i) none hM_0 dX1_bestShift_6 hi rfl rfl rfl uv_X1_fitting ul_RX1_33 rfl rfl (by decide) (Nat.le_of_ble_eq_true rfl) (fun r_6 τ_6 h_6 => ?_)
  obtain ⟨h_6, e_6⟩ := h_6; subst h_6
  refine G.istore_n (L1 := [(3, .int r_6), (2, .int (-20)), (0, .ref (w.2.2.2.1 15 i)), (1, .ref (w.2.2.2.1 18 j))]) C dX1_bestShift_9 rfl (by decide) rfl ?_
  refine G.bipush (v := -19) C dX1_bestShift_10 (by decide) ?_
  refine G.istore (L1 := [(4, .int (-19)), (3, .int r_6), (2, .int (-20)), (0, .ref (w.2.2.2.1 15 i)), (1, .ref (w.2.2.2.1 18 j))]) C dX1_bestShift_12 (by decide) rfl ?_
  have cut_14 : ∀ (m9 : Nat) (far : Nat) (x4 x3 x2 : Int32), far ≤ 40 → 40 < far + m9 → x4 = nI (far + 1) - 20 → x3 = (fun q => fitU (σ.1 16 i) (σ.1 19 j) b q h) (upU (fun q => fitU (σ.1 16 i) (σ.1 19 j) b q h) far) → x2 = upU (fun q => fitU (σ.1 16 i) (σ.1 19 j) b q h) far → G w x 7 Q 14 [(4, .int x4), (3, .int x3), (2, .int x2), (0, .ref (w.2.2.2.1 15 i)), (1, .ref (w.2.2.2.1 18 j))] [] σ := by
    intro m9
    induction m9 with
    | zero =>
      intro far x4 x3 x2 hk hm hx4 hx3 hx2
      exfalso
      omega
    | succ m9 ih_14 =>
      intro far x4 x3 x2 hk hm hx4 hx3 hx2
      subst hx4
      subst hx3
      subst hx2
      refine G.iload C 0 dX1_bestShift_14 rfl ?_
      refine G.bipush (v := 20) C dX1_bestShift_16 (by decide) ?_
      refine G.icmp_gt (tgt := 78) C dX1_bestShift_18 (by decide) (fun c_18 => ?_) (fun c_18 => ?_)
      · have h40 : far = 40 := by
          have := (w_up2 far (by omega)).mp c_18; omega
        refine G.iload_n C 2 dX1_bestShift_78 rfl rfl ?_
        subst hQ
        exact G.iret C hr dX1_bestShift_79 (by
            rw [h40, up_sh]
            exact ⟨rfl, rfl⟩)
      · have h40 : far < 40 := by
          have h9 : ¬ 40 ≤ far := fun z => c_18 ((w_up2 far (by omega)).mpr z)
          omega
        refine G.aload_n C 3 dX1_bestShift_21 rfl rfl ?_
        refine G.aload_n C 4 dX1_bestShift_22 rfl rfl ?_
        refine G.iload C 0 dX1_bestShift_23 rfl ?_
        have hM_1 := ok_X1_fitting hw σ i j (nI (far + 1) - 20) hi hj9 hh hh6 hb hb6
        refine G.callV C (g := 15) (i := i) none hM_1 dX1_bestShift_25 hi rfl rfl rfl uv_X1_fitting ul_RX1_33 rfl rfl (by decide) (Nat.le_of_ble_eq_true rfl) (fun r_25 τ_25 h_25 => ?_)
        obtain ⟨h_25, e_25⟩ := h_25; subst h_25
        refine G.istore (L1 := [(5, .int r_25), (4, .int (nI (far + 1) - 20)), (3, .int ((fun q => fitU (σ.1 16 i) (σ.1 19 j) b q h) (upU (fun q => fitU (σ.1 16 i) (σ.1 19 j) b q h) far))), (2, .int (upU (fun q => fitU (σ.1 16 i) (σ.1 19 j) b q h) far)), (0, .ref (w.2.2.2.1 15 i)), (1, .ref (w.2.2.2.1 18 j))]) C dX1_bestShift_28 (by decide) rfl ?_
        refine G.iload C 0 dX1_bestShift_30 rfl ?_
        refine G.iload_n C 2 dX1_bestShift_32 rfl rfl ?_
        refine G.icmp_ne (tgt := 52) C dX1_bestShift_33 (by decide) (fun c_33 => ?_) (fun c_33 => ?_)
        · refine G.iconst (v := 0) C dX1_bestShift_52 (by decide) ?_
          refine G.istore (L1 := [(6, .int 0), (5, .int r_25), (4, .int (nI (far + 1) - 20)), (3, .int ((fun q => fitU (σ.1 16 i) (σ.1 19 j) b q h) (upU (fun q => fitU (σ.1 16 i) (σ.1 19 j) b q h) far))), (2, .int (upU (fun q => fitU (σ.1 16 i) (σ.1 19 j) b q h) far)), (0, .ref (w.2.2.2.1 15 i)), (1, .ref (w.2.2.2.1 18 j))]) C dX1_bestShift_53 (by decide) rfl ?_
          refine G.iload C 1 dX1_bestShift_55 rfl ?_
          refine G.iload_n C 3 dX1_bestShift_57 rfl rfl ?_
          refine G.icmp_gt (tgt := 66) C dX1_bestShift_58 (by decide) (fun c_58 => ?_) (fun c_58 => ?_)
          · refine G.iload C 1 dX1_bestShift_66 rfl ?_
            refine G.istore_n (L1 := [(3, .int r_25), (6, .int 0), (5, .int r_25), (4, .int (nI (far + 1) - 20)), (2, .int (upU (fun q => fitU (σ.1 16 i) (σ.1 19 j) b q h) far)), (0, .ref (w.2.2.2.1 15 i)), (1, .ref (w.2.2.2.1 18 j))]) C dX1_bestShift_68 rfl (by decide) rfl ?_
            refine G.iload C 3 dX1_bestShift_69 rfl ?_
            refine G.topi (fun x2_71 ex2_71 => ?_)
            refine G.istore_n (L1 := [(2, .int x2_71), (3, .int r_25), (6, .int 0), (5, .int r_25), (4, .int (nI (far + 1) - 20)), (0, .ref (w.2.2.2.1 15 i)), (1, .ref (w.2.2.2.1 18 j))]) C dX1_bestShift_71 rfl (by decide) rfl ?_
            obtain ⟨x4_72, ex4_72⟩ : ∃ z : Int32, z = (nI (far + 1) - 20) + 1 := ⟨_, rfl⟩
            refine G.iinc (v := x4_72) (L1 := [(4, .int x4_72), (2, .int x2_71), (3, .int r_25), (6, .int 0), (5, .int r_25), (0, .ref (w.2.2.2.1 15 i)), (1, .ref (w.2.2.2.1 18 j))]) C 4 dX1_bestShift_72 rfl (by rw [ex4_72]; rfl) (by decide) rfl ?_
            refine G.goto (tgt := 14) C dX1_bestShift_75 (by decide) ?_
            refine G.sub (L1 := [(4, .int x4_72), (3, .int r_25), (2, .int x2_71), (0, .ref (w.2.2.2.1 15 i)), (1, .ref (w.2.2.2.1 18 j))]) [0, 2, 1, 5, 6] rfl ?_
            refine ih_14  (far + 1) _ _ _ ?_ ?_ ?_ ?_ ?_
            · omega
            · omega
            · rw [ex4_72]; exact w_up1 far (by omega)
            · have q9 : upU (fun q => fitU (σ.1 16 i) (σ.1 19 j) b q h) (far + 1) = nI (far + 1) - 20 := upU_t (Or.inl (by rw [e_25] at c_58; exact c_58))
              rw [q9]
              exact e_25
            · have q9 : upU (fun q => fitU (σ.1 16 i) (σ.1 19 j) b q h) (far + 1) = nI (far + 1) - 20 := upU_t (Or.inl (by rw [e_25] at c_58; exact c_58))
              rw [q9]
              exact ex2_71
          · refine G.iload C 0 dX1_bestShift_61 rfl ?_
            refine G.if_eq (tgt := 72) C dX1_bestShift_63 (by decide) (fun c_63 => ?_) (fun c_63 => absurd (by decide) c_63)
            obtain ⟨x4_72, ex4_72⟩ : ∃ z : Int32, z = (nI (far + 1) - 20) + 1 := ⟨_, rfl⟩
            refine G.iinc (v := x4_72) (L1 := [(4, .int x4_72), (6, .int 0), (5, .int r_25), (3, .int ((fun q => fitU (σ.1 16 i) (σ.1 19 j) b q h) (upU (fun q => fitU (σ.1 16 i) (σ.1 19 j) b q h) far))), (2, .int (upU (fun q => fitU (σ.1 16 i) (σ.1 19 j) b q h) far)), (0, .ref (w.2.2.2.1 15 i)), (1, .ref (w.2.2.2.1 18 j))]) C 2 dX1_bestShift_72 rfl (by rw [ex4_72]; rfl) (by decide) rfl ?_
            refine G.goto (tgt := 14) C dX1_bestShift_75 (by decide) ?_
            refine G.sub (L1 := [(4, .int x4_72), (3, .int ((fun q => fitU (σ.1 16 i) (σ.1 19 j) b q h) (upU (fun q => fitU (σ.1 16 i) (σ.1 19 j) b q h) far))), (2, .int (upU (fun q => fitU (σ.1 16 i) (σ.1 19 j) b q h) far)), (0, .ref (w.2.2.2.1 15 i)), (1, .ref (w.2.2.2.1 18 j))]) [0, 3, 4, 5, 6] rfl ?_
            refine ih_14  (far + 1) _ _ _ ?_ ?_ ?_ ?_ ?_
            · omega
            · omega
            · rw [ex4_72]; exact w_up1 far (by omega)
            · have q9 : upU (fun q => fitU (σ.1 16 i) (σ.1 19 j) b q h) (far + 1) = upU (fun q => fitU (σ.1 16 i) (σ.1 19 j) b q h) far := upU_f (fun q => q.elim (fun q => by rw [e_25] at c_58; exact c_58 q) (fun q => c_33 (by rw [e_25]; exact q.1)))
              rw [q9]
            · have q9 : upU (fun q => fitU (σ.1 16 i) (σ.1 19 j) b q h) (far + 1) = upU (fun q => fitU (σ.1 16 i) (σ.1 19 j) b q h) far := upU_f (fun q => q.elim (fun q => by rw [e_25] at c_58; exact c_58 q) (fun q => c_33 (by rw [e_25]; exact q.1)))
              rw [q9]
        · refine G.iload C 1 dX1_bestShift_36 rfl ?_
          refine G.mabs C dX1_bestShift_38 ul_RX1_23 (by decide) (Nat.le_of_ble_eq_true rfl) ?_
          refine G.iload_n C 3 dX1_bestShift_41 rfl rfl ?_
          refine G.mabs C dX1_bestShift_42 ul_RX1_23 (by decide) (Nat.le_of_ble_eq_true rfl) ?_
          refine G.icmp_ge (tgt := 52) C dX1_bestShift_45 (by decide) (fun c_45 => ?_) (fun c_45 => ?_)
          · refine G.iconst (v := 0) C dX1_bestShift_52 (by decide) ?_
            refine G.istore (L1 := [(6, .int 0), (5, .int r_25), (4, .int (nI (far + 1) - 20)), (3, .int ((fun q => fitU (σ.1 16 i) (σ.1 19 j) b q h) (upU (fun q => fitU (σ.1 16 i) (σ.1 19 j) b q h) far))), (2, .int (upU (fun q => fitU (σ.1 16 i) (σ.1 19 j) b q h) far)), (0, .ref (w.2.2.2.1 15 i)), (1, .ref (w.2.2.2.1 18 j))]) C dX1_bestShift_53 (by decide) rfl ?_
            refine G.iload C 1 dX1_bestShift_55 rfl ?_
            refine G.iload_n C 3 dX1_bestShift_57 rfl rfl ?_
            refine G.icmp_gt (tgt := 66) C dX1_bestShift_58 (by decide) (fun c_58 => ?_) (fun c_58 => ?_)
            · refine G.iload C 1 dX1_bestShift_66 rfl ?_
              refine G.istore_n (L1 := [(3, .int r_25), (6, .int 0), (5, .int r_25), (4, .int (nI (far + 1) - 20)), (2, .int (upU (fun q => fitU (σ.1 16 i) (σ.1 19 j) b q h) far)), (0, .ref (w.2.2.2.1 15 i)), (1, .ref (w.2.2.2.1 18 j))]) C dX1_bestShift_68 rfl (by decide) rfl ?_
              refine G.iload C 3 dX1_bestShift_69 rfl ?_
              refine G.topi (fun x2_71 ex2_71 => ?_)
              refine G.istore_n (L1 := [(2, .int x2_71), (3, .int r_25), (6, .int 0), (5, .int r_25), (4, .int (nI (far + 1) - 20)), (0, .ref (w.2.2.2.1 15 i)), (1, .ref (w.2.2.2.1 18 j))]) C dX1_bestShift_71 rfl (by decide) rfl ?_
              obtain ⟨x4_72, ex4_72⟩ : ∃ z : Int32, z = (nI (far + 1) - 20) + 1 := ⟨_, rfl⟩
              refine G.iinc (v := x4_72) (L1 := [(4, .int x4_72), (2, .int x2_71), (3, .int r_25), (6, .int 0), (5, .int r_25), (0, .ref (w.2.2.2.1 15 i)), (1, .ref (w.2.2.2.1 18 j))]) C 4 dX1_bestShift_72 rfl (by rw [ex4_72]; rfl) (by decide) rfl ?_
              refine G.goto (tgt := 14) C dX1_bestShift_75 (by decide) ?_
              refine G.sub (L1 := [(4, .int x4_72), (3, .int r_25), (2, .int x2_71), (0, .ref (w.2.2.2.1 15 i)), (1, .ref (w.2.2.2.1 18 j))]) [0, 2, 1, 5, 6] rfl ?_
              refine ih_14  (far + 1) _ _ _ ?_ ?_ ?_ ?_ ?_
              · omega
              · omega
              · rw [ex4_72]; exact w_up1 far (by omega)
              · have q9 : upU (fun q => fitU (σ.1 16 i) (σ.1 19 j) b q h) (far + 1) = nI (far + 1) - 20 := upU_t (Or.inl (by rw [e_25] at c_58; exact c_58))
                rw [q9]
                exact e_25
              · have q9 : upU (fun q => fitU (σ.1 16 i) (σ.1 19 j) b q h) (far + 1) = nI (far + 1) - 20 := upU_t (Or.inl (by rw [e_25] at c_58; exact c_58))
                rw [q9]
                exact ex2_71
            · refine G.iload C 0 dX1_bestShift_61 rfl ?_
              refine G.if_eq (tgt := 72) C dX1_bestShift_63 (by decide) (fun c_63 => ?_) (fun c_63 => absurd (by decide) c_63)
              obtain ⟨x4_72, ex4_72⟩ : ∃ z : Int32, z = (nI (far + 1) - 20) + 1 := ⟨_, rfl⟩
              refine G.iinc (v := x4_72) (L1 := [(4, .int x4_72), (6, .int 0), (5, .int r_25), (3, .int ((fun q => fitU (σ.1 16 i) (σ.1 19 j) b q h) (upU (fun q => fitU (σ.1 16 i) (σ.1 19 j) b q h) far))), (2, .int (upU (fun q => fitU (σ.1 16 i) (σ.1 19 j) b q h) far)), (0, .ref (w.2.2.2.1 15 i)), (1, .ref (w.2.2.2.1 18 j))]) C 2 dX1_bestShift_72 rfl (by rw [ex4_72]; rfl) (by decide) rfl ?_
              refine G.goto (tgt := 14) C dX1_bestShift_75 (by decide) ?_
              refine G.sub (L1 := [(4, .int x4_72), (3, .int ((fun q => fitU (σ.1 16 i) (σ.1 19 j) b q h) (upU (fun q => fitU (σ.1 16 i) (σ.1 19 j) b q h) far))), (2, .int (upU (fun q => fitU (σ.1 16 i) (σ.1 19 j) b q h) far)), (0, .ref (w.2.2.2.1 15 i)), (1, .ref (w.2.2.2.1 18 j))]) [0, 3, 4, 5, 6] rfl ?_
              refine ih_14  (far + 1) _ _ _ ?_ ?_ ?_ ?_ ?_
              · omega
              · omega
              · rw [ex4_72]; exact w_up1 far (by omega)
              · have q9 : upU (fun q => fitU (σ.1 16 i) (σ.1 19 j) b q h) (far + 1) = upU (fun q => fitU (σ.1 16 i) (σ.1 19 j) b q h) far := upU_f (fun q => q.elim (fun q => by rw [e_25] at c_58; exact c_58 q) (fun q => Int32.not_lt.mpr c_45 q.2))
                rw [q9]
              · have q9 : upU (fun q => fitU (σ.1 16 i) (σ.1 19 j) b q h) (far + 1) = upU (fun q => fitU (σ.1 16 i) (σ.1 19 j) b q h) far := upU_f (fun q => q.elim (fun q => by rw [e_25] at c_58; exact c_58 q) (fun q => Int32.not_lt.mpr c_45 q.2))
                rw [q9]
          · refine G.iconst (v := 1) C dX1_bestShift_48 (by decide) ?_
            refine G.goto (tgt := 53) C dX1_bestShift_49 (by decide) ?_
            refine G.istore (L1 := [(6, .int 1), (5, .int r_25), (4, .int (nI (far + 1) - 20)), (3, .int ((fun q => fitU (σ.1 16 i) (σ.1 19 j) b q h) (upU (fun q => fitU (σ.1 16 i) (σ.1 19 j) b q h) far))), (2, .int (upU (fun q => fitU (σ.1 16 i) (σ.1 19 j) b q h) far)), (0, .ref (w.2.2.2.1 15 i)), (1, .ref (w.2.2.2.1 18 j))]) C dX1_bestShift_53 (by decide) rfl ?_
            refine G.iload C 1 dX1_bestShift_55 rfl ?_
            refine G.iload_n C 3 dX1_bestShift_57 rfl rfl ?_
            refine G.icmp_gt (tgt := 66) C dX1_bestShift_58 (by decide) (fun c_58 => ?_) (fun c_58 => ?_)
            · refine G.iload C 1 dX1_bestShift_66 rfl ?_
              refine G.istore_n (L1 := [(3, .int r_25), (6, .int 1), (5, .int r_25), (4, .int (nI (far + 1) - 20)), (2, .int (upU (fun q => fitU (σ.1 16 i) (σ.1 19 j) b q h) far)), (0, .ref (w.2.2.2.1 15 i)), (1, .ref (w.2.2.2.1 18 j))]) C dX1_bestShift_68 rfl (by decide) rfl ?_
              refine G.iload C 3 dX1_bestShift_69 rfl ?_
              refine G.topi (fun x2_71 ex2_71 => ?_)
              refine G.istore_n (L1 := [(2, .int x2_71), (3, .int r_25), (6, .int 1), (5, .int r_25), (4, .int (nI (far + 1) - 20)), (0, .ref (w.2.2.2.1 15 i)), (1, .ref (w.2.2.2.1 18 j))]) C dX1_bestShift_71 rfl (by decide) rfl ?_
              obtain ⟨x4_72, ex4_72⟩ : ∃ z : Int32, z = (nI (far + 1) - 20) + 1 := ⟨_, rfl⟩
              refine G.iinc (v := x4_72) (L1 := [(4, .int x4_72), (2, .int x2_71), (3, .int r_25), (6, .int 1), (5, .int r_25), (0, .ref (w.2.2.2.1 15 i)), (1, .ref (w.2.2.2.1 18 j))]) C 4 dX1_bestShift_72 rfl (by rw [ex4_72]; rfl) (by decide) rfl ?_
              refine G.goto (tgt := 14) C dX1_bestShift_75 (by decide) ?_
              refine G.sub (L1 := [(4, .int x4_72), (3, .int r_25), (2, .int x2_71), (0, .ref (w.2.2.2.1 15 i)), (1, .ref (w.2.2.2.1 18 j))]) [0, 2, 1, 5, 6] rfl ?_
              refine ih_14  (far + 1) _ _ _ ?_ ?_ ?_ ?_ ?_
              · omega
              · omega
              · rw [ex4_72]; exact w_up1 far (by omega)
              · have q9 : upU (fun q => fitU (σ.1 16 i) (σ.1 19 j) b q h) (far + 1) = nI (far + 1) - 20 := upU_t (Or.inl (by rw [e_25] at c_58; exact c_58))
                rw [q9]
                exact e_25
              · have q9 : upU (fun q => fitU (σ.1 16 i) (σ.1 19 j) b q h) (far + 1) = nI (far + 1) - 20 := upU_t (Or.inl (by rw [e_25] at c_58; exact c_58))
                rw [q9]
                exact ex2_71
            · refine G.iload C 0 dX1_bestShift_61 rfl ?_
              refine G.if_eq (tgt := 72) C dX1_bestShift_63 (by decide) (fun c_63 => absurd c_63 (by decide)) (fun c_63 => ?_)
              refine G.iload C 1 dX1_bestShift_66 rfl ?_
              refine G.istore_n (L1 := [(3, .int r_25), (6, .int 1), (5, .int r_25), (4, .int (nI (far + 1) - 20)), (2, .int (upU (fun q => fitU (σ.1 16 i) (σ.1 19 j) b q h) far)), (0, .ref (w.2.2.2.1 15 i)), (1, .ref (w.2.2.2.1 18 j))]) C dX1_bestShift_68 rfl (by decide) rfl ?_
              refine G.iload C 3 dX1_bestShift_69 rfl ?_
              refine G.topi (fun x2_71 ex2_71 => ?_)
              refine G.istore_n (L1 := [(2, .int x2_71), (3, .int r_25), (6, .int 1), (5, .int r_25), (4, .int (nI (far + 1) - 20)), (0, .ref (w.2.2.2.1 15 i)), (1, .ref (w.2.2.2.1 18 j))]) C dX1_bestShift_71 rfl (by decide) rfl ?_
              obtain ⟨x4_72, ex4_72⟩ : ∃ z : Int32, z = (nI (far + 1) - 20) + 1 := ⟨_, rfl⟩
              refine G.iinc (v := x4_72) (L1 := [(4, .int x4_72), (2, .int x2_71), (3, .int r_25), (6, .int 1), (5, .int r_25), (0, .ref (w.2.2.2.1 15 i)), (1, .ref (w.2.2.2.1 18 j))]) C 4 dX1_bestShift_72 rfl (by rw [ex4_72]; rfl) (by decide) rfl ?_
              refine G.goto (tgt := 14) C dX1_bestShift_75 (by decide) ?_
              refine G.sub (L1 := [(4, .int x4_72), (3, .int r_25), (2, .int x2_71), (0, .ref (w.2.2.2.1 15 i)), (1, .ref (w.2.2.2.1 18 j))]) [0, 2, 1, 5, 6] rfl ?_
              refine ih_14  (far + 1) _ _ _ ?_ ?_ ?_ ?_ ?_
              · omega
              · omega
              · rw [ex4_72]; exact w_up1 far (by omega)
              · have q9 : upU (fun q => fitU (σ.1 16 i) (σ.1 19 j) b q h) (far + 1) = nI (far + 1) - 20 := upU_t (Or.inr ⟨by rw [e_25] at c_33; exact c_33, Int32.not_le.mp c_45⟩)
                rw [q9]
                exact e_25
              · have q9 : upU (fun q => fitU (σ.1 16 i) (σ.1 19 j) b q h) (far + 1) = nI (far + 1) - 20 := upU_t (Or.inr ⟨by rw [e_25] at c_33; exact c_33, Int32.not_le.mp c_45⟩)
                rw [q9]
                exact ex2_71
  refine cut_14 41 0 _ _ _ ?_ ?_ ?_ ?_ ?_
  · omega
  · omega
  · exact w_up0
  · exact e_6
  · rfl
set_option maxHeartbeats 4000000 in
set_option maxRecDepth 100000 in
theorem ok_X1_mostFitting {w : wD} (hw : wOK w) (σ : wSt) (i j : Nat) (hi : i < wN 15) (hj9 : j < wN 18) {h b : Nat} (hh : σ.1 15 i 1 = nI h) (hh6 : h ≤ 6) (hb : σ.1 18 j 1 = nI b) (hb6 : b ≤ 6) : MI w yX1_mostFitting cX1_mostFitting 2 (some .int) 4 94 [.ref (w.2.2.2.1 15 i), .ref (w.2.2.2.1 18 j)] σ (fun r τ => σ = τ ∧ r = mostU (fun q => fitU (σ.1 16 i) (σ.1 19 j) b q h)) := by
  refine MI.of hw (by decide +kernel) (Nat.le_of_ble_eq_true rfl) (fun x C hr => ?_)
  suffices key : ∀ Q, Q = QI w x (fun r τ => σ = τ ∧ r = mostU (fun q => fitU (σ.1 16 i) (σ.1 19 j) b q h)) → G w x 2 Q 0 [(0, .ref (w.2.2.2.1 15 i)), (1, .ref (w.2.2.2.1 18 j))] [] σ from key _ rfl
  intro Q hQ
  refine G.aload_n C 0 dX1_mostFitting_0 rfl rfl ?_
  refine G.aload_n C 1 dX1_mostFitting_1 rfl rfl ?_
  refine G.aload_n C 0 dX1_mostFitting_2 rfl rfl ?_
  refine G.aload_n C 1 dX1_mostFitting_3 rfl rfl ?_
  have hM_0 := ok_X1_bestShift hw σ i j hi hj9 hh hh6 hb hb6
  refine G.callV C (g := 15) (i := i) none hM_0 dX1_mostFitting_4 hi rfl rfl rfl uv_X1_bestShift ul_RX1_29 rfl rfl (by decide) (Nat.le_of_ble_eq_true rfl) (fun r_4 τ_4 h_4 => ?_)
  obtain ⟨h_4, e_4⟩ := h_4; subst h_4
  have hM_1 := ok_X1_fitting hw σ i j r_4 hi hj9 hh hh6 hb hb6
  refine G.callV C (g := 15) (i := i) none hM_1 dX1_mostFitting_7 hi rfl rfl rfl uv_X1_fitting ul_RX1_33 rfl rfl (by decide) (Nat.le_of_ble_eq_true rfl) (fun r_7 τ_7 h_7 => ?_)
  obtain ⟨h_7, e_7⟩ := h_7; subst h_7
  subst hQ
  exact G.iret C hr dX1_mostFitting_10 (by
      subst e_4
      exact ⟨rfl, e_7⟩)
set_option maxHeartbeats 4000000 in
set_option maxRecDepth 100000 in
theorem ok_X0_hasItFrom {w : wD} (hw : wOK w) (σ : wSt) (a b d : Int32) {c : Nat} (hc : σ.1 2 0 4 = nI c) (hc8 : c ≤ 8) (hE : ∀ k, k < c → rng12 (σ.1 13 0 k)) : MI w yX0_hasItFrom cX0_hasItFrom 6 (some .boolean) 3 69 [.ref (w.2.2.2.1 2 0), .int a, .int b, .int d] σ (fun r τ => σ = τ ∧ r = wb (chU (σ.1 13 0) (fun q => fromU (σ.1 12 0) (costU (σ.1 13 0) (σ.1 2 0 0) (σ.1 2 0 1) (σ.1 2 0 4) q) q.toNatClampNeg c) (σ.1 2 0 4) b d 8 a = true)) := by
  refine MI.of hw (by decide +kernel) (Nat.le_of_ble_eq_true rfl) (fun x C hr => ?_)
  suffices key : ∀ Q, Q = QI w x (fun r τ => σ = τ ∧ r = wb (chU (σ.1 13 0) (fun q => fromU (σ.1 12 0) (costU (σ.1 13 0) (σ.1 2 0 0) (σ.1 2 0 1) (σ.1 2 0 4) q) q.toNatClampNeg c) (σ.1 2 0 4) b d 8 a = true)) → G w x 6 Q 0 [(0, .ref (w.2.2.2.1 2 0)), (1, .int a), (2, .int b), (3, .int d)] [] σ from key _ rfl
  intro Q hQ
  refine G.iload_n C 1 dX0_hasItFrom_0 rfl rfl ?_
  refine G.istore (L1 := [(4, .int a), (0, .ref (w.2.2.2.1 2 0)), (1, .int a), (2, .int b), (3, .int d)]) C dX0_hasItFrom_1 (by decide) rfl ?_
  refine G.iconst (v := 0) C dX0_hasItFrom_3 (by decide) ?_
  refine G.istore (L1 := [(5, .int 0), (4, .int a), (0, .ref (w.2.2.2.1 2 0)), (1, .int a), (2, .int b), (3, .int d)]) C dX0_hasItFrom_4 (by decide) rfl ?_
  have cut_6 : ∀ (m9 : Nat) (j : Nat) (on : Int32) (x5 : Int32), j ≤ 8 → 8 < j + m9 → chU (σ.1 13 0) (fun q => fromU (σ.1 12 0) (costU (σ.1 13 0) (σ.1 2 0 0) (σ.1 2 0 1) (σ.1 2 0 4) q) q.toNatClampNeg c) (σ.1 2 0 4) b d (8 - j) on = chU (σ.1 13 0) (fun q => fromU (σ.1 12 0) (costU (σ.1 13 0) (σ.1 2 0 0) (σ.1 2 0 1) (σ.1 2 0 4) q) q.toNatClampNeg c) (σ.1 2 0 4) b d 8 a → x5 = nI j → G w x 6 Q 6 [(5, .int x5), (4, .int on), (0, .ref (w.2.2.2.1 2 0)), (1, .int a), (2, .int b), (3, .int d)] [] σ := by
    intro m9
    induction m9 with
    | zero =>
      intro j on x5 hj hm hch hx5
      exfalso
      omega
    | succ m9 ih_6 =>
      intro j on x5 hj hm hch hx5
      subst hx5
      refine G.iload C 0 dX0_hasItFrom_6 rfl ?_
      refine G.bipush (v := 8) C dX0_hasItFrom_8 (by decide) ?_
      refine G.icmp_ge (tgt := 60) C dX0_hasItFrom_10 (by decide) (fun c_10 => ?_) (fun c_10 => ?_)
      · have hj8 : j = 8 := by
          rw [show (8 : Int32) = nI 8 from rfl, nI_leI (by decide) (by omega)] at c_10; omega
        refine G.iconst (v := 0) C dX0_hasItFrom_60 (by decide) ?_
        subst hQ
        exact G.zret C hr (by rfl) dX0_hasItFrom_61 (by
            refine ⟨rfl, (wb_f ?_).symm⟩
            rw [← hch, hj8]
            exact Bool.false_ne_true)
      · have hj8 : j < 8 := by
          rw [show (8 : Int32) = nI 8 from rfl, nI_leI (by decide) (by omega)] at c_10; omega
        obtain ⟨k9, hk9⟩ : ∃ k9, 8 - j = k9 + 1 := ⟨7 - j, by omega⟩
        rw [hk9] at hch
        refine G.aload_n C 2 dX0_hasItFrom_13 rfl rfl ?_
        refine G.iload C 1 dX0_hasItFrom_14 rfl ?_
        have hM_0 := ok_X0_hasMap hw σ on
        refine G.callV C (g := 2) (i := 0) none hM_0 dX0_hasItFrom_16 (by decide) rfl rfl rfl uv_X0_hasMap ul_RX0_28 rfl rfl (by decide) (Nat.le_of_ble_eq_true rfl) (fun r_16 τ_16 h_16 => ?_)
        obtain ⟨h_16, e_16⟩ := h_16; subst h_16
        refine G.if_eq (tgt := 36) C dX0_hasItFrom_19 (by decide) (fun c_19 => ?_) (fun c_19 => ?_)
        · have b_16 := wb_0 e_16 c_19
          refine G.iconst (v := 0) C dX0_hasItFrom_36 (by decide) ?_
          subst hQ
          exact G.zret C hr (by rfl) dX0_hasItFrom_37 (by
              refine ⟨rfl, (wb_f ?_).symm⟩
              rw [← hch]
              simp only [chU]
              rw [if_pos b_16]
              decide)
        · have b_16 := wb_1 e_16 c_19
          refine G.aload_n C 2 dX0_hasItFrom_22 rfl rfl ?_
          refine G.get (g := 2) (i := 0) C 3 none dX0_hasItFrom_23 (by decide) rfl rfl uX_X0 (by decide) uf_RX0_22 rfl rfl ?_
          refine G.iload C 1 dX0_hasItFrom_26 rfl ?_
          have hin_28 : vp_in on 8 := by
            exact vp_ofc b_16 hc hc8 (by decide)
          refine G.iald (g := 13) (i := 0) (n := 8) C dX0_hasItFrom_28 (by decide) rfl hin_28 ?_
          refine G.iload_n C 5 dX0_hasItFrom_29 rfl rfl ?_
          have hM_1 := ok_X5_has hw σ (σ.1 13 0 on.toNatClampNeg) d
          refine G.callS C (some "PlateRoom") hM_1 dX0_hasItFrom_30 us_X5_has unm_RX0_53 rfl rfl (by decide) (Nat.le_of_ble_eq_true rfl) (fun r_30 τ_30 h_30 => ?_)
          obtain ⟨h_30, e_30⟩ := h_30; subst h_30
          refine G.if_ne (tgt := 38) C dX0_hasItFrom_33 (by decide) (fun c_33 => ?_) (fun c_33 => ?_)
          · have b_30 := wb_1 e_30 c_33
            refine G.iload C 1 dX0_hasItFrom_38 rfl ?_
            refine G.iload_n C 4 dX0_hasItFrom_40 rfl rfl ?_
            refine G.icmp_ne (tgt := 46) C dX0_hasItFrom_41 (by decide) (fun c_41 => ?_) (fun c_41 => ?_)
            · refine G.aload_n C 2 dX0_hasItFrom_46 rfl rfl ?_
              refine G.iload C 1 dX0_hasItFrom_47 rfl ?_
              have hM_2 := ok_X0_cheapest hw σ on hc hc8 hE b_16
              refine G.callV C (g := 2) (i := 0) none hM_2 dX0_hasItFrom_49 (by decide) rfl rfl rfl uv_X0_cheapest ul_RX0_46 rfl rfl (by decide) (Nat.le_of_ble_eq_true rfl) (fun r_49 τ_49 h_49 => ?_)
              obtain ⟨h_49, e_49⟩ := h_49; subst h_49
              refine G.istore (L1 := [(4, .int r_49), (5, .int (nI j)), (0, .ref (w.2.2.2.1 2 0)), (1, .int a), (2, .int b), (3, .int d)]) C dX0_hasItFrom_52 (by decide) rfl ?_
              obtain ⟨x5_54, ex5_54⟩ : ∃ z : Int32, z = (nI j) + 1 := ⟨_, rfl⟩
              refine G.iinc (v := x5_54) (L1 := [(5, .int x5_54), (4, .int r_49), (0, .ref (w.2.2.2.1 2 0)), (1, .int a), (2, .int b), (3, .int d)]) C 1 dX0_hasItFrom_54 rfl (by rw [ex5_54]; rfl) (by decide) rfl ?_
              refine G.goto (tgt := 6) C dX0_hasItFrom_57 (by decide) ?_
              refine ih_6  (j + 1) _ _ ?_ ?_ ?_ ?_
              · omega
              · omega
              · rw [← hch, show 8 - (j + 1) = k9 by omega]
                simp only [chU]
                rw [if_neg (fun q => q b_16), if_neg (fun q => q b_30), if_neg c_41, e_49]
              · rw [ex5_54]; exact nI_1 j
            · refine G.iconst (v := 1) C dX0_hasItFrom_44 (by decide) ?_
              subst hQ
              exact G.zret C hr (by rfl) dX0_hasItFrom_45 (by
                  refine ⟨rfl, (wb_t ?_).symm⟩
                  rw [← hch]
                  simp only [chU]
                  rw [if_neg (fun q => q b_16), if_neg (fun q => q b_30), if_pos c_41])
          · have b_30 := wb_0 e_30 c_33
            refine G.iconst (v := 0) C dX0_hasItFrom_36 (by decide) ?_
            subst hQ
            exact G.zret C hr (by rfl) dX0_hasItFrom_37 (by
                refine ⟨rfl, (wb_f ?_).symm⟩
                rw [← hch]
                simp only [chU]
                rw [if_neg (fun q => q b_16), if_pos b_30]
                decide)
  refine cut_6 9 0 _ _ ?_ ?_ ?_ ?_
  · omega
  · omega
  · rfl
  · rfl
set_option maxHeartbeats 4000000 in
set_option maxRecDepth 100000 in
theorem ok_X0_lifeOf {w : wD} (hw : wOK w) (σ : wSt) (a b : Int32) {c : Nat} (hc : σ.1 2 0 4 = nI c) (hc8 : c ≤ 8) (hE : ∀ k, k < c → rng12 (σ.1 13 0 k)) : MI w yX0_lifeOf cX0_lifeOf 5 (some .int) 4 94 [.ref (w.2.2.2.1 2 0), .int a, .int b] σ (fun r τ => σ = τ ∧ r = lifeU (fun q => chU (σ.1 13 0) (fun q => fromU (σ.1 12 0) (costU (σ.1 13 0) (σ.1 2 0 0) (σ.1 2 0 1) (σ.1 2 0 4) q) q.toNatClampNeg c) (σ.1 2 0 4) a b 8 q) c) := by
  refine MI.of hw (by decide +kernel) (Nat.le_of_ble_eq_true rfl) (fun x C hr => ?_)
  suffices key : ∀ Q, Q = QI w x (fun r τ => σ = τ ∧ r = lifeU (fun q => chU (σ.1 13 0) (fun q => fromU (σ.1 12 0) (costU (σ.1 13 0) (σ.1 2 0 0) (σ.1 2 0 1) (σ.1 2 0 4) q) q.toNatClampNeg c) (σ.1 2 0 4) a b 8 q) c) → G w x 5 Q 0 [(0, .ref (w.2.2.2.1 2 0)), (1, .int a), (2, .int b)] [] σ from key _ rfl
  intro Q hQ
  refine G.iconst (v := 0) C dX0_lifeOf_0 (by decide) ?_
  refine G.istore_n (L1 := [(3, .int 0), (0, .ref (w.2.2.2.1 2 0)), (1, .int a), (2, .int b)]) C dX0_lifeOf_1 rfl (by decide) rfl ?_
  refine G.iconst (v := 0) C dX0_lifeOf_2 (by decide) ?_
  refine G.istore (L1 := [(4, .int 0), (3, .int 0), (0, .ref (w.2.2.2.1 2 0)), (1, .int a), (2, .int b)]) C dX0_lifeOf_3 (by decide) rfl ?_
  have cut_5 : ∀ (m9 : Nat) (j : Nat) (x4 x3 : Int32), j ≤ c → c < j + m9 → x4 = nI j → x3 = lifeU (fun q => chU (σ.1 13 0) (fun q => fromU (σ.1 12 0) (costU (σ.1 13 0) (σ.1 2 0 0) (σ.1 2 0 1) (σ.1 2 0 4) q) q.toNatClampNeg c) (σ.1 2 0 4) a b 8 q) j → G w x 5 Q 5 [(4, .int x4), (3, .int x3), (0, .ref (w.2.2.2.1 2 0)), (1, .int a), (2, .int b)] [] σ := by
    intro m9
    induction m9 with
    | zero =>
      intro j x4 x3 hj hm hx4 hx3
      exfalso
      omega
    | succ m9 ih_5 =>
      intro j x4 x3 hj hm hx4 hx3
      subst hx4
      subst hx3
      refine G.iload C 0 dX0_lifeOf_5 rfl ?_
      refine G.aload_n C 2 dX0_lifeOf_7 rfl rfl ?_
      refine G.get (g := 2) (i := 0) C 4 none dX0_lifeOf_8 (by decide) rfl rfl uX_X0 (by decide) uf_RX0_25 rfl rfl ?_
      refine G.icmp_ge (tgt := 34) C dX0_lifeOf_11 (by decide) (fun c_11 => ?_) (fun c_11 => ?_)
      · have hjn : j = c := by
          rw [hc, nI_leI (by omega) (by omega)] at c_11; omega
        refine G.iload_n C 1 dX0_lifeOf_34 rfl rfl ?_
        subst hQ
        exact G.iret C hr dX0_lifeOf_35 (by
            rw [hjn]
            exact ⟨rfl, rfl⟩)
      · have hjn : j < c := by
          rw [hc, nI_leI (by omega) (by omega)] at c_11; omega
        refine G.aload_n C 2 dX0_lifeOf_14 rfl rfl ?_
        refine G.iload C 0 dX0_lifeOf_15 rfl ?_
        refine G.iload_n C 3 dX0_lifeOf_17 rfl rfl ?_
        refine G.iload_n C 4 dX0_lifeOf_18 rfl rfl ?_
        have hM_0 := ok_X0_hasItFrom hw σ (nI j) a b hc hc8 hE
        refine G.callV C (g := 2) (i := 0) none hM_0 dX0_lifeOf_19 (by decide) rfl rfl rfl uv_X0_hasItFrom ul_RX0_49 rfl rfl (by decide) (Nat.le_of_ble_eq_true rfl) (fun r_19 τ_19 h_19 => ?_)
        obtain ⟨h_19, e_19⟩ := h_19; subst h_19
        refine G.if_eq (tgt := 28) C dX0_lifeOf_22 (by decide) (fun c_22 => ?_) (fun c_22 => ?_)
        · have b_19 := wb_0 e_19 c_22
          obtain ⟨x4_28, ex4_28⟩ : ∃ z : Int32, z = (nI j) + 1 := ⟨_, rfl⟩
          refine G.iinc (v := x4_28) (L1 := [(4, .int x4_28), (3, .int (lifeU (fun q => chU (σ.1 13 0) (fun q => fromU (σ.1 12 0) (costU (σ.1 13 0) (σ.1 2 0 0) (σ.1 2 0 1) (σ.1 2 0 4) q) q.toNatClampNeg c) (σ.1 2 0 4) a b 8 q) j)), (0, .ref (w.2.2.2.1 2 0)), (1, .int a), (2, .int b)]) C 0 dX0_lifeOf_28 rfl (by rw [ex4_28]; rfl) (by decide) rfl ?_
          refine G.goto (tgt := 5) C dX0_lifeOf_31 (by decide) ?_
          refine ih_5  (j + 1) _ _ ?_ ?_ ?_ ?_
          · omega
          · omega
          · rw [ex4_28]; exact nI_1 j
          · rw [lifeU_f b_19]
        · have b_19 := wb_1 e_19 c_22
          obtain ⟨x3_25, ex3_25⟩ : ∃ z : Int32, z = (lifeU (fun q => chU (σ.1 13 0) (fun q => fromU (σ.1 12 0) (costU (σ.1 13 0) (σ.1 2 0 0) (σ.1 2 0 1) (σ.1 2 0 4) q) q.toNatClampNeg c) (σ.1 2 0 4) a b 8 q) j) + 1 := ⟨_, rfl⟩
          refine G.iinc (v := x3_25) (L1 := [(3, .int x3_25), (4, .int (nI j)), (0, .ref (w.2.2.2.1 2 0)), (1, .int a), (2, .int b)]) C 1 dX0_lifeOf_25 rfl (by rw [ex3_25]; rfl) (by decide) rfl ?_
          obtain ⟨x4_28, ex4_28⟩ : ∃ z : Int32, z = (nI j) + 1 := ⟨_, rfl⟩
          refine G.iinc (v := x4_28) (L1 := [(4, .int x4_28), (3, .int x3_25), (0, .ref (w.2.2.2.1 2 0)), (1, .int a), (2, .int b)]) C 1 dX0_lifeOf_28 rfl (by rw [ex4_28]; rfl) (by decide) rfl ?_
          refine G.goto (tgt := 5) C dX0_lifeOf_31 (by decide) ?_
          refine ih_5  (j + 1) _ _ ?_ ?_ ?_ ?_
          · omega
          · omega
          · rw [ex4_28]; exact nI_1 j
          · rw [ex3_25, lifeU_t b_19]
  refine cut_5 (c + 1) 0 _ _ ?_ ?_ ?_ ?_
  · omega
  · omega
  · rfl
  · rfl
