set_option maxHeartbeats 4000000 in
set_option maxRecDepth 100000 in
theorem ok_X6_hole {w : wD} (hw : wOK w) (σ : wSt) (a b c : Int32) (hz : σ.1 20 0 0 = 0) {l : Nat} (hl : σ.1 20 0 7 = nI l) (hl20 : l ≤ 20) {nm : Nat → Nat} (hH : ∀ i, i < 24 → σ.1 35 0 i = nI (nm i) ∧ nm i ≤ 6) (hP : ∀ i k, i < 24 → k < nm i → rng99 (σ.1 36 0 (6 * i + k))) : MI w yX6_hole cX6_hole 6 (some .int) 2 43 [.ref (w.2.2.2.1 20 0), .int a, .int b, .int c] σ (fun r τ => (¬ (((0 ≤ c ∧ c < 100) ∧ a = 0 ∧ inN (σ.1 20 0 7) b) ∨ ((0 ≤ c ∧ c < 100) ∧ a = 1 ∧ 0 ≤ b ∧ b < 4)) ∧ σ = τ ∧ r = -1) ∨ (((0 ≤ c ∧ c < 100) ∧ a = 0 ∧ inN (σ.1 20 0 7) b) ∧ ((nearB (fun k => σ.1 36 0 (6 * b.toNatClampNeg + k)) c 0 (nm b.toNatClampNeg) = true ∧ σ = τ ∧ r = nI (nm b.toNatClampNeg)) ∨ (nearB (fun k => σ.1 36 0 (6 * b.toNatClampNeg + k)) c 0 (nm b.toNatClampNeg) = false ∧ 6 ≤ nm b.toNatClampNeg ∧ σ = τ ∧ r = -3) ∨ (nearB (fun k => σ.1 36 0 (6 * b.toNatClampNeg + k)) c 0 (nm b.toNatClampNeg) = false ∧ nm b.toNatClampNeg < 6 ∧ wUp (wUp σ 36 0 (6 * b.toNatClampNeg + nm b.toNatClampNeg) c) 35 0 b.toNatClampNeg (nI (nm b.toNatClampNeg + 1)) = τ ∧ r = nI (nm b.toNatClampNeg + 1)))) ∨ (((0 ≤ c ∧ c < 100) ∧ a = 1 ∧ 0 ≤ b ∧ b < 4) ∧ ((nearB (fun k => σ.1 36 0 (6 * (20 + b.toNatClampNeg) + k)) c 0 (nm (20 + b.toNatClampNeg)) = true ∧ σ = τ ∧ r = nI (nm (20 + b.toNatClampNeg))) ∨ (nearB (fun k => σ.1 36 0 (6 * (20 + b.toNatClampNeg) + k)) c 0 (nm (20 + b.toNatClampNeg)) = false ∧ 6 ≤ nm (20 + b.toNatClampNeg) ∧ σ = τ ∧ r = -3) ∨ (nearB (fun k => σ.1 36 0 (6 * (20 + b.toNatClampNeg) + k)) c 0 (nm (20 + b.toNatClampNeg)) = false ∧ nm (20 + b.toNatClampNeg) < 6 ∧ wUp (wUp σ 36 0 (6 * (20 + b.toNatClampNeg) + nm (20 + b.toNatClampNeg)) c) 35 0 (20 + b.toNatClampNeg) (nI (nm (20 + b.toNatClampNeg) + 1)) = τ ∧ r = nI (nm (20 + b.toNatClampNeg) + 1))))) := by
  refine MI.of hw (by decide +kernel) (Nat.le_of_ble_eq_true rfl) (fun x C hr => ?_)
  suffices key : ∀ PV : Int32 → wSt → Prop, PV = (fun r τ => (¬ (((0 ≤ c ∧ c < 100) ∧ a = 0 ∧ inN (σ.1 20 0 7) b) ∨ ((0 ≤ c ∧ c < 100) ∧ a = 1 ∧ 0 ≤ b ∧ b < 4)) ∧ σ = τ ∧ r = -1) ∨ (((0 ≤ c ∧ c < 100) ∧ a = 0 ∧ inN (σ.1 20 0 7) b) ∧ ((nearB (fun k => σ.1 36 0 (6 * b.toNatClampNeg + k)) c 0 (nm b.toNatClampNeg) = true ∧ σ = τ ∧ r = nI (nm b.toNatClampNeg)) ∨ (nearB (fun k => σ.1 36 0 (6 * b.toNatClampNeg + k)) c 0 (nm b.toNatClampNeg) = false ∧ 6 ≤ nm b.toNatClampNeg ∧ σ = τ ∧ r = -3) ∨ (nearB (fun k => σ.1 36 0 (6 * b.toNatClampNeg + k)) c 0 (nm b.toNatClampNeg) = false ∧ nm b.toNatClampNeg < 6 ∧ wUp (wUp σ 36 0 (6 * b.toNatClampNeg + nm b.toNatClampNeg) c) 35 0 b.toNatClampNeg (nI (nm b.toNatClampNeg + 1)) = τ ∧ r = nI (nm b.toNatClampNeg + 1)))) ∨ (((0 ≤ c ∧ c < 100) ∧ a = 1 ∧ 0 ≤ b ∧ b < 4) ∧ ((nearB (fun k => σ.1 36 0 (6 * (20 + b.toNatClampNeg) + k)) c 0 (nm (20 + b.toNatClampNeg)) = true ∧ σ = τ ∧ r = nI (nm (20 + b.toNatClampNeg))) ∨ (nearB (fun k => σ.1 36 0 (6 * (20 + b.toNatClampNeg) + k)) c 0 (nm (20 + b.toNatClampNeg)) = false ∧ 6 ≤ nm (20 + b.toNatClampNeg) ∧ σ = τ ∧ r = -3) ∨ (nearB (fun k => σ.1 36 0 (6 * (20 + b.toNatClampNeg) + k)) c 0 (nm (20 + b.toNatClampNeg)) = false ∧ nm (20 + b.toNatClampNeg) < 6 ∧ wUp (wUp σ 36 0 (6 * (20 + b.toNatClampNeg) + nm (20 + b.toNatClampNeg)) c) 35 0 (20 + b.toNatClampNeg) (nI (nm (20 + b.toNatClampNeg) + 1)) = τ ∧ r = nI (nm (20 + b.toNatClampNeg) + 1))))) → ∀ Q, Q = QI w x PV → G w x 6 Q 0 [(0, .ref (w.2.2.2.1 20 0)), (1, .int a), (2, .int b), (3, .int c)] [] σ from key _ rfl _ rfl
  intro PV hPV Q hQ
  refine G.aload_n C 0 dX6_hole_0 rfl rfl ?_
  refine G.iconst (v := 0) C dX6_hole_1 (by decide) ?_
  refine G.put (g := 20) (i := 0) C 0 none dX6_hole_2 (by decide) rfl rfl uX_X6 tyX6 tyX6_ok nmX6 (by decide) uf_RX6_61 rfl rfl (by decide +kernel) (Nat.le_of_ble_eq_true rfl) w_up_20_0 ?_
  rw [wUp_id hz]
  refine G.iload_n C 1 dX6_hole_5 rfl rfl ?_
  refine G.iconst (v := 0) C dX6_hole_6 (by decide) ?_
  refine G.iconst (v := 1) C dX6_hole_7 (by decide) ?_
  have hM_0 := ok_X6_in hw σ a 0 1
  refine G.callS C none hM_0 dX6_hole_8 us_X6_in ul_RX6_65 rfl rfl (by decide) (Nat.le_of_ble_eq_true rfl) (fun r_8 τ_8 h_8 => ?_)
  obtain ⟨h_8, e_8⟩ := h_8; subst h_8
  refine G.if_eq (tgt := 48) C dX6_hole_11 (by decide) (fun c_11 => ?_) (fun c_11 => ?_)
  · have b_8 := wb_0 e_8 c_11
    refine G.iconst (v := -1) C dX6_hole_48 (by decide) ?_
    subst hQ
    exact G.iret C hr dX6_hole_49 (by
        subst hPV
        refine Or.inl ⟨fun q => ?_, rfl, rfl⟩
        first | (exact q.elim (fun q => b_8 (by rw [q.2.1]; decide)) (fun q => b_8 (by rw [q.2.1]; decide))) | exact q.elim (fun q => b_20 q.2.2) (fun q => absurd q.2.1 (by decide)) | exact q.elim (fun q => absurd q.2.1 (by decide)) (fun q => b_32 (w_le3.mpr q.2.2)) | exact q.elim (fun q => b_42 (w_le99.mpr q.1)) (fun q => b_42 (w_le99.mpr q.1)))
  · have b_8 := wb_1 e_8 c_11
    refine G.iload_n C 1 dX6_hole_14 rfl rfl ?_
    refine G.if_ne (tgt := 29) C dX6_hole_15 (by decide) (fun c_15 => ?_) (fun c_15 => ?_)
    · have ha1 : a = 1 := (w_le1.mp b_8).resolve_left c_15
      subst ha1
      refine G.iload_n C 2 dX6_hole_29 rfl rfl ?_
      refine G.iconst (v := 0) C dX6_hole_30 (by decide) ?_
      refine G.iconst (v := 3) C dX6_hole_31 (by decide) ?_
      have hM_1 := ok_X6_in hw σ b 0 3
      refine G.callS C none hM_1 dX6_hole_32 us_X6_in ul_RX6_65 rfl rfl (by decide) (Nat.le_of_ble_eq_true rfl) (fun r_32 τ_32 h_32 => ?_)
      obtain ⟨h_32, e_32⟩ := h_32; subst h_32
      refine G.if_eq (tgt := 48) C dX6_hole_35 (by decide) (fun c_35 => ?_) (fun c_35 => ?_)
      · have b_32 := wb_0 e_32 c_35
        refine G.iconst (v := -1) C dX6_hole_48 (by decide) ?_
        subst hQ
        exact G.iret C hr dX6_hole_49 (by
            subst hPV
            refine Or.inl ⟨fun q => ?_, rfl, rfl⟩
            first | (exact q.elim (fun q => b_8 (by rw [q.2.1]; decide)) (fun q => b_8 (by rw [q.2.1]; decide))) | exact q.elim (fun q => b_20 q.2.2) (fun q => absurd q.2.1 (by decide)) | exact q.elim (fun q => absurd q.2.1 (by decide)) (fun q => b_32 (w_le3.mpr q.2.2)) | exact q.elim (fun q => b_42 (w_le99.mpr q.1)) (fun q => b_42 (w_le99.mpr q.1)))
      · have b_32 := wb_1 e_32 c_35
        refine G.iload_n C 3 dX6_hole_38 rfl rfl ?_
        refine G.iconst (v := 0) C dX6_hole_39 (by decide) ?_
        refine G.bipush (v := 99) C dX6_hole_40 (by decide) ?_
        have hM_2 := ok_X6_in hw σ c 0 99
        refine G.callS C none hM_2 dX6_hole_42 us_X6_in ul_RX6_65 rfl rfl (by decide) (Nat.le_of_ble_eq_true rfl) (fun r_42 τ_42 h_42 => ?_)
        obtain ⟨h_42, e_42⟩ := h_42; subst h_42
        refine G.if_ne (tgt := 50) C dX6_hole_45 (by decide) (fun c_45 => ?_) (fun c_45 => ?_)
        · have b_42 := wb_1 e_42 c_45
          refine G.iload_n C 1 dX6_hole_50 rfl rfl ?_
          refine G.if_ne (tgt := 58) C dX6_hole_51 (by decide) (fun c_51 => ?_) (fun c_51 => absurd c_51 (by decide))
          refine G.bipush (v := 20) C dX6_hole_58 (by decide) ?_
          refine G.iload_n C 2 dX6_hole_60 rfl rfl ?_
          refine G.iadd C dX6_hole_61 ?_
          refine G.topi (fun x4_62 ex4_62 => ?_)
          refine G.istore (L1 := [(4, .int x4_62), (0, .ref (w.2.2.2.1 20 0)), (1, .int 1), (2, .int b), (3, .int c)]) C dX6_hole_62 (by decide) rfl ?_
          refine G.iconst (v := 0) C dX6_hole_64 (by decide) ?_
          refine G.istore (L1 := [(5, .int 0), (4, .int x4_62), (0, .ref (w.2.2.2.1 20 0)), (1, .int 1), (2, .int b), (3, .int c)]) C dX6_hole_65 (by decide) rfl ?_
          have cut_67 : ∀ (m9 : Nat) (i j : Nat) (x5 x4 : Int32), i < 24 → j ≤ nm i → nm i < j + m9 → nearB (fun k => σ.1 36 0 (6 * i + k)) c 0 j = false → (∀ (r : Int32) (τ : wSt), ((nearB (fun k => σ.1 36 0 (6 * i + k)) c 0 (nm i) = true ∧ σ = τ ∧ r = nI (nm i)) ∨ (nearB (fun k => σ.1 36 0 (6 * i + k)) c 0 (nm i) = false ∧ 6 ≤ nm i ∧ σ = τ ∧ r = -3) ∨ (nearB (fun k => σ.1 36 0 (6 * i + k)) c 0 (nm i) = false ∧ nm i < 6 ∧ wUp (wUp σ 36 0 (6 * i + nm i) c) 35 0 i (nI (nm i + 1)) = τ ∧ r = nI (nm i + 1))) → PV r τ) → x5 = nI j → x4 = nI i → G w x 6 Q 67 [(5, .int x5), (4, .int x4), (0, .ref (w.2.2.2.1 20 0)), (3, .int c)] [] σ := by
            intro m9
            induction m9 with
            | zero =>
              intro i j x5 x4 hi hj hm hf hpost hx5 hx4
              exfalso
              omega
            | succ m9 ih_67 =>
              intro i j x5 x4 hi hj hm hf hpost hx5 hx4
              subst hx5
              subst hx4
              refine G.iload C 0 dX6_hole_67 rfl ?_
              refine G.aload_n C 2 dX6_hole_69 rfl rfl ?_
              refine G.get (g := 20) (i := 0) C 20 none dX6_hole_70 (by decide) rfl rfl uX_X6 (by decide) uf_RX6_52 rfl rfl ?_
              refine G.iload C 1 dX6_hole_73 rfl ?_
              have hin_75 : vp_in (nI i) 24 := by
                exact vp_in_nI (by omega) (by decide)
              refine G.iald (g := 35) (i := 0) (n := 24) C dX6_hole_75 (by decide) rfl hin_75 ?_
              refine G.icmp_ge (tgt := 110) C dX6_hole_76 (by decide) (fun c_76 => ?_) (fun c_76 => ?_)
              · have h6 := (hH i hi).2
                rw [nI_clamp (by omega), (hH i hi).1, nI_leI (by have := (hH i hi).2; omega) (by omega)] at c_76
                have hjn : j = nm i := by omega
                have hfn : nearB (fun k => σ.1 36 0 (6 * i + k)) c 0 (nm i) = false := hjn ▸ hf
                refine G.aload_n C 2 dX6_hole_110 rfl rfl ?_
                refine G.get (g := 20) (i := 0) C 20 none dX6_hole_111 (by decide) rfl rfl uX_X6 (by decide) uf_RX6_52 rfl rfl ?_
                refine G.iload C 1 dX6_hole_114 rfl ?_
                have hin_116 : vp_in (nI i) 24 := by
                  exact vp_in_nI (by omega) (by decide)
                refine G.iald (g := 35) (i := 0) (n := 24) C dX6_hole_116 (by decide) rfl hin_116 ?_
                refine G.bipush (v := 6) C dX6_hole_117 (by decide) ?_
                refine G.icmp_ne (tgt := 125) C dX6_hole_119 (by decide) (fun c_119 => ?_) (fun c_119 => ?_)
                · rw [nI_clamp (by omega), (hH i hi).1] at c_119
                  have h119 : nm i < 6 := seven h6 (fun q => c_119 (by rw [q]; rfl))
                  refine G.aload_n C 2 dX6_hole_125 rfl rfl ?_
                  refine G.get (g := 20) (i := 0) C 21 none dX6_hole_126 (by decide) rfl rfl uX_X6 (by decide) uf_RX6_55 rfl rfl ?_
                  refine G.bipush (v := 6) C dX6_hole_129 (by decide) ?_
                  refine G.iload C 1 dX6_hole_131 rfl ?_
                  refine G.imul C dX6_hole_133 ?_
                  refine G.aload_n C 2 dX6_hole_134 rfl rfl ?_
                  refine G.get (g := 20) (i := 0) C 20 none dX6_hole_135 (by decide) rfl rfl uX_X6 (by decide) uf_RX6_52 rfl rfl ?_
                  refine G.iload C 1 dX6_hole_138 rfl ?_
                  have hin_140 : vp_in (nI i) 24 := by
                    exact vp_in_nI (by omega) (by decide)
                  refine G.iald (g := 35) (i := 0) (n := 24) C dX6_hole_140 (by decide) rfl hin_140 ?_
                  refine G.iadd C dX6_hole_141 ?_
                  refine G.iload_n C 3 dX6_hole_142 rfl rfl ?_
                  have hin_143 : vp_in ((6 * (nI i)) + (σ.1 35 0 (nI i).toNatClampNeg)) 144 := by
                    rw [nI_clamp (by omega), (hH i hi).1, idx6]
                    exact vp_in_nI (by omega) (by decide)
                  refine G.iast (g := 36) (i := 0) (n := 144) C dX6_hole_143 (by decide) rfl hin_143 w_ast_36 ?_
                  refine G.aload_n C 2 dX6_hole_144 rfl rfl ?_
                  refine G.get (g := 20) (i := 0) C 20 none dX6_hole_145 (by decide) rfl rfl uX_X6 (by decide) uf_RX6_52 rfl rfl ?_
                  refine G.iload C 1 dX6_hole_148 rfl ?_
                  refine G.dup2 C dX6_hole_150 rfl rfl ?_
                  have hin_151 : vp_in (nI i) 24 := by
                    exact vp_in_nI (by omega) (by decide)
                  refine G.iald (g := 35) (i := 0) (n := 24) C dX6_hole_151 (by decide) rfl hin_151 ?_
                  refine G.iconst (v := 1) C dX6_hole_152 (by decide) ?_
                  refine G.iadd C dX6_hole_153 ?_
                  have hin_154 : vp_in (nI i) 24 := by
                    exact vp_in_nI (by omega) (by decide)
                  refine G.iast (g := 35) (i := 0) (n := 24) C dX6_hole_154 (by decide) rfl hin_154 w_ast_35 ?_
                  refine G.aload_n C 2 dX6_hole_155 rfl rfl ?_
                  refine G.get (g := 20) (i := 0) C 20 none dX6_hole_156 (by decide) rfl rfl uX_X6 (by decide) uf_RX6_52 rfl rfl ?_
                  refine G.iload C 1 dX6_hole_159 rfl ?_
                  have hin_161 : vp_in (nI i) 24 := by
                    exact vp_in_nI (by omega) (by decide)
                  refine G.iald (g := 35) (i := 0) (n := 24) C dX6_hole_161 (by decide) rfl hin_161 ?_
                  subst hQ
                  exact G.iret C hr dX6_hole_162 (by
                      refine hpost _ _ (Or.inr (Or.inr ⟨hfn, h119, ?_, ?_⟩))
                      · simp only [wUp_ng (show 35 ≠ 36 by decide), nI_clamp (show i < 2 ^ 31 by omega), (hH i hi).1, idx6, nI_1, nI_clamp (show 6 * i + nm i < 2 ^ 31 by omega)]
                      · simp only [wUp_eq, wUp_ng (show 35 ≠ 36 by decide), nI_clamp (show i < 2 ^ 31 by omega), (hH i hi).1, nI_1])
                · rw [nI_clamp (by omega), (hH i hi).1, show (6 : Int32) = nI 6 from rfl, nI_eq (by omega) (by decide)] at c_119
                  have h119 : 6 ≤ nm i := by omega
                  refine G.bipush (v := -3) C dX6_hole_122 (by decide) ?_
                  subst hQ
                  exact G.iret C hr dX6_hole_124 (by
                      exact hpost _ _ (Or.inr (Or.inl ⟨hfn, h119, rfl, rfl⟩)))
              · have h6 := (hH i hi).2
                rw [nI_clamp (by omega), (hH i hi).1, nI_leI (by have := (hH i hi).2; omega) (by omega)] at c_76
                have c_76b : j < nm i := by omega
                refine G.aload_n C 2 dX6_hole_79 rfl rfl ?_
                refine G.get (g := 20) (i := 0) C 21 none dX6_hole_80 (by decide) rfl rfl uX_X6 (by decide) uf_RX6_55 rfl rfl ?_
                refine G.bipush (v := 6) C dX6_hole_83 (by decide) ?_
                refine G.iload C 1 dX6_hole_85 rfl ?_
                refine G.imul C dX6_hole_87 ?_
                refine G.iload C 0 dX6_hole_88 rfl ?_
                refine G.iadd C dX6_hole_90 ?_
                have hin_91 : vp_in ((6 * (nI i)) + (nI j)) 144 := by
                  rw [idx6]
                  exact vp_in_nI (by omega) (by decide)
                refine G.iald (g := 36) (i := 0) (n := 144) C dX6_hole_91 (by decide) rfl hin_91 ?_
                refine G.iload_n C 3 dX6_hole_92 rfl rfl ?_
                refine G.icmp_ne (tgt := 104) C dX6_hole_93 (by decide) (fun c_93 => ?_) (fun c_93 => ?_)
                · obtain ⟨x5_104, ex5_104⟩ : ∃ z : Int32, z = (nI j) + 1 := ⟨_, rfl⟩
                  refine G.iinc (v := x5_104) (L1 := [(5, .int x5_104), (4, .int (nI i)), (0, .ref (w.2.2.2.1 20 0)), (3, .int c)]) C 0 dX6_hole_104 rfl (by rw [ex5_104]; rfl) (by decide) rfl ?_
                  refine G.goto (tgt := 67) C dX6_hole_107 (by decide) ?_
                  refine ih_67  i (j + 1) _ _ ?_ ?_ ?_ ?_ ?_ ?_ ?_
                  · omega
                  · omega
                  · omega
                  · rw [idx6, nI_clamp (by omega)] at c_93
                    exact near_f0 hf (hP i j hi c_76b) b_42 c_93
                  · exact hpost
                  · rw [ex5_104]; exact nI_1 j
                  · rfl
                · refine G.aload_n C 2 dX6_hole_96 rfl rfl ?_
                  refine G.get (g := 20) (i := 0) C 20 none dX6_hole_97 (by decide) rfl rfl uX_X6 (by decide) uf_RX6_52 rfl rfl ?_
                  refine G.iload C 1 dX6_hole_100 rfl ?_
                  have hin_102 : vp_in (nI i) 24 := by
                    exact vp_in_nI (by omega) (by decide)
                  refine G.iald (g := 35) (i := 0) (n := 24) C dX6_hole_102 (by decide) rfl hin_102 ?_
                  subst hQ
                  exact G.iret C hr dX6_hole_103 (by
                      rw [idx6, nI_clamp (by omega)] at c_93
                      rw [nI_clamp (by omega), (hH i hi).1]
                      exact hpost _ _ (Or.inl ⟨near_t0 (p := (fun k => σ.1 36 0 (6 * i + k))) (by omega) (hP i j hi (by omega)) b_42 c_93, rfl, rfl⟩))
          refine G.sub (L1 := [(5, .int 0), (4, .int x4_62), (0, .ref (w.2.2.2.1 20 0)), (3, .int c)]) [0, 1, 2, 5] rfl ?_
          refine cut_67 8 (20 + b.toNatClampNeg) 0 _ _ ?_ ?_ ?_ ?_ ?_ ?_ ?_
          · exact (show 20 + b.toNatClampNeg < 24 by have := vp_ofl (l := 4) (w_le3.mp b_32) (by decide); omega)
          · omega
          · have := (hH (20 + b.toNatClampNeg) (by have := vp_ofl (l := 4) (w_le3.mp b_32) (by decide); omega)).2
            omega
          · rfl
          · intro r τ q
            subst hPV
            exact Or.inr (Or.inr ⟨⟨w_le99.mp b_42, rfl, w_le3.mp b_32⟩, q⟩)
          · rfl
          · rw [ex4_62, w_nat (l := 4) (w_le3.mp b_32) (by decide), idx20, ← w_nat (l := 4) (w_le3.mp b_32) (by decide)]
        · have b_42 := wb_0 e_42 c_45
          refine G.iconst (v := -1) C dX6_hole_48 (by decide) ?_
          subst hQ
          exact G.iret C hr dX6_hole_49 (by
              subst hPV
              refine Or.inl ⟨fun q => ?_, rfl, rfl⟩
              first | (exact q.elim (fun q => b_8 (by rw [q.2.1]; decide)) (fun q => b_8 (by rw [q.2.1]; decide))) | exact q.elim (fun q => b_20 q.2.2) (fun q => absurd q.2.1 (by decide)) | exact q.elim (fun q => absurd q.2.1 (by decide)) (fun q => b_32 (w_le3.mpr q.2.2)) | exact q.elim (fun q => b_42 (w_le99.mpr q.1)) (fun q => b_42 (w_le99.mpr q.1)))
    · subst c_15
      refine G.aload_n C 0 dX6_hole_18 rfl rfl ?_
      refine G.iload_n C 2 dX6_hole_19 rfl rfl ?_
      have hM_3 := ok_X6_isLeaf hw σ b hl hl20
      refine G.callV C (g := 20) (i := 0) none hM_3 dX6_hole_20 (by decide) rfl rfl rfl uv_X6_isLeaf ul_RX6_91 rfl rfl (by decide) (Nat.le_of_ble_eq_true rfl) (fun r_20 τ_20 h_20 => ?_)
      obtain ⟨h_20, e_20⟩ := h_20; subst h_20
      refine G.if_eq (tgt := 48) C dX6_hole_23 (by decide) (fun c_23 => ?_) (fun c_23 => ?_)
      · have b_20 := wb_0 e_20 c_23
        refine G.iconst (v := -1) C dX6_hole_48 (by decide) ?_
        subst hQ
        exact G.iret C hr dX6_hole_49 (by
            subst hPV
            refine Or.inl ⟨fun q => ?_, rfl, rfl⟩
            first | (exact q.elim (fun q => b_8 (by rw [q.2.1]; decide)) (fun q => b_8 (by rw [q.2.1]; decide))) | exact q.elim (fun q => b_20 q.2.2) (fun q => absurd q.2.1 (by decide)) | exact q.elim (fun q => absurd q.2.1 (by decide)) (fun q => b_32 (w_le3.mpr q.2.2)) | exact q.elim (fun q => b_42 (w_le99.mpr q.1)) (fun q => b_42 (w_le99.mpr q.1)))
      · have b_20 := wb_1 e_20 c_23
        refine G.goto (tgt := 38) C dX6_hole_26 (by decide) ?_
        refine G.iload_n C 3 dX6_hole_38 rfl rfl ?_
        refine G.iconst (v := 0) C dX6_hole_39 (by decide) ?_
        refine G.bipush (v := 99) C dX6_hole_40 (by decide) ?_
        have hM_4 := ok_X6_in hw σ c 0 99
        refine G.callS C none hM_4 dX6_hole_42 us_X6_in ul_RX6_65 rfl rfl (by decide) (Nat.le_of_ble_eq_true rfl) (fun r_42 τ_42 h_42 => ?_)
        obtain ⟨h_42, e_42⟩ := h_42; subst h_42
        refine G.if_ne (tgt := 50) C dX6_hole_45 (by decide) (fun c_45 => ?_) (fun c_45 => ?_)
        · have b_42 := wb_1 e_42 c_45
          refine G.iload_n C 1 dX6_hole_50 rfl rfl ?_
          refine G.if_ne (tgt := 58) C dX6_hole_51 (by decide) (fun c_51 => absurd (by decide) c_51) (fun c_51 => ?_)
          refine G.iload_n C 2 dX6_hole_54 rfl rfl ?_
          refine G.goto (tgt := 62) C dX6_hole_55 (by decide) ?_
          refine G.istore (L1 := [(4, .int b), (0, .ref (w.2.2.2.1 20 0)), (1, .int 0), (2, .int b), (3, .int c)]) C dX6_hole_62 (by decide) rfl ?_
          refine G.iconst (v := 0) C dX6_hole_64 (by decide) ?_
          refine G.istore (L1 := [(5, .int 0), (4, .int b), (0, .ref (w.2.2.2.1 20 0)), (1, .int 0), (2, .int b), (3, .int c)]) C dX6_hole_65 (by decide) rfl ?_
          have cut_67 : ∀ (m9 : Nat) (i j : Nat) (x5 x4 : Int32), i < 24 → j ≤ nm i → nm i < j + m9 → nearB (fun k => σ.1 36 0 (6 * i + k)) c 0 j = false → (∀ (r : Int32) (τ : wSt), ((nearB (fun k => σ.1 36 0 (6 * i + k)) c 0 (nm i) = true ∧ σ = τ ∧ r = nI (nm i)) ∨ (nearB (fun k => σ.1 36 0 (6 * i + k)) c 0 (nm i) = false ∧ 6 ≤ nm i ∧ σ = τ ∧ r = -3) ∨ (nearB (fun k => σ.1 36 0 (6 * i + k)) c 0 (nm i) = false ∧ nm i < 6 ∧ wUp (wUp σ 36 0 (6 * i + nm i) c) 35 0 i (nI (nm i + 1)) = τ ∧ r = nI (nm i + 1))) → PV r τ) → x5 = nI j → x4 = nI i → G w x 6 Q 67 [(5, .int x5), (4, .int x4), (0, .ref (w.2.2.2.1 20 0)), (3, .int c)] [] σ := by
            intro m9
            induction m9 with
            | zero =>
              intro i j x5 x4 hi hj hm hf hpost hx5 hx4
              exfalso
              omega
            | succ m9 ih_67 =>
              intro i j x5 x4 hi hj hm hf hpost hx5 hx4
              subst hx5
              subst hx4
              refine G.iload C 0 dX6_hole_67 rfl ?_
              refine G.aload_n C 2 dX6_hole_69 rfl rfl ?_
              refine G.get (g := 20) (i := 0) C 20 none dX6_hole_70 (by decide) rfl rfl uX_X6 (by decide) uf_RX6_52 rfl rfl ?_
              refine G.iload C 1 dX6_hole_73 rfl ?_
              have hin_75 : vp_in (nI i) 24 := by
                exact vp_in_nI (by omega) (by decide)
              refine G.iald (g := 35) (i := 0) (n := 24) C dX6_hole_75 (by decide) rfl hin_75 ?_
              refine G.icmp_ge (tgt := 110) C dX6_hole_76 (by decide) (fun c_76 => ?_) (fun c_76 => ?_)
              · have h6 := (hH i hi).2
                rw [nI_clamp (by omega), (hH i hi).1, nI_leI (by have := (hH i hi).2; omega) (by omega)] at c_76
                have hjn : j = nm i := by omega
                have hfn : nearB (fun k => σ.1 36 0 (6 * i + k)) c 0 (nm i) = false := hjn ▸ hf
                refine G.aload_n C 2 dX6_hole_110 rfl rfl ?_
                refine G.get (g := 20) (i := 0) C 20 none dX6_hole_111 (by decide) rfl rfl uX_X6 (by decide) uf_RX6_52 rfl rfl ?_
                refine G.iload C 1 dX6_hole_114 rfl ?_
                have hin_116 : vp_in (nI i) 24 := by
                  exact vp_in_nI (by omega) (by decide)
                refine G.iald (g := 35) (i := 0) (n := 24) C dX6_hole_116 (by decide) rfl hin_116 ?_
                refine G.bipush (v := 6) C dX6_hole_117 (by decide) ?_
                refine G.icmp_ne (tgt := 125) C dX6_hole_119 (by decide) (fun c_119 => ?_) (fun c_119 => ?_)
                · rw [nI_clamp (by omega), (hH i hi).1] at c_119
                  have h119 : nm i < 6 := seven h6 (fun q => c_119 (by rw [q]; rfl))
                  refine G.aload_n C 2 dX6_hole_125 rfl rfl ?_
                  refine G.get (g := 20) (i := 0) C 21 none dX6_hole_126 (by decide) rfl rfl uX_X6 (by decide) uf_RX6_55 rfl rfl ?_
                  refine G.bipush (v := 6) C dX6_hole_129 (by decide) ?_
                  refine G.iload C 1 dX6_hole_131 rfl ?_
                  refine G.imul C dX6_hole_133 ?_
                  refine G.aload_n C 2 dX6_hole_134 rfl rfl ?_
                  refine G.get (g := 20) (i := 0) C 20 none dX6_hole_135 (by decide) rfl rfl uX_X6 (by decide) uf_RX6_52 rfl rfl ?_
                  refine G.iload C 1 dX6_hole_138 rfl ?_
                  have hin_140 : vp_in (nI i) 24 := by
                    exact vp_in_nI (by omega) (by decide)
                  refine G.iald (g := 35) (i := 0) (n := 24) C dX6_hole_140 (by decide) rfl hin_140 ?_
                  refine G.iadd C dX6_hole_141 ?_
                  refine G.iload_n C 3 dX6_hole_142 rfl rfl ?_
                  have hin_143 : vp_in ((6 * (nI i)) + (σ.1 35 0 (nI i).toNatClampNeg)) 144 := by
                    rw [nI_clamp (by omega), (hH i hi).1, idx6]
                    exact vp_in_nI (by omega) (by decide)
                  refine G.iast (g := 36) (i := 0) (n := 144) C dX6_hole_143 (by decide) rfl hin_143 w_ast_36 ?_
                  refine G.aload_n C 2 dX6_hole_144 rfl rfl ?_
                  refine G.get (g := 20) (i := 0) C 20 none dX6_hole_145 (by decide) rfl rfl uX_X6 (by decide) uf_RX6_52 rfl rfl ?_
                  refine G.iload C 1 dX6_hole_148 rfl ?_
                  refine G.dup2 C dX6_hole_150 rfl rfl ?_
                  have hin_151 : vp_in (nI i) 24 := by
                    exact vp_in_nI (by omega) (by decide)
                  refine G.iald (g := 35) (i := 0) (n := 24) C dX6_hole_151 (by decide) rfl hin_151 ?_
                  refine G.iconst (v := 1) C dX6_hole_152 (by decide) ?_
                  refine G.iadd C dX6_hole_153 ?_
                  have hin_154 : vp_in (nI i) 24 := by
                    exact vp_in_nI (by omega) (by decide)
                  refine G.iast (g := 35) (i := 0) (n := 24) C dX6_hole_154 (by decide) rfl hin_154 w_ast_35 ?_
                  refine G.aload_n C 2 dX6_hole_155 rfl rfl ?_
                  refine G.get (g := 20) (i := 0) C 20 none dX6_hole_156 (by decide) rfl rfl uX_X6 (by decide) uf_RX6_52 rfl rfl ?_
                  refine G.iload C 1 dX6_hole_159 rfl ?_
                  have hin_161 : vp_in (nI i) 24 := by
                    exact vp_in_nI (by omega) (by decide)
                  refine G.iald (g := 35) (i := 0) (n := 24) C dX6_hole_161 (by decide) rfl hin_161 ?_
                  subst hQ
                  exact G.iret C hr dX6_hole_162 (by
                      refine hpost _ _ (Or.inr (Or.inr ⟨hfn, h119, ?_, ?_⟩))
                      · simp only [wUp_ng (show 35 ≠ 36 by decide), nI_clamp (show i < 2 ^ 31 by omega), (hH i hi).1, idx6, nI_1, nI_clamp (show 6 * i + nm i < 2 ^ 31 by omega)]
                      · simp only [wUp_eq, wUp_ng (show 35 ≠ 36 by decide), nI_clamp (show i < 2 ^ 31 by omega), (hH i hi).1, nI_1])
                · rw [nI_clamp (by omega), (hH i hi).1, show (6 : Int32) = nI 6 from rfl, nI_eq (by omega) (by decide)] at c_119
                  have h119 : 6 ≤ nm i := by omega
                  refine G.bipush (v := -3) C dX6_hole_122 (by decide) ?_
                  subst hQ
                  exact G.iret C hr dX6_hole_124 (by
                      exact hpost _ _ (Or.inr (Or.inl ⟨hfn, h119, rfl, rfl⟩)))
              · have h6 := (hH i hi).2
                rw [nI_clamp (by omega), (hH i hi).1, nI_leI (by have := (hH i hi).2; omega) (by omega)] at c_76
                have c_76b : j < nm i := by omega
                refine G.aload_n C 2 dX6_hole_79 rfl rfl ?_
                refine G.get (g := 20) (i := 0) C 21 none dX6_hole_80 (by decide) rfl rfl uX_X6 (by decide) uf_RX6_55 rfl rfl ?_
                refine G.bipush (v := 6) C dX6_hole_83 (by decide) ?_
                refine G.iload C 1 dX6_hole_85 rfl ?_
                refine G.imul C dX6_hole_87 ?_
                refine G.iload C 0 dX6_hole_88 rfl ?_
                refine G.iadd C dX6_hole_90 ?_
                have hin_91 : vp_in ((6 * (nI i)) + (nI j)) 144 := by
                  rw [idx6]
                  exact vp_in_nI (by omega) (by decide)
                refine G.iald (g := 36) (i := 0) (n := 144) C dX6_hole_91 (by decide) rfl hin_91 ?_
                refine G.iload_n C 3 dX6_hole_92 rfl rfl ?_
                refine G.icmp_ne (tgt := 104) C dX6_hole_93 (by decide) (fun c_93 => ?_) (fun c_93 => ?_)
                · obtain ⟨x5_104, ex5_104⟩ : ∃ z : Int32, z = (nI j) + 1 := ⟨_, rfl⟩
                  refine G.iinc (v := x5_104) (L1 := [(5, .int x5_104), (4, .int (nI i)), (0, .ref (w.2.2.2.1 20 0)), (3, .int c)]) C 0 dX6_hole_104 rfl (by rw [ex5_104]; rfl) (by decide) rfl ?_
                  refine G.goto (tgt := 67) C dX6_hole_107 (by decide) ?_
                  refine ih_67  i (j + 1) _ _ ?_ ?_ ?_ ?_ ?_ ?_ ?_
                  · omega
                  · omega
                  · omega
                  · rw [idx6, nI_clamp (by omega)] at c_93
                    exact near_f0 hf (hP i j hi c_76b) b_42 c_93
                  · exact hpost
                  · rw [ex5_104]; exact nI_1 j
                  · rfl
                · refine G.aload_n C 2 dX6_hole_96 rfl rfl ?_
                  refine G.get (g := 20) (i := 0) C 20 none dX6_hole_97 (by decide) rfl rfl uX_X6 (by decide) uf_RX6_52 rfl rfl ?_
                  refine G.iload C 1 dX6_hole_100 rfl ?_
                  have hin_102 : vp_in (nI i) 24 := by
                    exact vp_in_nI (by omega) (by decide)
                  refine G.iald (g := 35) (i := 0) (n := 24) C dX6_hole_102 (by decide) rfl hin_102 ?_
                  subst hQ
                  exact G.iret C hr dX6_hole_103 (by
                      rw [idx6, nI_clamp (by omega)] at c_93
                      rw [nI_clamp (by omega), (hH i hi).1]
                      exact hpost _ _ (Or.inl ⟨near_t0 (p := (fun k => σ.1 36 0 (6 * i + k))) (by omega) (hP i j hi (by omega)) b_42 c_93, rfl, rfl⟩))
          refine G.sub (L1 := [(5, .int 0), (4, .int b), (0, .ref (w.2.2.2.1 20 0)), (3, .int c)]) [0, 1, 2, 5] rfl ?_
          refine cut_67 8 b.toNatClampNeg 0 _ _ ?_ ?_ ?_ ?_ ?_ ?_ ?_
          · exact (show b.toNatClampNeg < 24 by have := vp_ofl (hl ▸ b_20) (by omega); omega)
          · omega
          · have := (hH b.toNatClampNeg (by have := vp_ofl (hl ▸ b_20) (by omega); omega)).2
            omega
          · rfl
          · intro r τ q
            subst hPV
            exact Or.inr (Or.inl ⟨⟨w_le99.mp b_42, rfl, b_20⟩, q⟩)
          · rfl
          · exact w_nat (hl ▸ b_20) (by omega)
        · have b_42 := wb_0 e_42 c_45
          refine G.iconst (v := -1) C dX6_hole_48 (by decide) ?_
          subst hQ
          exact G.iret C hr dX6_hole_49 (by
              subst hPV
              refine Or.inl ⟨fun q => ?_, rfl, rfl⟩
              first | (exact q.elim (fun q => b_8 (by rw [q.2.1]; decide)) (fun q => b_8 (by rw [q.2.1]; decide))) | exact q.elim (fun q => b_20 q.2.2) (fun q => absurd q.2.1 (by decide)) | exact q.elim (fun q => absurd q.2.1 (by decide)) (fun q => b_32 (w_le3.mpr q.2.2)) | exact q.elim (fun q => b_42 (w_le99.mpr q.1)) (fun q => b_42 (w_le99.mpr q.1)))
set_option maxHeartbeats 4000000 in
set_option maxRecDepth 100000 in
theorem ok_X6_fitsOf {w : wD} (hw : wOK w) (σ : wSt) (a b s : Int32) {nm : Nat → Nat} (hH : ∀ i, i < 24 → σ.1 35 0 i = nI (nm i) ∧ nm i ≤ 6) (hP : ∀ i k, i < 24 → k < nm i → rng99 (σ.1 36 0 (6 * i + k))) (hva : vp_in a 20) (hvb : vp_in b 4) (hs : -20 ≤ s ∧ s ≤ 20) : MI w yX6_fitsOf cX6_fitsOf 8 (some .int) 1 22 [.ref (w.2.2.2.1 20 0), .int a, .int b, .int s] σ (fun r τ => σ = τ ∧ r = fitU (fun k => σ.1 36 0 (6 * a.toNatClampNeg + k)) (fun k => σ.1 36 0 (120 + 6 * b.toNatClampNeg + k)) (nm (20 + b.toNatClampNeg)) s (nm a.toNatClampNeg)) := by
  obtain ⟨i, hi, rfl⟩ := vp_in_of hva (by decide)
  obtain ⟨j, hj, rfl⟩ := vp_in_of hvb (by decide)
  simp only [nI_clamp (show i < 2 ^ 31 by omega), nI_clamp (show j < 2 ^ 31 by omega)]
  have hA6 := (hH i (by omega)).2
  have hB6 := (hH (20 + j) (by omega)).2
  refine MI.of hw (by decide +kernel) (Nat.le_of_ble_eq_true rfl) (fun x C hr => ?_)
  suffices key : ∀ Q, Q = QI w x (fun r τ => σ = τ ∧ r = fitU (fun k => σ.1 36 0 (6 * i + k)) (fun k => σ.1 36 0 (120 + 6 * j + k)) (nm (20 + j)) s (nm i)) → G w x 8 Q 0 [(0, .ref (w.2.2.2.1 20 0)), (1, .int (nI i)), (2, .int (nI j)), (3, .int s)] [] σ from key _ rfl
  intro Q hQ
  refine G.iconst (v := 0) C dX6_fitsOf_0 (by decide) ?_
  refine G.istore (L1 := [(4, .int 0), (0, .ref (w.2.2.2.1 20 0)), (1, .int (nI i)), (2, .int (nI j)), (3, .int s)]) C dX6_fitsOf_1 (by decide) rfl ?_
  refine G.iconst (v := 0) C dX6_fitsOf_3 (by decide) ?_
  refine G.istore (L1 := [(5, .int 0), (4, .int 0), (0, .ref (w.2.2.2.1 20 0)), (1, .int (nI i)), (2, .int (nI j)), (3, .int s)]) C dX6_fitsOf_4 (by decide) rfl ?_
  have cut_6 : ∀ (m9 : Nat) (k : Nat) (x5 x4 : Int32), k ≤ nm i → nm i < k + m9 → x5 = nI k → x4 = fitU (fun k => σ.1 36 0 (6 * i + k)) (fun k => σ.1 36 0 (120 + 6 * j + k)) (nm (20 + j)) s k → G w x 8 Q 6 [(5, .int x5), (4, .int x4), (0, .ref (w.2.2.2.1 20 0)), (1, .int (nI i)), (2, .int (nI j)), (3, .int s)] [] σ := by
    intro m9
    induction m9 with
    | zero =>
      intro k x5 x4 hk hm hx5 hx4
      exfalso
      omega
    | succ m9 ih_6 =>
      intro k x5 x4 hk hm hx5 hx4
      subst hx5
      subst hx4
      refine G.iload C 0 dX6_fitsOf_6 rfl ?_
      refine G.aload_n C 2 dX6_fitsOf_8 rfl rfl ?_
      refine G.get (g := 20) (i := 0) C 20 none dX6_fitsOf_9 (by decide) rfl rfl uX_X6 (by decide) uf_RX6_52 rfl rfl ?_
      refine G.iload_n C 3 dX6_fitsOf_12 rfl rfl ?_
      have hin_13 : vp_in (nI i) 24 := by
        exact vp_in_nI (by omega) (by decide)
      refine G.iald (g := 35) (i := 0) (n := 24) C dX6_fitsOf_13 (by decide) rfl hin_13 ?_
      refine G.icmp_ge (tgt := 104) C dX6_fitsOf_14 (by decide) (fun c_14 => ?_) (fun c_14 => ?_)
      · rw [nI_clamp (by omega), (hH i (by omega)).1, nI_leI (by omega) (by omega)] at c_14
        have hkn : k = nm i := by omega
        refine G.iload C 1 dX6_fitsOf_104 rfl ?_
        subst hQ
        exact G.iret C hr dX6_fitsOf_106 (by
            subst hkn
            exact ⟨rfl, rfl⟩)
      · rw [nI_clamp (by omega), (hH i (by omega)).1, nI_leI (by omega) (by omega)] at c_14
        have hkn : k < nm i := by omega
        refine G.iconst (v := 0) C dX6_fitsOf_17 (by decide) ?_
        refine G.istore (L1 := [(6, .int 0), (5, .int (nI k)), (4, .int (fitU (fun k => σ.1 36 0 (6 * i + k)) (fun k => σ.1 36 0 (120 + 6 * j + k)) (nm (20 + j)) s k)), (0, .ref (w.2.2.2.1 20 0)), (1, .int (nI i)), (2, .int (nI j)), (3, .int s)]) C dX6_fitsOf_18 (by decide) rfl ?_
        refine G.iconst (v := 0) C dX6_fitsOf_20 (by decide) ?_
        refine G.istore (L1 := [(7, .int 0), (6, .int 0), (5, .int (nI k)), (4, .int (fitU (fun k => σ.1 36 0 (6 * i + k)) (fun k => σ.1 36 0 (120 + 6 * j + k)) (nm (20 + j)) s k)), (0, .ref (w.2.2.2.1 20 0)), (1, .int (nI i)), (2, .int (nI j)), (3, .int s)]) C dX6_fitsOf_21 (by decide) rfl ?_
        have cut_23 : ∀ (m9 : Nat) (q : Nat) (x7 x6 : Int32), q ≤ nm (20 + j) → nm (20 + j) < q + m9 → x7 = nI q → x6 = wb (nearB (fun k => σ.1 36 0 (120 + 6 * j + k)) (σ.1 36 0 (6 * i + k) + s) 1 q = true) → G w x 8 Q 23 [(7, .int x7), (6, .int x6), (5, .int (nI k)), (4, .int (fitU (fun k => σ.1 36 0 (6 * i + k)) (fun k => σ.1 36 0 (120 + 6 * j + k)) (nm (20 + j)) s k)), (0, .ref (w.2.2.2.1 20 0)), (1, .int (nI i)), (2, .int (nI j)), (3, .int s)] [] σ := by
          intro m9
          induction m9 with
          | zero =>
            intro q x7 x6 hq hm2 hx7 hx6
            exfalso
            omega
          | succ m9 ih_23 =>
            intro q x7 x6 hq hm2 hx7 hx6
            subst hx7
            subst hx6
            refine G.iload C 0 dX6_fitsOf_23 rfl ?_
            refine G.aload_n C 4 dX6_fitsOf_25 rfl rfl ?_
            refine G.get (g := 20) (i := 0) C 20 none dX6_fitsOf_26 (by decide) rfl rfl uX_X6 (by decide) uf_RX6_52 rfl rfl ?_
            refine G.bipush (v := 20) C dX6_fitsOf_29 (by decide) ?_
            refine G.iload_n C 6 dX6_fitsOf_31 rfl rfl ?_
            refine G.iadd C dX6_fitsOf_32 ?_
            have hin_33 : vp_in (20 + (nI j)) 24 := by
              rw [idx20]
              exact vp_in_nI (by omega) (by decide)
            refine G.iald (g := 35) (i := 0) (n := 24) C dX6_fitsOf_33 (by decide) rfl hin_33 ?_
            refine G.icmp_ge (tgt := 83) C dX6_fitsOf_34 (by decide) (fun c_34 => ?_) (fun c_34 => ?_)
            · rw [idx20, nI_clamp (by omega), (hH (20 + j) (by omega)).1, nI_leI (by omega) (by omega)] at c_34
              have hqn : q = nm (20 + j) := by omega
              refine G.iload C 3 dX6_fitsOf_83 rfl ?_
              refine G.iload C 1 dX6_fitsOf_85 rfl ?_
              refine G.if_eq (tgt := 94) C dX6_fitsOf_87 (by decide) (fun c_87 => ?_) (fun c_87 => ?_)
              · refine G.iconst (v := 0) C dX6_fitsOf_94 (by decide) ?_
                refine G.iadd C dX6_fitsOf_95 ?_
                refine G.topi (fun x4_96 ex4_96 => ?_)
                refine G.istore (L1 := [(4, .int x4_96), (7, .int (nI q)), (6, .int (wb (nearB (fun k => σ.1 36 0 (120 + 6 * j + k)) (σ.1 36 0 (6 * i + k) + s) 1 q = true))), (5, .int (nI k)), (0, .ref (w.2.2.2.1 20 0)), (1, .int (nI i)), (2, .int (nI j)), (3, .int s)]) C dX6_fitsOf_96 (by decide) rfl ?_
                obtain ⟨x5_98, ex5_98⟩ : ∃ z : Int32, z = (nI k) + 1 := ⟨_, rfl⟩
                refine G.iinc (v := x5_98) (L1 := [(5, .int x5_98), (4, .int x4_96), (7, .int (nI q)), (6, .int (wb (nearB (fun k => σ.1 36 0 (120 + 6 * j + k)) (σ.1 36 0 (6 * i + k) + s) 1 q = true))), (0, .ref (w.2.2.2.1 20 0)), (1, .int (nI i)), (2, .int (nI j)), (3, .int s)]) C 3 dX6_fitsOf_98 rfl (by rw [ex5_98]; rfl) (by decide) rfl ?_
                refine G.goto (tgt := 6) C dX6_fitsOf_101 (by decide) ?_
                refine G.sub (L1 := [(5, .int x5_98), (4, .int x4_96), (0, .ref (w.2.2.2.1 20 0)), (1, .int (nI i)), (2, .int (nI j)), (3, .int s)]) [0, 1, 4, 5, 6, 7] rfl ?_
                refine ih_6  (k + 1) _ _ ?_ ?_ ?_ ?_
                · omega
                · omega
                · rw [ex5_98]; exact nI_1 k
                · rw [hqn] at c_87
                  rw [ex4_96, i_add0, fitU_f (p := (fun k => σ.1 36 0 (6 * i + k))) (k := k) (wb_eq0 c_87)]
              · refine G.iconst (v := 1) C dX6_fitsOf_90 (by decide) ?_
                refine G.goto (tgt := 95) C dX6_fitsOf_91 (by decide) ?_
                refine G.iadd C dX6_fitsOf_95 ?_
                refine G.topi (fun x4_96 ex4_96 => ?_)
                refine G.istore (L1 := [(4, .int x4_96), (7, .int (nI q)), (6, .int (wb (nearB (fun k => σ.1 36 0 (120 + 6 * j + k)) (σ.1 36 0 (6 * i + k) + s) 1 q = true))), (5, .int (nI k)), (0, .ref (w.2.2.2.1 20 0)), (1, .int (nI i)), (2, .int (nI j)), (3, .int s)]) C dX6_fitsOf_96 (by decide) rfl ?_
                obtain ⟨x5_98, ex5_98⟩ : ∃ z : Int32, z = (nI k) + 1 := ⟨_, rfl⟩
                refine G.iinc (v := x5_98) (L1 := [(5, .int x5_98), (4, .int x4_96), (7, .int (nI q)), (6, .int (wb (nearB (fun k => σ.1 36 0 (120 + 6 * j + k)) (σ.1 36 0 (6 * i + k) + s) 1 q = true))), (0, .ref (w.2.2.2.1 20 0)), (1, .int (nI i)), (2, .int (nI j)), (3, .int s)]) C 3 dX6_fitsOf_98 rfl (by rw [ex5_98]; rfl) (by decide) rfl ?_
                refine G.goto (tgt := 6) C dX6_fitsOf_101 (by decide) ?_
                refine G.sub (L1 := [(5, .int x5_98), (4, .int x4_96), (0, .ref (w.2.2.2.1 20 0)), (1, .int (nI i)), (2, .int (nI j)), (3, .int s)]) [0, 1, 4, 5, 6, 7] rfl ?_
                refine ih_6  (k + 1) _ _ ?_ ?_ ?_ ?_
                · omega
                · omega
                · rw [ex5_98]; exact nI_1 k
                · rw [hqn] at c_87
                  rw [ex4_96, fitU_t (p := (fun k => σ.1 36 0 (6 * i + k))) (k := k) (wb_ne0 c_87)]
            · rw [idx20, nI_clamp (by omega), (hH (20 + j) (by omega)).1, nI_leI (by omega) (by omega)] at c_34
              have hqn : q < nm (20 + j) := by omega
              refine G.iload C 1 dX6_fitsOf_37 rfl ?_
              refine G.aload_n C 4 dX6_fitsOf_39 rfl rfl ?_
              refine G.get (g := 20) (i := 0) C 21 none dX6_fitsOf_40 (by decide) rfl rfl uX_X6 (by decide) uf_RX6_55 rfl rfl ?_
              refine G.bipush (v := 6) C dX6_fitsOf_43 (by decide) ?_
              refine G.iload_n C 5 dX6_fitsOf_45 rfl rfl ?_
              refine G.imul C dX6_fitsOf_46 ?_
              refine G.iload C 2 dX6_fitsOf_47 rfl ?_
              refine G.iadd C dX6_fitsOf_49 ?_
              have hin_50 : vp_in ((6 * (nI i)) + (nI k)) 144 := by
                rw [idx6]
                exact vp_in_nI (by omega) (by decide)
              refine G.iald (g := 36) (i := 0) (n := 144) C dX6_fitsOf_50 (by decide) rfl hin_50 ?_
              refine G.iload_n C 7 dX6_fitsOf_51 rfl rfl ?_
              refine G.iadd C dX6_fitsOf_52 ?_
              refine G.aload_n C 4 dX6_fitsOf_53 rfl rfl ?_
              refine G.get (g := 20) (i := 0) C 21 none dX6_fitsOf_54 (by decide) rfl rfl uX_X6 (by decide) uf_RX6_55 rfl rfl ?_
              refine G.bipush (v := 120) C dX6_fitsOf_57 (by decide) ?_
              refine G.bipush (v := 6) C dX6_fitsOf_59 (by decide) ?_
              refine G.iload_n C 6 dX6_fitsOf_61 rfl rfl ?_
              refine G.imul C dX6_fitsOf_62 ?_
              refine G.iadd C dX6_fitsOf_63 ?_
              refine G.iload C 0 dX6_fitsOf_64 rfl ?_
              refine G.iadd C dX6_fitsOf_66 ?_
              have hin_67 : vp_in ((120 + (6 * (nI j))) + (nI q)) 144 := by
                rw [idx120]
                exact vp_in_nI (by omega) (by decide)
              refine G.iald (g := 36) (i := 0) (n := 144) C dX6_fitsOf_67 (by decide) rfl hin_67 ?_
              refine G.isub C dX6_fitsOf_68 ?_
              refine G.iconst (v := -1) C dX6_fitsOf_69 (by decide) ?_
              refine G.iconst (v := 1) C dX6_fitsOf_70 (by decide) ?_
              have hM_0 := ok_X6_in hw σ (((σ.1 36 0 ((6 * (nI i)) + (nI k)).toNatClampNeg) + s) - (σ.1 36 0 ((120 + (6 * (nI j))) + (nI q)).toNatClampNeg)) (-1) 1
              refine G.callS C none hM_0 dX6_fitsOf_71 us_X6_in ul_RX6_65 rfl rfl (by decide) (Nat.le_of_ble_eq_true rfl) (fun r_71 τ_71 h_71 => ?_)
              obtain ⟨h_71, e_71⟩ := h_71; subst h_71
              refine G.ior C dX6_fitsOf_74 ?_
              refine G.topi (fun x6_75 ex6_75 => ?_)
              refine G.istore (L1 := [(6, .int x6_75), (7, .int (nI q)), (5, .int (nI k)), (4, .int (fitU (fun k => σ.1 36 0 (6 * i + k)) (fun k => σ.1 36 0 (120 + 6 * j + k)) (nm (20 + j)) s k)), (0, .ref (w.2.2.2.1 20 0)), (1, .int (nI i)), (2, .int (nI j)), (3, .int s)]) C dX6_fitsOf_75 (by decide) rfl ?_
              obtain ⟨x7_77, ex7_77⟩ : ∃ z : Int32, z = (nI q) + 1 := ⟨_, rfl⟩
              refine G.iinc (v := x7_77) (L1 := [(7, .int x7_77), (6, .int x6_75), (5, .int (nI k)), (4, .int (fitU (fun k => σ.1 36 0 (6 * i + k)) (fun k => σ.1 36 0 (120 + 6 * j + k)) (nm (20 + j)) s k)), (0, .ref (w.2.2.2.1 20 0)), (1, .int (nI i)), (2, .int (nI j)), (3, .int s)]) C 1 dX6_fitsOf_77 rfl (by rw [ex7_77]; rfl) (by decide) rfl ?_
              refine G.goto (tgt := 23) C dX6_fitsOf_80 (by decide) ?_
              refine ih_23  (q + 1) _ _ ?_ ?_ ?_ ?_
              · omega
              · omega
              · rw [ex7_77]; exact nI_1 q
              · rw [idx6, idx120, nI_clamp (by omega), nI_clamp (by omega)] at e_71
                rw [ex6_75]
                exact near_s1 (q := (fun k => σ.1 36 0 (120 + 6 * j + k))) (hP i k (by omega) hkn) (by have := hP (20 + j) q (by omega) hqn; rw [show 6 * (20 + j) = 120 + 6 * j by omega] at this; exact this) hs e_71
        refine cut_23 8 0 _ _ ?_ ?_ ?_ ?_
        · omega
        · omega
        · rfl
        · exact (wb_f Bool.false_ne_true).symm
  refine cut_6 8 0 _ _ ?_ ?_ ?_ ?_
  · omega
  · omega
  · rfl
  · rfl
set_option maxHeartbeats 4000000 in
set_option maxRecDepth 100000 in
theorem ok_X6_fits {w : wD} (hw : wOK w) (σ : wSt) (a b c : Int32) (hz : σ.1 20 0 0 = 0) {l : Nat} (hl : σ.1 20 0 7 = nI l) (hl20 : l ≤ 20) {nm : Nat → Nat} (hH : ∀ i, i < 24 → σ.1 35 0 i = nI (nm i) ∧ nm i ≤ 6) (hP : ∀ i k, i < 24 → k < nm i → rng99 (σ.1 36 0 (6 * i + k))) : MI w yX6_fits cX6_fits 4 (some .int) 2 49 [.ref (w.2.2.2.1 20 0), .int a, .int b, .int c] σ (fun r τ => σ = τ ∧ ((¬ (inN (σ.1 20 0 7) a ∧ (0 ≤ b ∧ b < 4) ∧ -20 ≤ c ∧ c ≤ 20) ∧ r = -1) ∨ ((inN (σ.1 20 0 7) a ∧ (0 ≤ b ∧ b < 4) ∧ -20 ≤ c ∧ c ≤ 20) ∧ r = fitU (fun k => σ.1 36 0 (6 * a.toNatClampNeg + k)) (fun k => σ.1 36 0 (120 + 6 * b.toNatClampNeg + k)) (nm (20 + b.toNatClampNeg)) c (nm a.toNatClampNeg)))) := by
  refine MI.of hw (by decide +kernel) (Nat.le_of_ble_eq_true rfl) (fun x C hr => ?_)
  suffices key : ∀ Q, Q = QI w x (fun r τ => σ = τ ∧ ((¬ (inN (σ.1 20 0 7) a ∧ (0 ≤ b ∧ b < 4) ∧ -20 ≤ c ∧ c ≤ 20) ∧ r = -1) ∨ ((inN (σ.1 20 0 7) a ∧ (0 ≤ b ∧ b < 4) ∧ -20 ≤ c ∧ c ≤ 20) ∧ r = fitU (fun k => σ.1 36 0 (6 * a.toNatClampNeg + k)) (fun k => σ.1 36 0 (120 + 6 * b.toNatClampNeg + k)) (nm (20 + b.toNatClampNeg)) c (nm a.toNatClampNeg)))) → G w x 4 Q 0 [(0, .ref (w.2.2.2.1 20 0)), (1, .int a), (2, .int b), (3, .int c)] [] σ from key _ rfl
  intro Q hQ
  refine G.aload_n C 0 dX6_fits_0 rfl rfl ?_
  refine G.iconst (v := 0) C dX6_fits_1 (by decide) ?_
  refine G.put (g := 20) (i := 0) C 0 none dX6_fits_2 (by decide) rfl rfl uX_X6 tyX6 tyX6_ok nmX6 (by decide) uf_RX6_61 rfl rfl (by decide +kernel) (Nat.le_of_ble_eq_true rfl) w_up_20_0 ?_
  rw [wUp_id hz]
  refine G.aload_n C 0 dX6_fits_5 rfl rfl ?_
  refine G.iload_n C 1 dX6_fits_6 rfl rfl ?_
  have hM_0 := ok_X6_isLeaf hw σ a hl hl20
  refine G.callV C (g := 20) (i := 0) none hM_0 dX6_fits_7 (by decide) rfl rfl rfl uv_X6_isLeaf ul_RX6_91 rfl rfl (by decide) (Nat.le_of_ble_eq_true rfl) (fun r_7 τ_7 h_7 => ?_)
  obtain ⟨h_7, e_7⟩ := h_7; subst h_7
  refine G.if_eq (tgt := 41) C dX6_fits_10 (by decide) (fun c_10 => ?_) (fun c_10 => ?_)
  · have b_7 := wb_0 e_7 c_10
    refine G.iconst (v := -1) C dX6_fits_41 (by decide) ?_
    subst hQ
    exact G.iret C hr dX6_fits_42 (by
        exact ⟨rfl, Or.inl ⟨fun q => b_7 q.1, rfl⟩⟩)
  · have b_7 := wb_1 e_7 c_10
    refine G.iload_n C 2 dX6_fits_13 rfl rfl ?_
    have hM_1 := ok_X6_isBook hw σ b
    refine G.callS C none hM_1 dX6_fits_14 us_X6_isBook ul_RX6_124 rfl rfl (by decide) (Nat.le_of_ble_eq_true rfl) (fun r_14 τ_14 h_14 => ?_)
    obtain ⟨h_14, e_14⟩ := h_14; subst h_14
    refine G.if_eq (tgt := 41) C dX6_fits_17 (by decide) (fun c_17 => ?_) (fun c_17 => ?_)
    · have b_14 := wb_0 e_14 c_17
      refine G.iconst (v := -1) C dX6_fits_41 (by decide) ?_
      subst hQ
      exact G.iret C hr dX6_fits_42 (by
          exact ⟨rfl, Or.inl ⟨fun q => b_14 q.2.1, rfl⟩⟩)
    · have b_14 := wb_1 e_14 c_17
      refine G.iload_n C 3 dX6_fits_20 rfl rfl ?_
      refine G.bipush (v := -20) C dX6_fits_21 (by decide) ?_
      refine G.bipush (v := 20) C dX6_fits_23 (by decide) ?_
      have hM_2 := ok_X6_in hw σ c (-20) 20
      refine G.callS C none hM_2 dX6_fits_25 us_X6_in ul_RX6_65 rfl rfl (by decide) (Nat.le_of_ble_eq_true rfl) (fun r_25 τ_25 h_25 => ?_)
      obtain ⟨h_25, e_25⟩ := h_25; subst h_25
      refine G.if_eq (tgt := 41) C dX6_fits_28 (by decide) (fun c_28 => ?_) (fun c_28 => ?_)
      · have b_25 := wb_0 e_25 c_28
        refine G.iconst (v := -1) C dX6_fits_41 (by decide) ?_
        subst hQ
        exact G.iret C hr dX6_fits_42 (by
            exact ⟨rfl, Or.inl ⟨fun q => b_25 q.2.2, rfl⟩⟩)
      · have b_25 := wb_1 e_25 c_28
        refine G.aload_n C 0 dX6_fits_31 rfl rfl ?_
        refine G.iload_n C 1 dX6_fits_32 rfl rfl ?_
        refine G.iload_n C 2 dX6_fits_33 rfl rfl ?_
        refine G.iload_n C 3 dX6_fits_34 rfl rfl ?_
        have hM_3 := ok_X6_fitsOf hw σ a b c hH hP (vp_ofc b_7 hl hl20 (by decide)) (vp_ofc (c := 4) (l := 4) b_14 rfl (by decide) (by decide)) b_25
        refine G.callV C (g := 20) (i := 0) none hM_3 dX6_fits_35 (by decide) rfl rfl rfl uv_X6_fitsOf ul_RX6_127 rfl rfl (by decide) (Nat.le_of_ble_eq_true rfl) (fun r_35 τ_35 h_35 => ?_)
        obtain ⟨h_35, e_35⟩ := h_35; subst h_35
        refine G.goto (tgt := 42) C dX6_fits_38 (by decide) ?_
        subst hQ
        exact G.iret C hr dX6_fits_42 (by
            exact ⟨rfl, Or.inr ⟨⟨b_7, b_14, b_25⟩, e_35⟩⟩)
set_option maxHeartbeats 4000000 in
set_option maxRecDepth 100000 in
theorem ok_X6_shiftOf {w : wD} (hw : wOK w) (σ : wSt) (a b : Int32) {nm : Nat → Nat} (hH : ∀ i, i < 24 → σ.1 35 0 i = nI (nm i) ∧ nm i ≤ 6) (hP : ∀ i k, i < 24 → k < nm i → rng99 (σ.1 36 0 (6 * i + k))) (hva : vp_in a 20) (hvb : vp_in b 4) : MI w yX6_shiftOf cX6_shiftOf 5 (some .int) 2 49 [.ref (w.2.2.2.1 20 0), .int a, .int b] σ (fun r τ => σ = τ ∧ r = shU (fun s => fitU (fun k => σ.1 36 0 (6 * a.toNatClampNeg + k)) (fun k => σ.1 36 0 (120 + 6 * b.toNatClampNeg + k)) (nm (20 + b.toNatClampNeg)) s (nm a.toNatClampNeg)) 20) := by
  obtain ⟨i, hi, rfl⟩ := vp_in_of hva (by decide)
  obtain ⟨j, hj, rfl⟩ := vp_in_of hvb (by decide)
  simp only [nI_clamp (show i < 2 ^ 31 by omega), nI_clamp (show j < 2 ^ 31 by omega)]
  have hA6 := (hH i (by omega)).2
  have hB6 := (hH (20 + j) (by omega)).2
  have hva9 : vp_in (nI i) 20 := vp_in_nI hi (by decide)
  have hvb9 : vp_in (nI j) 4 := vp_in_nI hj (by decide)
  refine MI.of hw (by decide +kernel) (Nat.le_of_ble_eq_true rfl) (fun x C hr => ?_)
  suffices key : ∀ Q, Q = QI w x (fun r τ => σ = τ ∧ r = shU (fun s => fitU (fun k => σ.1 36 0 (6 * i + k)) (fun k => σ.1 36 0 (120 + 6 * j + k)) (nm (20 + j)) s (nm i)) 20) → G w x 5 Q 0 [(0, .ref (w.2.2.2.1 20 0)), (1, .int (nI i)), (2, .int (nI j))] [] σ from key _ rfl
  intro Q hQ
  refine G.iconst (v := 0) C dX6_shiftOf_0 (by decide) ?_
  refine G.istore_n (L1 := [(3, .int 0), (0, .ref (w.2.2.2.1 20 0)), (1, .int (nI i)), (2, .int (nI j))]) C dX6_shiftOf_1 rfl (by decide) rfl ?_
  refine G.iconst (v := 1) C dX6_shiftOf_2 (by decide) ?_
  refine G.istore (L1 := [(4, .int 1), (3, .int 0), (0, .ref (w.2.2.2.1 20 0)), (1, .int (nI i)), (2, .int (nI j))]) C dX6_shiftOf_3 (by decide) rfl ?_
  have cut_5 : ∀ (m9 : Nat) (far : Nat) (x4 x3 : Int32), far ≤ 20 → 20 < far + m9 → x4 = nI (far + 1) → x3 = shU (fun s => fitU (fun k => σ.1 36 0 (6 * i + k)) (fun k => σ.1 36 0 (120 + 6 * j + k)) (nm (20 + j)) s (nm i)) far → G w x 5 Q 5 [(4, .int x4), (3, .int x3), (0, .ref (w.2.2.2.1 20 0)), (1, .int (nI i)), (2, .int (nI j))] [] σ := by
    intro m9
    induction m9 with
    | zero =>
      intro far x4 x3 hk hm hx4 hx3
      exfalso
      omega
    | succ m9 ih_5 =>
      intro far x4 x3 hk hm hx4 hx3
      subst hx4
      subst hx3
      refine G.iload C 0 dX6_shiftOf_5 rfl ?_
      refine G.bipush (v := 20) C dX6_shiftOf_7 (by decide) ?_
      refine G.icmp_gt (tgt := 70) C dX6_shiftOf_9 (by decide) (fun c_9 => ?_) (fun c_9 => ?_)
      · have h20 : far = 20 := by
          rw [show (20 : Int32) = nI 20 from rfl, nI_ltI (by decide) (by omega)] at c_9; omega
        refine G.iload_n C 1 dX6_shiftOf_70 rfl rfl ?_
        subst hQ
        exact G.iret C hr dX6_shiftOf_71 (by
            rw [h20]
            exact ⟨rfl, rfl⟩)
      · have h20 : far < 20 := by
          rw [show (20 : Int32) = nI 20 from rfl, nI_ltI (by decide) (by omega)] at c_9; omega
        refine G.aload_n C 2 dX6_shiftOf_12 rfl rfl ?_
        refine G.iload_n C 3 dX6_shiftOf_13 rfl rfl ?_
        refine G.iload_n C 4 dX6_shiftOf_14 rfl rfl ?_
        refine G.iload C 0 dX6_shiftOf_15 rfl ?_
        refine G.ineg C dX6_shiftOf_17 ?_
        have hM_0 := ok_X6_fitsOf hw σ (nI i) (nI j) (-(nI (far + 1))) hH hP hva9 hvb9 ((sh_rng (far + 1) (by omega)).2)
        refine G.callV C (g := 20) (i := 0) none hM_0 dX6_shiftOf_18 (by decide) rfl rfl rfl uv_X6_fitsOf ul_RX6_127 rfl rfl (by decide) (Nat.le_of_ble_eq_true rfl) (fun r_18 τ_18 h_18 => ?_)
        obtain ⟨h_18, e_18⟩ := h_18; subst h_18
        refine G.aload_n C 2 dX6_shiftOf_21 rfl rfl ?_
        refine G.iload_n C 3 dX6_shiftOf_22 rfl rfl ?_
        refine G.iload_n C 4 dX6_shiftOf_23 rfl rfl ?_
        refine G.iload_n C 1 dX6_shiftOf_24 rfl rfl ?_
        have hM_1 := ok_X6_fitsOf hw σ (nI i) (nI j) (shU (fun s => fitU (fun k => σ.1 36 0 (6 * i + k)) (fun k => σ.1 36 0 (120 + 6 * j + k)) (nm (20 + j)) s (nm i)) far) hH hP hva9 hvb9 (shU_rng far (by omega))
        refine G.callV C (g := 20) (i := 0) none hM_1 dX6_shiftOf_25 (by decide) rfl rfl rfl uv_X6_fitsOf ul_RX6_127 rfl rfl (by decide) (Nat.le_of_ble_eq_true rfl) (fun r_25 τ_25 h_25 => ?_)
        obtain ⟨h_25, e_25⟩ := h_25; subst h_25
        refine G.icmp_le (tgt := 37) C dX6_shiftOf_28 (by decide) (fun c_28 => ?_) (fun c_28 => ?_)
        · refine G.iload_n C 1 dX6_shiftOf_37 rfl rfl ?_
          refine G.topi (fun x3_38 ex3_38 => ?_)
          refine G.istore_n (L1 := [(3, .int x3_38), (4, .int (nI (far + 1))), (0, .ref (w.2.2.2.1 20 0)), (1, .int (nI i)), (2, .int (nI j))]) C dX6_shiftOf_38 rfl (by decide) rfl ?_
          refine G.aload_n C 2 dX6_shiftOf_39 rfl rfl ?_
          refine G.iload_n C 3 dX6_shiftOf_40 rfl rfl ?_
          refine G.iload_n C 4 dX6_shiftOf_41 rfl rfl ?_
          refine G.iload C 1 dX6_shiftOf_42 rfl ?_
          have hM_2 := ok_X6_fitsOf hw σ (nI i) (nI j) (nI (far + 1)) hH hP hva9 hvb9 ((sh_rng (far + 1) (by omega)).1)
          refine G.callV C (g := 20) (i := 0) none hM_2 dX6_shiftOf_44 (by decide) rfl rfl rfl uv_X6_fitsOf ul_RX6_127 rfl rfl (by decide) (Nat.le_of_ble_eq_true rfl) (fun r_44 τ_44 h_44 => ?_)
          obtain ⟨h_44, e_44⟩ := h_44; subst h_44
          refine G.aload_n C 2 dX6_shiftOf_47 rfl rfl ?_
          refine G.iload_n C 3 dX6_shiftOf_48 rfl rfl ?_
          refine G.iload_n C 4 dX6_shiftOf_49 rfl rfl ?_
          refine G.iload_n C 0 dX6_shiftOf_50 rfl rfl ?_
          have hM_3 := ok_X6_fitsOf hw σ (nI i) (nI j) x3_38 hH hP hva9 hvb9 (by rw [ex3_38]; first | exact shU_rng far (by omega) | exact (sh_rng (far + 1) (by omega)).2)
          refine G.callV C (g := 20) (i := 0) none hM_3 dX6_shiftOf_51 (by decide) rfl rfl rfl uv_X6_fitsOf ul_RX6_127 rfl rfl (by decide) (Nat.le_of_ble_eq_true rfl) (fun r_51 τ_51 h_51 => ?_)
          obtain ⟨h_51, e_51⟩ := h_51; subst h_51
          refine G.icmp_le (tgt := 62) C dX6_shiftOf_54 (by decide) (fun c_54 => ?_) (fun c_54 => ?_)
          · refine G.iload_n C 0 dX6_shiftOf_62 rfl rfl ?_
            refine G.istore_n (L1 := [(3, .int x3_38), (4, .int (nI (far + 1))), (0, .ref (w.2.2.2.1 20 0)), (1, .int (nI i)), (2, .int (nI j))]) C dX6_shiftOf_63 rfl (by decide) rfl ?_
            obtain ⟨x4_64, ex4_64⟩ : ∃ z : Int32, z = (nI (far + 1)) + 1 := ⟨_, rfl⟩
            refine G.iinc (v := x4_64) (L1 := [(4, .int x4_64), (3, .int x3_38), (0, .ref (w.2.2.2.1 20 0)), (1, .int (nI i)), (2, .int (nI j))]) C 1 dX6_shiftOf_64 rfl (by rw [ex4_64]; rfl) (by decide) rfl ?_
            refine G.goto (tgt := 5) C dX6_shiftOf_67 (by decide) ?_
            refine ih_5  (far + 1) _ _ ?_ ?_ ?_ ?_
            · omega
            · omega
            · rw [ex4_64]; exact nI_1 (far + 1)
            · simp only [nI_clamp (show i < 2 ^ 31 by omega), nI_clamp (show j < 2 ^ 31 by omega)] at *
              rw [e_18, e_25] at c_28
              rw [e_44, e_51, ex3_38] at c_54
              have q1 : shS (fun s => fitU (fun k => σ.1 36 0 (6 * i + k)) (fun k => σ.1 36 0 (120 + 6 * j + k)) (nm (20 + j)) s (nm i)) (-nI (far + 1)) (shU (fun s => fitU (fun k => σ.1 36 0 (6 * i + k)) (fun k => σ.1 36 0 (120 + 6 * j + k)) (nm (20 + j)) s (nm i)) far) = shU (fun s => fitU (fun k => σ.1 36 0 (6 * i + k)) (fun k => σ.1 36 0 (120 + 6 * j + k)) (nm (20 + j)) s (nm i)) far := shS_le c_28
              have q2 : shS (fun s => fitU (fun k => σ.1 36 0 (6 * i + k)) (fun k => σ.1 36 0 (120 + 6 * j + k)) (nm (20 + j)) s (nm i)) (nI (far + 1)) (shU (fun s => fitU (fun k => σ.1 36 0 (6 * i + k)) (fun k => σ.1 36 0 (120 + 6 * j + k)) (nm (20 + j)) s (nm i)) far) = shU (fun s => fitU (fun k => σ.1 36 0 (6 * i + k)) (fun k => σ.1 36 0 (120 + 6 * j + k)) (nm (20 + j)) s (nm i)) far := shS_le c_54
              simp only [shU]
              rw [q1, q2]
              first | assumption | (subst_vars; rfl)
          · refine G.iload C 1 dX6_shiftOf_57 rfl ?_
            refine G.goto (tgt := 63) C dX6_shiftOf_59 (by decide) ?_
            refine G.topi (fun x3_63 ex3_63 => ?_)
            refine G.istore_n (L1 := [(3, .int x3_63), (4, .int (nI (far + 1))), (0, .ref (w.2.2.2.1 20 0)), (1, .int (nI i)), (2, .int (nI j))]) C dX6_shiftOf_63 rfl (by decide) rfl ?_
            obtain ⟨x4_64, ex4_64⟩ : ∃ z : Int32, z = (nI (far + 1)) + 1 := ⟨_, rfl⟩
            refine G.iinc (v := x4_64) (L1 := [(4, .int x4_64), (3, .int x3_63), (0, .ref (w.2.2.2.1 20 0)), (1, .int (nI i)), (2, .int (nI j))]) C 1 dX6_shiftOf_64 rfl (by rw [ex4_64]; rfl) (by decide) rfl ?_
            refine G.goto (tgt := 5) C dX6_shiftOf_67 (by decide) ?_
            refine ih_5  (far + 1) _ _ ?_ ?_ ?_ ?_
            · omega
            · omega
            · rw [ex4_64]; exact nI_1 (far + 1)
            · simp only [nI_clamp (show i < 2 ^ 31 by omega), nI_clamp (show j < 2 ^ 31 by omega)] at *
              rw [e_18, e_25] at c_28
              rw [e_44, e_51, ex3_38] at c_54
              have q1 : shS (fun s => fitU (fun k => σ.1 36 0 (6 * i + k)) (fun k => σ.1 36 0 (120 + 6 * j + k)) (nm (20 + j)) s (nm i)) (-nI (far + 1)) (shU (fun s => fitU (fun k => σ.1 36 0 (6 * i + k)) (fun k => σ.1 36 0 (120 + 6 * j + k)) (nm (20 + j)) s (nm i)) far) = shU (fun s => fitU (fun k => σ.1 36 0 (6 * i + k)) (fun k => σ.1 36 0 (120 + 6 * j + k)) (nm (20 + j)) s (nm i)) far := shS_le c_28
              have q2 : shS (fun s => fitU (fun k => σ.1 36 0 (6 * i + k)) (fun k => σ.1 36 0 (120 + 6 * j + k)) (nm (20 + j)) s (nm i)) (nI (far + 1)) (shU (fun s => fitU (fun k => σ.1 36 0 (6 * i + k)) (fun k => σ.1 36 0 (120 + 6 * j + k)) (nm (20 + j)) s (nm i)) far) = nI (far + 1) := shS_gt c_54
              simp only [shU]
              rw [q1, q2]
              first | assumption | (subst_vars; rfl)
        · refine G.iload C 0 dX6_shiftOf_31 rfl ?_
          refine G.ineg C dX6_shiftOf_33 ?_
          refine G.goto (tgt := 38) C dX6_shiftOf_34 (by decide) ?_
          refine G.topi (fun x3_38 ex3_38 => ?_)
          refine G.istore_n (L1 := [(3, .int x3_38), (4, .int (nI (far + 1))), (0, .ref (w.2.2.2.1 20 0)), (1, .int (nI i)), (2, .int (nI j))]) C dX6_shiftOf_38 rfl (by decide) rfl ?_
          refine G.aload_n C 2 dX6_shiftOf_39 rfl rfl ?_
          refine G.iload_n C 3 dX6_shiftOf_40 rfl rfl ?_
          refine G.iload_n C 4 dX6_shiftOf_41 rfl rfl ?_
          refine G.iload C 1 dX6_shiftOf_42 rfl ?_
          have hM_4 := ok_X6_fitsOf hw σ (nI i) (nI j) (nI (far + 1)) hH hP hva9 hvb9 ((sh_rng (far + 1) (by omega)).1)
          refine G.callV C (g := 20) (i := 0) none hM_4 dX6_shiftOf_44 (by decide) rfl rfl rfl uv_X6_fitsOf ul_RX6_127 rfl rfl (by decide) (Nat.le_of_ble_eq_true rfl) (fun r_44 τ_44 h_44 => ?_)
          obtain ⟨h_44, e_44⟩ := h_44; subst h_44
          refine G.aload_n C 2 dX6_shiftOf_47 rfl rfl ?_
          refine G.iload_n C 3 dX6_shiftOf_48 rfl rfl ?_
          refine G.iload_n C 4 dX6_shiftOf_49 rfl rfl ?_
          refine G.iload_n C 0 dX6_shiftOf_50 rfl rfl ?_
          have hM_5 := ok_X6_fitsOf hw σ (nI i) (nI j) x3_38 hH hP hva9 hvb9 (by rw [ex3_38]; first | exact shU_rng far (by omega) | exact (sh_rng (far + 1) (by omega)).2)
          refine G.callV C (g := 20) (i := 0) none hM_5 dX6_shiftOf_51 (by decide) rfl rfl rfl uv_X6_fitsOf ul_RX6_127 rfl rfl (by decide) (Nat.le_of_ble_eq_true rfl) (fun r_51 τ_51 h_51 => ?_)
          obtain ⟨h_51, e_51⟩ := h_51; subst h_51
          refine G.icmp_le (tgt := 62) C dX6_shiftOf_54 (by decide) (fun c_54 => ?_) (fun c_54 => ?_)
          · refine G.iload_n C 0 dX6_shiftOf_62 rfl rfl ?_
            refine G.istore_n (L1 := [(3, .int x3_38), (4, .int (nI (far + 1))), (0, .ref (w.2.2.2.1 20 0)), (1, .int (nI i)), (2, .int (nI j))]) C dX6_shiftOf_63 rfl (by decide) rfl ?_
            obtain ⟨x4_64, ex4_64⟩ : ∃ z : Int32, z = (nI (far + 1)) + 1 := ⟨_, rfl⟩
            refine G.iinc (v := x4_64) (L1 := [(4, .int x4_64), (3, .int x3_38), (0, .ref (w.2.2.2.1 20 0)), (1, .int (nI i)), (2, .int (nI j))]) C 1 dX6_shiftOf_64 rfl (by rw [ex4_64]; rfl) (by decide) rfl ?_
            refine G.goto (tgt := 5) C dX6_shiftOf_67 (by decide) ?_
            refine ih_5  (far + 1) _ _ ?_ ?_ ?_ ?_
            · omega
            · omega
            · rw [ex4_64]; exact nI_1 (far + 1)
            · simp only [nI_clamp (show i < 2 ^ 31 by omega), nI_clamp (show j < 2 ^ 31 by omega)] at *
              rw [e_18, e_25] at c_28
              rw [e_44, e_51, ex3_38] at c_54
              have q1 : shS (fun s => fitU (fun k => σ.1 36 0 (6 * i + k)) (fun k => σ.1 36 0 (120 + 6 * j + k)) (nm (20 + j)) s (nm i)) (-nI (far + 1)) (shU (fun s => fitU (fun k => σ.1 36 0 (6 * i + k)) (fun k => σ.1 36 0 (120 + 6 * j + k)) (nm (20 + j)) s (nm i)) far) = -nI (far + 1) := shS_gt c_28
              have q2 : shS (fun s => fitU (fun k => σ.1 36 0 (6 * i + k)) (fun k => σ.1 36 0 (120 + 6 * j + k)) (nm (20 + j)) s (nm i)) (nI (far + 1)) (-nI (far + 1)) = -nI (far + 1) := shS_le c_54
              simp only [shU]
              rw [q1, q2]
              first | assumption | (subst_vars; rfl)
          · refine G.iload C 1 dX6_shiftOf_57 rfl ?_
            refine G.goto (tgt := 63) C dX6_shiftOf_59 (by decide) ?_
            refine G.topi (fun x3_63 ex3_63 => ?_)
            refine G.istore_n (L1 := [(3, .int x3_63), (4, .int (nI (far + 1))), (0, .ref (w.2.2.2.1 20 0)), (1, .int (nI i)), (2, .int (nI j))]) C dX6_shiftOf_63 rfl (by decide) rfl ?_
            obtain ⟨x4_64, ex4_64⟩ : ∃ z : Int32, z = (nI (far + 1)) + 1 := ⟨_, rfl⟩
            refine G.iinc (v := x4_64) (L1 := [(4, .int x4_64), (3, .int x3_63), (0, .ref (w.2.2.2.1 20 0)), (1, .int (nI i)), (2, .int (nI j))]) C 1 dX6_shiftOf_64 rfl (by rw [ex4_64]; rfl) (by decide) rfl ?_
            refine G.goto (tgt := 5) C dX6_shiftOf_67 (by decide) ?_
            refine ih_5  (far + 1) _ _ ?_ ?_ ?_ ?_
            · omega
            · omega
            · rw [ex4_64]; exact nI_1 (far + 1)
            · simp only [nI_clamp (show i < 2 ^ 31 by omega), nI_clamp (show j < 2 ^ 31 by omega)] at *
              rw [e_18, e_25] at c_28
              rw [e_44, e_51, ex3_38] at c_54
              have q1 : shS (fun s => fitU (fun k => σ.1 36 0 (6 * i + k)) (fun k => σ.1 36 0 (120 + 6 * j + k)) (nm (20 + j)) s (nm i)) (-nI (far + 1)) (shU (fun s => fitU (fun k => σ.1 36 0 (6 * i + k)) (fun k => σ.1 36 0 (120 + 6 * j + k)) (nm (20 + j)) s (nm i)) far) = -nI (far + 1) := shS_gt c_28
              have q2 : shS (fun s => fitU (fun k => σ.1 36 0 (6 * i + k)) (fun k => σ.1 36 0 (120 + 6 * j + k)) (nm (20 + j)) s (nm i)) (nI (far + 1)) (-nI (far + 1)) = nI (far + 1) := shS_gt c_54
              simp only [shU]
              rw [q1, q2]
              first | assumption | (subst_vars; rfl)
  refine cut_5 21 0 _ _ ?_ ?_ ?_ ?_
  · omega
  · omega
  · rfl
  · rfl
set_option maxHeartbeats 4000000 in
set_option maxRecDepth 100000 in
theorem ok_X6_most {w : wD} (hw : wOK w) (σ : wSt) (a b : Int32) {nm : Nat → Nat} (hH : ∀ i, i < 24 → σ.1 35 0 i = nI (nm i) ∧ nm i ≤ 6) (hP : ∀ i k, i < 24 → k < nm i → rng99 (σ.1 36 0 (6 * i + k))) (hva : vp_in a 20) (hvb : vp_in b 4) : MI w yX6_most cX6_most 3 (some .int) 3 73 [.ref (w.2.2.2.1 20 0), .int a, .int b] σ (fun r τ => σ = τ ∧ r = mostU (fun s => fitU (fun k => σ.1 36 0 (6 * a.toNatClampNeg + k)) (fun k => σ.1 36 0 (120 + 6 * b.toNatClampNeg + k)) (nm (20 + b.toNatClampNeg)) s (nm a.toNatClampNeg))) := by
  refine MI.of hw (by decide +kernel) (Nat.le_of_ble_eq_true rfl) (fun x C hr => ?_)
  suffices key : ∀ Q, Q = QI w x (fun r τ => σ = τ ∧ r = mostU (fun s => fitU (fun k => σ.1 36 0 (6 * a.toNatClampNeg + k)) (fun k => σ.1 36 0 (120 + 6 * b.toNatClampNeg + k)) (nm (20 + b.toNatClampNeg)) s (nm a.toNatClampNeg))) → G w x 3 Q 0 [(0, .ref (w.2.2.2.1 20 0)), (1, .int a), (2, .int b)] [] σ from key _ rfl
  intro Q hQ
  refine G.aload_n C 0 dX6_most_0 rfl rfl ?_
  refine G.iload_n C 1 dX6_most_1 rfl rfl ?_
  refine G.iload_n C 2 dX6_most_2 rfl rfl ?_
  refine G.aload_n C 0 dX6_most_3 rfl rfl ?_
  refine G.iload_n C 1 dX6_most_4 rfl rfl ?_
  refine G.iload_n C 2 dX6_most_5 rfl rfl ?_
  have hM_0 := ok_X6_shiftOf hw σ a b hH hP hva hvb
  refine G.callV C (g := 20) (i := 0) none hM_0 dX6_most_6 (by decide) rfl rfl rfl uv_X6_shiftOf ul_RX6_131 rfl rfl (by decide) (Nat.le_of_ble_eq_true rfl) (fun r_6 τ_6 h_6 => ?_)
  obtain ⟨h_6, e_6⟩ := h_6; subst h_6
  have hM_1 := ok_X6_fitsOf hw σ a b r_6 hH hP hva hvb (by rw [e_6]; exact shU_rng 20 (by decide))
  refine G.callV C (g := 20) (i := 0) none hM_1 dX6_most_9 (by decide) rfl rfl rfl uv_X6_fitsOf ul_RX6_127 rfl rfl (by decide) (Nat.le_of_ble_eq_true rfl) (fun r_9 τ_9 h_9 => ?_)
  obtain ⟨h_9, e_9⟩ := h_9; subst h_9
  subst hQ
  exact G.iret C hr dX6_most_12 (by
      rw [e_6] at e_9
      exact ⟨rfl, e_9⟩)
set_option maxHeartbeats 4000000 in
set_option maxRecDepth 100000 in
theorem ok_X6_shift {w : wD} (hw : wOK w) (σ : wSt) (a b c : Int32) (hz : σ.1 20 0 0 = 0) {l : Nat} (hl : σ.1 20 0 7 = nI l) (hl20 : l ≤ 20) {nm : Nat → Nat} (hH : ∀ i, i < 24 → σ.1 35 0 i = nI (nm i) ∧ nm i ≤ 6) (hP : ∀ i k, i < 24 → k < nm i → rng99 (σ.1 36 0 (6 * i + k))) : MI w yX6_shift cX6_shift 5 (some .int) 3 73 [.ref (w.2.2.2.1 20 0), .int a, .int b, .int c] σ (fun r τ => σ = τ ∧ ((¬ (inN (σ.1 20 0 7) a ∧ (0 ≤ b ∧ b < 4) ∧ (c = 0 ∨ c = 1)) ∧ r = -100) ∨ ((inN (σ.1 20 0 7) a ∧ (0 ≤ b ∧ b < 4) ∧ (c = 0 ∨ c = 1)) ∧ r = if c = 0 then shU (fun s => fitU (fun k => σ.1 36 0 (6 * a.toNatClampNeg + k)) (fun k => σ.1 36 0 (120 + 6 * b.toNatClampNeg + k)) (nm (20 + b.toNatClampNeg)) s (nm a.toNatClampNeg)) 20 else mostU (fun s => fitU (fun k => σ.1 36 0 (6 * a.toNatClampNeg + k)) (fun k => σ.1 36 0 (120 + 6 * b.toNatClampNeg + k)) (nm (20 + b.toNatClampNeg)) s (nm a.toNatClampNeg))))) := by
  refine MI.of hw (by decide +kernel) (Nat.le_of_ble_eq_true rfl) (fun x C hr => ?_)
  suffices key : ∀ Q, Q = QI w x (fun r τ => σ = τ ∧ ((¬ (inN (σ.1 20 0 7) a ∧ (0 ≤ b ∧ b < 4) ∧ (c = 0 ∨ c = 1)) ∧ r = -100) ∨ ((inN (σ.1 20 0 7) a ∧ (0 ≤ b ∧ b < 4) ∧ (c = 0 ∨ c = 1)) ∧ r = if c = 0 then shU (fun s => fitU (fun k => σ.1 36 0 (6 * a.toNatClampNeg + k)) (fun k => σ.1 36 0 (120 + 6 * b.toNatClampNeg + k)) (nm (20 + b.toNatClampNeg)) s (nm a.toNatClampNeg)) 20 else mostU (fun s => fitU (fun k => σ.1 36 0 (6 * a.toNatClampNeg + k)) (fun k => σ.1 36 0 (120 + 6 * b.toNatClampNeg + k)) (nm (20 + b.toNatClampNeg)) s (nm a.toNatClampNeg))))) → G w x 5 Q 0 [(0, .ref (w.2.2.2.1 20 0)), (1, .int a), (2, .int b), (3, .int c)] [] σ from key _ rfl
  intro Q hQ
  refine G.aload_n C 0 dX6_shift_0 rfl rfl ?_
  refine G.iconst (v := 0) C dX6_shift_1 (by decide) ?_
  refine G.put (g := 20) (i := 0) C 0 none dX6_shift_2 (by decide) rfl rfl uX_X6 tyX6 tyX6_ok nmX6 (by decide) uf_RX6_61 rfl rfl (by decide +kernel) (Nat.le_of_ble_eq_true rfl) w_up_20_0 ?_
  rw [wUp_id hz]
  refine G.aload_n C 0 dX6_shift_5 rfl rfl ?_
  refine G.iload_n C 1 dX6_shift_6 rfl rfl ?_
  have hM_0 := ok_X6_isLeaf hw σ a hl hl20
  refine G.callV C (g := 20) (i := 0) none hM_0 dX6_shift_7 (by decide) rfl rfl rfl uv_X6_isLeaf ul_RX6_91 rfl rfl (by decide) (Nat.le_of_ble_eq_true rfl) (fun r_7 τ_7 h_7 => ?_)
  obtain ⟨h_7, e_7⟩ := h_7; subst h_7
  refine G.if_eq (tgt := 29) C dX6_shift_10 (by decide) (fun c_10 => ?_) (fun c_10 => ?_)
  · have b_7 := wb_0 e_7 c_10
    refine G.bipush (v := -100) C dX6_shift_29 (by decide) ?_
    subst hQ
    exact G.iret C hr dX6_shift_31 (by
        refine ⟨rfl, Or.inl ⟨fun q => ?_, rfl⟩⟩
        first | exact b_7 q.1 | exact b_14 q.2.1 | exact b_23 (w_le1.mpr q.2.2))
  · have b_7 := wb_1 e_7 c_10
    refine G.iload_n C 2 dX6_shift_13 rfl rfl ?_
    have hM_1 := ok_X6_isBook hw σ b
    refine G.callS C none hM_1 dX6_shift_14 us_X6_isBook ul_RX6_124 rfl rfl (by decide) (Nat.le_of_ble_eq_true rfl) (fun r_14 τ_14 h_14 => ?_)
    obtain ⟨h_14, e_14⟩ := h_14; subst h_14
    refine G.if_eq (tgt := 29) C dX6_shift_17 (by decide) (fun c_17 => ?_) (fun c_17 => ?_)
    · have b_14 := wb_0 e_14 c_17
      refine G.bipush (v := -100) C dX6_shift_29 (by decide) ?_
      subst hQ
      exact G.iret C hr dX6_shift_31 (by
          refine ⟨rfl, Or.inl ⟨fun q => ?_, rfl⟩⟩
          first | exact b_7 q.1 | exact b_14 q.2.1 | exact b_23 (w_le1.mpr q.2.2))
    · have b_14 := wb_1 e_14 c_17
      refine G.iload_n C 3 dX6_shift_20 rfl rfl ?_
      refine G.iconst (v := 0) C dX6_shift_21 (by decide) ?_
      refine G.iconst (v := 1) C dX6_shift_22 (by decide) ?_
      have hM_2 := ok_X6_in hw σ c 0 1
      refine G.callS C none hM_2 dX6_shift_23 us_X6_in ul_RX6_65 rfl rfl (by decide) (Nat.le_of_ble_eq_true rfl) (fun r_23 τ_23 h_23 => ?_)
      obtain ⟨h_23, e_23⟩ := h_23; subst h_23
      refine G.if_ne (tgt := 32) C dX6_shift_26 (by decide) (fun c_26 => ?_) (fun c_26 => ?_)
      · have b_23 := wb_1 e_23 c_26
        refine G.aload_n C 0 dX6_shift_32 rfl rfl ?_
        refine G.iload_n C 1 dX6_shift_33 rfl rfl ?_
        refine G.iload_n C 2 dX6_shift_34 rfl rfl ?_
        have hM_3 := ok_X6_shiftOf hw σ a b hH hP (vp_ofc b_7 hl hl20 (by decide)) (vp_ofc (c := 4) (l := 4) b_14 rfl (by decide) (by decide))
        refine G.callV C (g := 20) (i := 0) none hM_3 dX6_shift_35 (by decide) rfl rfl rfl uv_X6_shiftOf ul_RX6_131 rfl rfl (by decide) (Nat.le_of_ble_eq_true rfl) (fun r_35 τ_35 h_35 => ?_)
        obtain ⟨h_35, e_35⟩ := h_35; subst h_35
        refine G.istore (L1 := [(4, .int r_35), (0, .ref (w.2.2.2.1 20 0)), (1, .int a), (2, .int b), (3, .int c)]) C dX6_shift_38 (by decide) rfl ?_
        refine G.iload_n C 4 dX6_shift_40 rfl rfl ?_
        refine G.if_ne (tgt := 49) C dX6_shift_41 (by decide) (fun c_41 => ?_) (fun c_41 => ?_)
        · refine G.aload_n C 1 dX6_shift_49 rfl rfl ?_
          refine G.iload_n C 2 dX6_shift_50 rfl rfl ?_
          refine G.iload_n C 3 dX6_shift_51 rfl rfl ?_
          refine G.iload C 0 dX6_shift_52 rfl ?_
          have hM_4 := ok_X6_fitsOf hw σ a b r_35 hH hP (vp_ofc b_7 hl hl20 (by decide)) (vp_ofc (c := 4) (l := 4) b_14 rfl (by decide) (by decide)) (by rw [e_35]; exact shU_rng 20 (by decide))
          refine G.callV C (g := 20) (i := 0) none hM_4 dX6_shift_54 (by decide) rfl rfl rfl uv_X6_fitsOf ul_RX6_127 rfl rfl (by decide) (Nat.le_of_ble_eq_true rfl) (fun r_54 τ_54 h_54 => ?_)
          obtain ⟨h_54, e_54⟩ := h_54; subst h_54
          subst hQ
          exact G.iret C hr dX6_shift_57 (by
              refine ⟨rfl, Or.inr ⟨⟨b_7, b_14, w_le1.mp b_23⟩, ?_⟩⟩
              rw [e_35] at e_54
              rw [if_neg c_41, e_54]
              rfl)
        · refine G.iload C 0 dX6_shift_44 rfl ?_
          refine G.goto (tgt := 57) C dX6_shift_46 (by decide) ?_
          subst hQ
          exact G.iret C hr dX6_shift_57 (by
              refine ⟨rfl, Or.inr ⟨⟨b_7, b_14, w_le1.mp b_23⟩, ?_⟩⟩
              rw [if_pos c_41, e_35])
      · have b_23 := wb_0 e_23 c_26
        refine G.bipush (v := -100) C dX6_shift_29 (by decide) ?_
        subst hQ
        exact G.iret C hr dX6_shift_31 (by
            refine ⟨rfl, Or.inl ⟨fun q => ?_, rfl⟩⟩
            first | exact b_7 q.1 | exact b_14 q.2.1 | exact b_23 (w_le1.mpr q.2.2))
