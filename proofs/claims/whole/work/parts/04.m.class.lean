set_option maxHeartbeats 4000000 in
set_option maxRecDepth 100000 in
theorem ok_X3_weighWhatIsToCome {w : wD} (hw : wOK w) (σ : wSt)  {n : Nat} {w9 : Nat → Nat → Nat → Nat} (hen : envC σ n w9) : MV w yX3_weighWhatIsToCome cX3_weighWhatIsToCome 4 none 4 95 [.ref (w.2.2.2.1 1 0)] σ (fun τ => frG 10 σ τ ∧ (∀ u a : Nat, 0 < u → u < 2 ^ n → a < n → τ.1 10 u a = nI (Vt w9 n u a))) := by
  have hn := hen.1
  have h6 := hen.2.1
  have h7 : n < 7 := by omega
  have h64 := pow_64 n h7
  have hpp : 0 < 2 ^ n := Nat.pow_pos (by decide)
  refine MV.of hw (by decide +kernel) (Nat.le_of_ble_eq_true rfl) (fun x C hr => ?_)
  suffices key : ∀ Q, Q = QV w x (fun τ => frG 10 σ τ ∧ (∀ u a : Nat, 0 < u → u < 2 ^ n → a < n → τ.1 10 u a = nI (Vt w9 n u a))) → G w x 4 Q 0 [(0, .ref (w.2.2.2.1 1 0))] [] σ from key _ rfl
  intro Q hQ
  refine G.iconst (v := 1) C dX3_weighWhatIsToCome_0 (by decide) ?_
  refine G.aload_n C 0 dX3_weighWhatIsToCome_1 rfl rfl ?_
  refine G.get (g := 1) (i := 0) C 5 none dX3_weighWhatIsToCome_2 (by decide) rfl rfl uX_X3 (by decide) uf_RX3_31 rfl rfl ?_
  refine G.ishl C dX3_weighWhatIsToCome_5 ?_
  refine G.iconst (v := 1) C dX3_weighWhatIsToCome_6 (by decide) ?_
  refine G.isub C dX3_weighWhatIsToCome_7 ?_
  refine G.topi (fun x1_8 ex1_8 => ?_)
  refine G.istore_n (L1 := [(1, .int x1_8), (0, .ref (w.2.2.2.1 1 0))]) C dX3_weighWhatIsToCome_8 rfl (by decide) rfl ?_
  have cut_9 : ∀ (m9 : Nat) (u : Nat) (τ1 : wSt) (x1 : Int32), u < 2 ^ n → u < m9 → frG 10 σ τ1 → (∀ v a : Nat, u < v → v < 2 ^ n → a < n → τ1.1 10 v a = nI (Vt w9 n v a)) → x1 = nI u → G w x 4 Q 9 [(1, .int x1), (0, .ref (w.2.2.2.1 1 0))] [] τ1 := by
    intro m9
    induction m9 with
    | zero =>
      intro u τ1 x1 hu2 hm hfr htab hx1
      exfalso
      omega
    | succ m9 ih_9 =>
      intro u τ1 x1 hu2 hm hfr htab hx1
      subst hx1
      
      refine G.iload_n C 0 dX3_weighWhatIsToCome_9 rfl rfl ?_
      refine G.if_le (tgt := 69) C dX3_weighWhatIsToCome_10 (by decide) (fun c_10 => ?_) (fun c_10 => ?_)
      · have hu0 : u = 0 := by
          rw [show (0 : Int32) = nI 0 from rfl, nI_leI (by omega) (by decide)] at c_10; omega
        subst hQ
        exact G.vret C hr dX3_weighWhatIsToCome_69 (by
            exact ⟨hfr, fun v a h1 h2 h3 => htab v a (by omega) h2 h3⟩)
      · have hu0 : 0 < u := by
          rw [show (0 : Int32) = nI 0 from rfl, nI_leI (by omega) (by decide)] at c_10; omega
        refine G.iconst (v := 0) C dX3_weighWhatIsToCome_13 (by decide) ?_
        refine G.istore_n (L1 := [(2, .int 0), (1, .int (nI u)), (0, .ref (w.2.2.2.1 1 0))]) C dX3_weighWhatIsToCome_14 rfl (by decide) rfl ?_
        have cut_15 : ∀ (m9 : Nat) (k : Nat) (τ2 : wSt) (x2 : Int32), k ≤ n → n < k + m9 → frG 10 σ τ2 → (∀ v a : Nat, (u < v ∨ (v = u ∧ a < k)) → v < 2 ^ n → a < n → τ2.1 10 v a = nI (Vt w9 n v a)) → x2 = nI k → G w x 4 Q 15 [(2, .int x2), (1, .int (nI u)), (0, .ref (w.2.2.2.1 1 0))] [] τ2 := by
          intro m9
          induction m9 with
          | zero =>
            intro k τ2 x2 hk hm2 hfr2 htab2 hx2
            exfalso
            omega
          | succ m9 ih_15 =>
            intro k τ2 x2 hk hm2 hfr2 htab2 hx2
            subst hx2
            refine G.iload_n C 0 dX3_weighWhatIsToCome_15 rfl rfl ?_
            refine G.aload_n C 2 dX3_weighWhatIsToCome_16 rfl rfl ?_
            refine G.get (g := 1) (i := 0) C 5 none dX3_weighWhatIsToCome_17 (by decide) rfl rfl uX_X3 (by decide) uf_RX3_31 rfl rfl ?_
            refine G.icmp_ge (tgt := 63) C dX3_weighWhatIsToCome_20 (by decide) (fun c_20 => ?_) (fun c_20 => ?_)
            · have hkn : k = n := by
                rw [hfr2.1 1 (by decide), hn, nI_leI (by omega) (by omega)] at c_20; omega
              obtain ⟨x1_63, ex1_63⟩ : ∃ z : Int32, z = (nI u) + (-1) := ⟨_, rfl⟩
              refine G.iinc (v := x1_63) (L1 := [(1, .int x1_63), (2, .int (nI k)), (0, .ref (w.2.2.2.1 1 0))]) C 1 dX3_weighWhatIsToCome_63 rfl (by rw [ex1_63]; rfl) (by decide) rfl ?_
              refine G.goto (tgt := 9) C dX3_weighWhatIsToCome_66 (by decide) ?_
              refine G.sub (L1 := [(1, .int x1_63), (0, .ref (w.2.2.2.1 1 0))]) [0, 2] rfl ?_
              refine ih_9  (u - 1) _ _ ?_ ?_ ?_ ?_ ?_
              · omega
              · omega
              · exact hfr2
              · intro v a h1 h2 h3
                exact htab2 v a (by omega) h2 h3
              · rw [ex1_63]
                obtain ⟨u9, rfl⟩ : ∃ u9, u = u9 + 1 := ⟨u - 1, by omega⟩
                exact pk_m1 u9
            · have hkn : k < n := by
                rw [hfr2.1 1 (by decide), hn, nI_leI (by omega) (by omega)] at c_20; omega
              refine G.aload_n C 2 dX3_weighWhatIsToCome_23 rfl rfl ?_
              refine G.iload_n C 1 dX3_weighWhatIsToCome_24 rfl rfl ?_
              refine G.iload_n C 0 dX3_weighWhatIsToCome_25 rfl rfl ?_
              have hM_0 := ok_X3_bestNext hw τ2 (nI u) (nI k) (hen.to (hfr2.1 1 (by decide)) (hfr2.1 6 (by decide))) rfl hu2 (show nI k = oI (some k) from rfl) (fun x hx => by cases hx; exact hkn) (fun s hs ho => htab2 (mkU u s) s (Or.inl (mk_gt u (by omega) s (by omega) ho)) (mk_fin n h7 u hu2 s hs).2.1 hs) (fun s hs => V_bd h7 (fun u a b h1 h2 h3 => (hen.2.2.2 u a b h1 h2 h3).2) hu2 (fun x hx => by cases hx; exact hkn) hs)
              refine G.callV C (g := 1) (i := 0) none hM_0 dX3_weighWhatIsToCome_26 (by decide) rfl rfl rfl uv_X3_bestNext ul_RX3_71 rfl rfl (by decide) (Nat.le_of_ble_eq_true rfl) (fun r_26 τ_26 h_26 => ?_)
              obtain ⟨h_26, e_26⟩ := h_26; subst h_26
              refine G.istore_n (L1 := [(3, .int r_26), (2, .int (nI k)), (1, .int (nI u)), (0, .ref (w.2.2.2.1 1 0))]) C dX3_weighWhatIsToCome_29 rfl (by decide) rfl ?_
              refine G.aload_n C 3 dX3_weighWhatIsToCome_30 rfl rfl ?_
              refine G.get (g := 1) (i := 0) C 7 none dX3_weighWhatIsToCome_31 (by decide) rfl rfl uX_X3 (by decide) uf_RX3_39 rfl rfl ?_
              refine G.iload_n C 2 dX3_weighWhatIsToCome_34 rfl rfl ?_
              have hin_35 : vp_in (nI u) 64 := by
                exact vp_in_nI (by omega) (by decide)
              refine G.aald (g := 9) (i := 0) (n := 64) (f := fun q => w.2.2.2.1 10 q) C 4 dX3_weighWhatIsToCome_35 (by decide) rfl rfl rfl hin_35 ?_
              refine G.iload_n C 1 dX3_weighWhatIsToCome_36 rfl rfl ?_
              refine G.aload_n C 3 dX3_weighWhatIsToCome_37 rfl rfl ?_
              refine G.iload_n C 0 dX3_weighWhatIsToCome_38 rfl rfl ?_
              have hM_1 := ok_X3_hasState hw τ2 r_26
              refine G.callV C (g := 1) (i := 0) none hM_1 dX3_weighWhatIsToCome_39 (by decide) rfl rfl rfl uv_X3_hasState ul_RX3_55 rfl rfl (by decide) (Nat.le_of_ble_eq_true rfl) (fun r_39 τ_39 h_39 => ?_)
              obtain ⟨h_39, e_39⟩ := h_39; subst h_39
              refine G.if_eq (tgt := 55) C dX3_weighWhatIsToCome_42 (by decide) (fun c_42 => ?_) (fun c_42 => ?_)
              · have b_39 := wb_0 e_39 c_42
                have hnone : fbU (okU u) (fun s => wO w9 u (some k) s + Vt w9 n (mkU u s) s) n = none := by
                  cases hd : fbU (okU u) (fun s => wO w9 u (some k) s + Vt w9 n (mkU u s) s) n with
                  | none => rfl
                  | some d => exact absurd (by rw [e_26, hd, hfr2.1 1 (by decide), hn]; exact inN_nI (fb_some n d hd).1 (by omega)) b_39
                refine G.iconst (v := 0) C dX3_weighWhatIsToCome_55 (by decide) ?_
                have hin_56 : vp_in (nI k) 6 := by
                  exact vp_in_nI (by omega) (by decide)
                refine G.iast (g := 10) (i := ((nI u).toNatClampNeg)) (n := 6) C dX3_weighWhatIsToCome_56 (vp_lt hin_35) rfl hin_56 w_ast_10 ?_
                obtain ⟨x2_57, ex2_57⟩ : ∃ z : Int32, z = (nI k) + 1 := ⟨_, rfl⟩
                refine G.iinc (v := x2_57) (L1 := [(2, .int x2_57), (3, .int r_26), (1, .int (nI u)), (0, .ref (w.2.2.2.1 1 0))]) C 1 dX3_weighWhatIsToCome_57 rfl (by rw [ex2_57]; rfl) (by decide) rfl ?_
                refine G.goto (tgt := 15) C dX3_weighWhatIsToCome_60 (by decide) ?_
                refine G.sub (L1 := [(2, .int x2_57), (1, .int (nI u)), (0, .ref (w.2.2.2.1 1 0))]) [0, 2, 3] rfl ?_
                refine ih_15  (k + 1) _ _ ?_ ?_ ?_ ?_ ?_
                · omega
                · omega
                · exact hfr2.up
                · refine tab_up (by omega) (by omega) htab2 ?_
                  have hvt := Vt_next (w := w9) (a := k) h7 hu2
                  rw [hvt, show nextU w9 n u (some k) = none from hnone]
                  rfl
                · rw [ex2_57]; exact nI_1 k
              · have b_39 := wb_1 e_39 c_42
                rw [e_26] at b_39
                obtain ⟨d9, hd9⟩ := oI_in b_39
                have hdn := fb_some n d9 hd9
                refine G.aload_n C 3 dX3_weighWhatIsToCome_45 rfl rfl ?_
                refine G.iload_n C 2 dX3_weighWhatIsToCome_46 rfl rfl ?_
                refine G.iload_n C 1 dX3_weighWhatIsToCome_47 rfl rfl ?_
                refine G.iload_n C 0 dX3_weighWhatIsToCome_48 rfl rfl ?_
                have hM_2 := ok_X3_quarrelBy hw τ2 (nI u) (nI k) r_26 (hen.to (hfr2.1 1 (by decide)) (hfr2.1 6 (by decide))) rfl hu2 (show r_26 = nI d9 by rw [e_26, hd9]; rfl) hdn.1 (show nI k = oI (some k) from rfl) (fun x hx => by cases hx; exact hkn) (htab2 (mkU u d9) d9 (Or.inl (mk_gt u (by omega) d9 (by omega) hdn.2.1)) (mk_fin n h7 u hu2 d9 hdn.1).2.1 hdn.1)
                refine G.callV C (g := 1) (i := 0) none hM_2 dX3_weighWhatIsToCome_49 (by decide) rfl rfl rfl uv_X3_quarrelBy ul_RX3_75 rfl rfl (by decide) (Nat.le_of_ble_eq_true rfl) (fun r_49 τ_49 h_49 => ?_)
                obtain ⟨h_49, e_49⟩ := h_49; subst h_49
                refine G.goto (tgt := 56) C dX3_weighWhatIsToCome_52 (by decide) ?_
                have hin_56 : vp_in (nI k) 6 := by
                  exact vp_in_nI (by omega) (by decide)
                refine G.iast (g := 10) (i := ((nI u).toNatClampNeg)) (n := 6) C dX3_weighWhatIsToCome_56 (vp_lt hin_35) rfl hin_56 w_ast_10 ?_
                obtain ⟨x2_57, ex2_57⟩ : ∃ z : Int32, z = (nI k) + 1 := ⟨_, rfl⟩
                refine G.iinc (v := x2_57) (L1 := [(2, .int x2_57), (3, .int r_26), (1, .int (nI u)), (0, .ref (w.2.2.2.1 1 0))]) C 1 dX3_weighWhatIsToCome_57 rfl (by rw [ex2_57]; rfl) (by decide) rfl ?_
                refine G.goto (tgt := 15) C dX3_weighWhatIsToCome_60 (by decide) ?_
                refine G.sub (L1 := [(2, .int x2_57), (1, .int (nI u)), (0, .ref (w.2.2.2.1 1 0))]) [0, 2, 3] rfl ?_
                refine ih_15  (k + 1) _ _ ?_ ?_ ?_ ?_ ?_
                · omega
                · omega
                · exact hfr2.up
                · refine tab_up (by omega) (by omega) htab2 ?_
                  have hvt := Vt_next (w := w9) (a := k) h7 hu2
                  rw [hvt, show nextU w9 n u (some k) = some d9 from hd9]
                  exact e_49
                · rw [ex2_57]; exact nI_1 k
        refine cut_15 (n + 1) 0 _ _ ?_ ?_ ?_ ?_ ?_
        · omega
        · omega
        · exact hfr
        · intro v a h1 h2 h3
          exact htab v a (by omega) h2 h3
        · rfl
  refine cut_9 (2 ^ n) (2 ^ n - 1) _ _ ?_ ?_ ?_ ?_ ?_
  · omega
  · omega
  · exact frG.rf
  · intro v a h1 h2
    omega
  · rw [ex1_8, hn]
    exact (cnt_0 n h7).2
set_option maxHeartbeats 4000000 in
set_option maxRecDepth 100000 in
theorem ok_X3_bestOrder {w : wD} (hw : wOK w) (σ : wSt)  {n : Nat} {w9 : Nat → Nat → Nat → Nat} (hen : envC σ n w9) : MI w yX3_bestOrder cX3_bestOrder 5 (some .int) 5 118 [.ref (w.2.2.2.1 1 0)] σ (fun r τ => frG 10 σ τ ∧ r = nI (gr w9 n n 0 none)) := by
  have hn := hen.1
  have h6 := hen.2.1
  have h7 : n < 7 := by omega
  have h64 := pow_64 n h7
  have hpp : 0 < 2 ^ n := Nat.pow_pos (by decide)
  refine MI.of hw (by decide +kernel) (Nat.le_of_ble_eq_true rfl) (fun x C hr => ?_)
  suffices key : ∀ Q, Q = QI w x (fun r τ => frG 10 σ τ ∧ r = nI (gr w9 n n 0 none)) → G w x 5 Q 0 [(0, .ref (w.2.2.2.1 1 0))] [] σ from key _ rfl
  intro Q hQ
  refine G.aload_n C 0 dX3_bestOrder_0 rfl rfl ?_
  have hM_0 := ok_X3_weighWhatIsToCome hw σ hen
  refine G.callVv C (g := 1) (i := 0) none hM_0 dX3_bestOrder_1 (by decide) rfl rfl rfl uv_X3_weighWhatIsToCome ul_RX3_68 rfl rfl (by decide) (Nat.le_of_ble_eq_true rfl) (fun τ_1 h_1 => ?_)
  refine G.iconst (v := 0) C dX3_bestOrder_4 (by decide) ?_
  refine G.istore_n (L1 := [(1, .int 0), (0, .ref (w.2.2.2.1 1 0))]) C dX3_bestOrder_5 rfl (by decide) rfl ?_
  refine G.iconst (v := 0) C dX3_bestOrder_6 (by decide) ?_
  refine G.istore_n (L1 := [(2, .int 0), (1, .int 0), (0, .ref (w.2.2.2.1 1 0))]) C dX3_bestOrder_7 rfl (by decide) rfl ?_
  refine G.bipush (v := -9) C dX3_bestOrder_8 (by decide) ?_
  refine G.istore_n (L1 := [(3, .int (-9)), (2, .int 0), (1, .int 0), (0, .ref (w.2.2.2.1 1 0))]) C dX3_bestOrder_10 rfl (by decide) rfl ?_
  refine G.iconst (v := 0) C dX3_bestOrder_11 (by decide) ?_
  refine G.istore (L1 := [(4, .int 0), (3, .int (-9)), (2, .int 0), (1, .int 0), (0, .ref (w.2.2.2.1 1 0))]) C dX3_bestOrder_12 (by decide) rfl ?_
  have cut_14 : ∀ (m9 : Nat) (i u o : Nat) (l9 : Option Nat) (x4 x3 x2 x1 : Int32), i ≤ n → n < i + m9 → u < 2 ^ n → cntF u n = n - i → (∀ x, l9 = some x → x < n) → o * 6 ^ (n - i) + gr w9 n (n - i) u l9 = gr w9 n n 0 none → x4 = nI i → x3 = oI l9 → x2 = nI u → x1 = nI o → G w x 5 Q 14 [(4, .int x4), (3, .int x3), (2, .int x2), (1, .int x1), (0, .ref (w.2.2.2.1 1 0))] [] τ_1 := by
    intro m9
    induction m9 with
    | zero =>
      intro i u o l9 x4 x3 x2 x1 hi hm hu2 hcn hln hgr hx4 hx3 hx2 hx1
      exfalso
      omega
    | succ m9 ih_14 =>
      intro i u o l9 x4 x3 x2 x1 hi hm hu2 hcn hln hgr hx4 hx3 hx2 hx1
      subst hx4
      subst hx3
      subst hx2
      subst hx1
      refine G.iload C 0 dX3_bestOrder_14 rfl ?_
      refine G.aload_n C 4 dX3_bestOrder_16 rfl rfl ?_
      refine G.get (g := 1) (i := 0) C 5 none dX3_bestOrder_17 (by decide) rfl rfl uX_X3 (by decide) uf_RX3_31 rfl rfl ?_
      refine G.icmp_ge (tgt := 59) C dX3_bestOrder_20 (by decide) (fun c_20 => ?_) (fun c_20 => ?_)
      · have hin : i = n := by
          rw [h_1.1.1 1 (by decide), hn, nI_leI (by omega) (by omega)] at c_20; omega
        refine G.iload_n C 3 dX3_bestOrder_59 rfl rfl ?_
        subst hQ
        exact G.iret C hr dX3_bestOrder_60 (by
            refine ⟨h_1.1, ?_⟩
            subst hin
            rw [Nat.sub_self] at hgr
            rw [← hgr]
            simp [gr])
      · have hin : i < n := by
          rw [h_1.1.1 1 (by decide), hn, nI_leI (by omega) (by omega)] at c_20; omega
        obtain ⟨b9, hb1, hb2, hb3, hb4, hb5, hb6⟩ := gr_next (w := w9) (r := n - (i + 1)) (l := l9) h7 hu2 (by omega)
        refine G.aload_n C 4 dX3_bestOrder_23 rfl rfl ?_
        refine G.iload_n C 2 dX3_bestOrder_24 rfl rfl ?_
        refine G.iload_n C 1 dX3_bestOrder_25 rfl rfl ?_
        have hM_1 := ok_X3_bestNext hw τ_1 (nI u) (oI l9) (hen.to (h_1.1.1 1 (by decide)) (h_1.1.1 6 (by decide))) rfl hu2 (show oI l9 = oI l9 from rfl) hln (fun s hs ho => h_1.2 (mkU u s) s (mk_fin n h7 u hu2 s hs).2.2 (mk_fin n h7 u hu2 s hs).2.1 hs) (fun s hs => V_bd h7 (fun u a b h1 h2 h3 => (hen.2.2.2 u a b h1 h2 h3).2) hu2 hln hs)
        refine G.callV C (g := 1) (i := 0) none hM_1 dX3_bestOrder_26 (by decide) rfl rfl rfl uv_X3_bestNext ul_RX3_71 rfl rfl (by decide) (Nat.le_of_ble_eq_true rfl) (fun r_26 τ_26 h_26 => ?_)
        obtain ⟨h_26, e_26⟩ := h_26; subst h_26
        rw [show fbU (okU u) (fun s => wO w9 u l9 s + Vt w9 n (mkU u s) s) n = some b9 from hb1] at e_26
        have e_26 : r_26 = nI b9 := e_26
        refine G.istore_n (L1 := [(3, .int r_26), (4, .int (nI i)), (2, .int (nI u)), (1, .int (nI o)), (0, .ref (w.2.2.2.1 1 0))]) C dX3_bestOrder_29 rfl (by decide) rfl ?_
        refine G.aload_n C 4 dX3_bestOrder_30 rfl rfl ?_
        refine G.iload_n C 0 dX3_bestOrder_31 rfl rfl ?_
        have hM_2 := ok_X3_hasState hw τ_1 r_26
        refine G.callV C (g := 1) (i := 0) none hM_2 dX3_bestOrder_32 (by decide) rfl rfl rfl uv_X3_hasState ul_RX3_55 rfl rfl (by decide) (Nat.le_of_ble_eq_true rfl) (fun r_32 τ_32 h_32 => ?_)
        obtain ⟨h_32, e_32⟩ := h_32; subst h_32
        refine G.if_ne (tgt := 40) C dX3_bestOrder_35 (by decide) (fun c_35 => ?_) (fun c_35 => ?_)
        · have b_32 := wb_1 e_32 c_35
          refine G.iload_n C 2 dX3_bestOrder_40 rfl rfl ?_
          refine G.iconst (v := 1) C dX3_bestOrder_41 (by decide) ?_
          refine G.iload_n C 0 dX3_bestOrder_42 rfl rfl ?_
          refine G.ishl C dX3_bestOrder_43 ?_
          refine G.ior C dX3_bestOrder_44 ?_
          refine G.topi (fun x2_45 ex2_45 => ?_)
          refine G.istore_n (L1 := [(2, .int x2_45), (3, .int r_26), (4, .int (nI i)), (1, .int (nI o)), (0, .ref (w.2.2.2.1 1 0))]) C dX3_bestOrder_45 rfl (by decide) rfl ?_
          refine G.iload_n C 3 dX3_bestOrder_46 rfl rfl ?_
          refine G.bipush (v := 6) C dX3_bestOrder_47 (by decide) ?_
          refine G.imul C dX3_bestOrder_49 ?_
          refine G.iload_n C 1 dX3_bestOrder_50 rfl rfl ?_
          refine G.iadd C dX3_bestOrder_51 ?_
          refine G.topi (fun x1_52 ex1_52 => ?_)
          refine G.istore_n (L1 := [(1, .int x1_52), (2, .int x2_45), (3, .int r_26), (4, .int (nI i)), (0, .ref (w.2.2.2.1 1 0))]) C dX3_bestOrder_52 rfl (by decide) rfl ?_
          obtain ⟨x4_53, ex4_53⟩ : ∃ z : Int32, z = (nI i) + 1 := ⟨_, rfl⟩
          refine G.iinc (v := x4_53) (L1 := [(4, .int x4_53), (1, .int x1_52), (2, .int x2_45), (3, .int r_26), (0, .ref (w.2.2.2.1 1 0))]) C 3 dX3_bestOrder_53 rfl (by rw [ex4_53]; rfl) (by decide) rfl ?_
          refine G.goto (tgt := 14) C dX3_bestOrder_56 (by decide) ?_
          refine G.sub (L1 := [(4, .int x4_53), (3, .int r_26), (2, .int x2_45), (1, .int x1_52), (0, .ref (w.2.2.2.1 1 0))]) [0, 3, 2, 1, 4] rfl ?_
          refine ih_14  (i + 1) (mkU u b9) (o * 6 + b9) (some b9) _ _ _ _ ?_ ?_ ?_ ?_ ?_ ?_ ?_ ?_ ?_ ?_
          · omega
          · omega
          · exact hb6
          · exact hb5
          · intro x hx
            cases hx
            exact hb2
          · rw [← hgr]
            obtain ⟨k9, hk9⟩ : ∃ k9, n - i = k9 + 1 := ⟨n - i - 1, by omega⟩
            rw [show n - (i + 1) = k9 by omega] at hb4 ⊢
            rw [hk9, hb4, Nat.pow_succ, Nat.add_mul, Nat.mul_assoc, Nat.mul_comm 6, Nat.add_assoc]
          · rw [ex4_53]; exact nI_1 i
          · exact e_26
          · rw [ex2_45, e_26]
            exact (mk_bits u (by omega) b9 (by omega)).2
          · rw [ex1_52, e_26, show (6 : Int32) = nI 6 from rfl, pk_mul, nI_add]
        · have b_32 := wb_0 e_32 c_35
          refine G.iconst (v := 0) C dX3_bestOrder_38 (by decide) ?_
          subst hQ
          exact G.iret C hr dX3_bestOrder_39 (by
              exact absurd (by rw [e_26, h_1.1.1 1 (by decide), hn]; exact inN_nI hb2 (by omega)) b_32)
  refine cut_14 (n + 1) 0 0 0 none _ _ _ _ ?_ ?_ ?_ ?_ ?_ ?_ ?_ ?_ ?_ ?_
  · omega
  · omega
  · omega
  · exact (cnt_0 n h7).1
  · intro x hx
    cases hx
  · simp
  · rfl
  · rfl
  · rfl
  · rfl
set_option maxHeartbeats 4000000 in
set_option maxRecDepth 100000 in
theorem ok_X3_readOrder {w : wD} (hw : wOK w) (σ : wSt) (a : Int32) {n : Nat} (hn : σ.1 1 0 5 = nI n) (h6 : n ≤ 6) : MI w yX3_readOrder cX3_readOrder 6 (some .boolean) 1 21 [.ref (w.2.2.2.1 1 0), .int a] σ (fun r τ => frG 8 σ τ ∧ ((r = 1 ∧ ∃ m : Nat, a = nI m ∧ m < 2 ^ 31 ∧ ordOk n m ∧ ∀ i : Nat, i < n → τ.1 8 0 i = nI (dg n m i)) ∨ (r = 0 ∧ ¬ (∃ m : Nat, a = nI m ∧ ordOk n m)))) := by
  refine MI.of hw (by decide +kernel) (Nat.le_of_ble_eq_true rfl) (fun x C hr => ?_)
  suffices key : ∀ Q, Q = QI w x (fun r τ => frG 8 σ τ ∧ ((r = 1 ∧ ∃ m : Nat, a = nI m ∧ m < 2 ^ 31 ∧ ordOk n m ∧ ∀ i : Nat, i < n → τ.1 8 0 i = nI (dg n m i)) ∨ (r = 0 ∧ ¬ (∃ m : Nat, a = nI m ∧ ordOk n m)))) → G w x 6 Q 0 [(0, .ref (w.2.2.2.1 1 0)), (1, .int a)] [] σ from key _ rfl
  intro Q hQ
  refine G.iload_n C 1 dX3_readOrder_0 rfl rfl ?_
  refine G.if_lt (tgt := 11) C dX3_readOrder_1 (by decide) (fun c_1 => ?_) (fun c_1 => ?_)
  · refine G.iconst (v := 0) C dX3_readOrder_11 (by decide) ?_
    subst hQ
    exact G.zret C hr (by rfl) dX3_readOrder_12 (by
        refine ⟨frG.rf, Or.inr ⟨rfl, fun q => ?_⟩⟩
        obtain ⟨m, e, q⟩ := q
        subst e
        exact nI_pos (by have := pow_31 n h6; have := q.2.1; omega) c_1)
  · obtain ⟨m, hm31, rfl⟩ := nI_of c_1
    refine G.aload_n C 0 dX3_readOrder_4 rfl rfl ?_
    refine G.get (g := 1) (i := 0) C 5 none dX3_readOrder_5 (by decide) rfl rfl uX_X3 (by decide) uf_RX3_31 rfl rfl ?_
    refine G.if_ne (tgt := 13) C dX3_readOrder_8 (by decide) (fun c_8 => ?_) (fun c_8 => ?_)
    · have hn0 : 0 < n := by
        rcases Nat.eq_zero_or_pos n with z | z
        · exact absurd (by rw [hn, z]; rfl) c_8
        · exact z
      refine G.iload_n C 1 dX3_readOrder_13 rfl rfl ?_
      refine G.topi (fun x2_14 ex2_14 => ?_)
      refine G.istore_n (L1 := [(2, .int x2_14), (0, .ref (w.2.2.2.1 1 0)), (1, .int (nI m))]) C dX3_readOrder_14 rfl (by decide) rfl ?_
      refine G.iconst (v := 0) C dX3_readOrder_15 (by decide) ?_
      refine G.istore_n (L1 := [(3, .int 0), (2, .int x2_14), (0, .ref (w.2.2.2.1 1 0)), (1, .int (nI m))]) C dX3_readOrder_16 rfl (by decide) rfl ?_
      refine G.aload_n C 2 dX3_readOrder_17 rfl rfl ?_
      refine G.get (g := 1) (i := 0) C 5 none dX3_readOrder_18 (by decide) rfl rfl uX_X3 (by decide) uf_RX3_31 rfl rfl ?_
      refine G.iconst (v := 1) C dX3_readOrder_21 (by decide) ?_
      refine G.isub C dX3_readOrder_22 ?_
      refine G.topi (fun x4_23 ex4_23 => ?_)
      refine G.istore (L1 := [(4, .int x4_23), (3, .int 0), (2, .int x2_14), (0, .ref (w.2.2.2.1 1 0)), (1, .int (nI m))]) C dX3_readOrder_23 (by decide) rfl ?_
      have cut_25 : ∀ (m9 : Nat) (t u : Nat) (τ1 : wSt) (x4 x3 x2 : Int32), t ≤ n → n < t + m9 → rdU n m t = some u → u < 2 ^ n → frG 8 σ τ1 → (∀ i : Nat, n - t ≤ i → i < n → τ1.1 8 0 i = nI (dg n m i)) → x4 = nI (n - t) - 1 → x3 = nI u → x2 = nI (m / 6 ^ t) → G w x 6 Q 25 [(4, .int x4), (3, .int x3), (2, .int x2), (0, .ref (w.2.2.2.1 1 0)), (1, .int (nI m))] [] τ1 := by
        intro m9
        induction m9 with
        | zero =>
          intro t u τ1 x4 x3 x2 ht hm hrd hu2 hfr hdig hx4 hx3 hx2
          exfalso
          omega
        | succ m9 ih_25 =>
          intro t u τ1 x4 x3 x2 ht hm hrd hu2 hfr hdig hx4 hx3 hx2
          subst hx4
          subst hx3
          subst hx2
          have hd6 : m / 6 ^ t % 6 < 6 := Nat.mod_lt _ (by decide)
          have hm6 : m / 6 ^ t ≤ m := Nat.div_le_self _ _
          refine G.iload C 0 dX3_readOrder_25 rfl ?_
          refine G.if_lt (tgt := 83) C dX3_readOrder_27 (by decide) (fun c_27 => ?_) (fun c_27 => ?_)
          · have htn : n = t := by have := (nI_lt0 (k := n - t) (by omega)).mp c_27; omega
            refine G.iload_n C 2 dX3_readOrder_83 rfl rfl ?_
            refine G.if_ne (tgt := 91) C dX3_readOrder_84 (by decide) (fun c_84 => ?_) (fun c_84 => ?_)
            · refine G.iconst (v := 0) C dX3_readOrder_91 (by decide) ?_
              subst hQ
              exact G.zret C hr (by rfl) dX3_readOrder_92 (by
                  refine ⟨hfr, Or.inr ⟨rfl, fun q => ?_⟩⟩
                  obtain ⟨m2, e, q⟩ := q
                  have e2 := nI_inj31 hm31 (by have := pow_31 n h6; have := q.2.1; omega) e
                  subst e2
                  subst htn
                  exact c_84 (by rw [ord_big q]; rfl))
            · refine G.iconst (v := 1) C dX3_readOrder_87 (by decide) ?_
              refine G.goto (tgt := 92) C dX3_readOrder_88 (by decide) ?_
              subst hQ
              exact G.zret C hr (by rfl) dX3_readOrder_92 (by
                  subst htn
                  have hz : m / 6 ^ n = 0 := nI_inj31 (by omega) (by decide) c_84
                  exact ⟨hfr, Or.inl ⟨rfl, m, rfl, hm31, ord_rd hn0 h6 hrd hz, fun i hi => hdig i (by omega) hi⟩⟩)
          · have htn : 0 < n - t := by
              rcases Nat.eq_zero_or_pos (n - t) with z | z
              · exact absurd ((nI_lt0 (by omega)).mpr z) c_27
              · exact z
            rw [nI_sub1 htn]
            have hz9 := htn
            refine G.iload_n C 2 dX3_readOrder_30 rfl rfl ?_
            refine G.bipush (v := 6) C dX3_readOrder_31 (by decide) ?_
            refine G.irem C dX3_readOrder_33 (by decide) ?_
            refine G.topi (fun x5_34 ex5_34 => ?_)
            refine G.istore (L1 := [(5, .int x5_34), (4, .int (nI (n - t - 1))), (3, .int (nI u)), (2, .int (nI (m / 6 ^ t))), (0, .ref (w.2.2.2.1 1 0)), (1, .int (nI m))]) C dX3_readOrder_34 (by decide) rfl ?_
            have e5 : x5_34 = nI (m / 6 ^ t % 6) := by
              rw [ex5_34, show (6 : Int32) = nI 6 from rfl]
              exact pk_rem (by omega) (by decide) (by decide)
            subst e5
            refine G.iload_n C 3 dX3_readOrder_36 rfl rfl ?_
            refine G.bipush (v := 6) C dX3_readOrder_37 (by decide) ?_
            refine G.idiv C dX3_readOrder_39 (by decide) ?_
            refine G.topi (fun x2_40 ex2_40 => ?_)
            refine G.istore_n (L1 := [(2, .int x2_40), (5, .int (nI (m / 6 ^ t % 6))), (4, .int (nI (n - t - 1))), (3, .int (nI u)), (0, .ref (w.2.2.2.1 1 0)), (1, .int (nI m))]) C dX3_readOrder_40 rfl (by decide) rfl ?_
            refine G.aload_n C 4 dX3_readOrder_41 rfl rfl ?_
            refine G.iload C 1 dX3_readOrder_42 rfl ?_
            have hM_0 := ok_X3_hasState hw τ1 (nI (m / 6 ^ t % 6))
            refine G.callV C (g := 1) (i := 0) none hM_0 dX3_readOrder_44 (by decide) rfl rfl rfl uv_X3_hasState ul_RX3_55 rfl rfl (by decide) (Nat.le_of_ble_eq_true rfl) (fun r_44 τ_44 h_44 => ?_)
            obtain ⟨h_44, e_44⟩ := h_44; subst h_44
            refine G.if_eq (tgt := 59) C dX3_readOrder_47 (by decide) (fun c_47 => ?_) (fun c_47 => ?_)
            · have b_44 := wb_0 e_44 c_47
              rw [hfr.1 1 (by decide), hn] at b_44
              have hd0 : ¬ m / 6 ^ t % 6 < n := fun z => b_44 (inN_nI z (by omega))
              refine G.iconst (v := 0) C dX3_readOrder_59 (by decide) ?_
              subst hQ
              exact G.zret C hr (by rfl) dX3_readOrder_60 (by
                  refine ⟨hfr, Or.inr ⟨rfl, fun q => ?_⟩⟩
                  obtain ⟨m2, e, q⟩ := q
                  have e2 := nI_inj31 hm31 (by have := pow_31 n h6; have := q.2.1; omega) e
                  subst e2
                  exact ord_no h6 (show t + 1 ≤ n by omega) (rd_none hrd (fun z => hd0 z.1)) q)
            · have b_44 := wb_1 e_44 c_47
              rw [hfr.1 1 (by decide), hn] at b_44
              have hd1 : m / 6 ^ t % 6 < n := (nI_ltI (by have := Nat.mod_lt (m / 6 ^ t) (show 0 < 6 by decide); omega) (by omega)).mp b_44.2
              refine G.iload_n C 3 dX3_readOrder_50 rfl rfl ?_
              refine G.iload C 1 dX3_readOrder_51 rfl ?_
              have hM_1 := ok_X5_has hw τ1 (nI u) (nI (m / 6 ^ t % 6))
              refine G.callS C (some "PlateRoom") hM_1 dX3_readOrder_53 us_X5_has unm_RX3_58 rfl rfl (by decide) (Nat.le_of_ble_eq_true rfl) (fun r_53 τ_53 h_53 => ?_)
              obtain ⟨h_53, e_53⟩ := h_53; subst h_53
              refine G.if_eq (tgt := 61) C dX3_readOrder_56 (by decide) (fun c_56 => ?_) (fun c_56 => ?_)
              · have b_53 := wb_0 e_53 c_56
                have hok : okU u (m / 6 ^ t % 6) = true := by
                  cases hq : okU u (m / 6 ^ t % 6) with
                  | true => rfl
                  | false => exact absurd ((has_t (by have := pow_64 n (by omega); omega) hd6).mpr hq) b_53
                refine G.iload_n C 3 dX3_readOrder_61 rfl rfl ?_
                refine G.iconst (v := 1) C dX3_readOrder_62 (by decide) ?_
                refine G.iload C 1 dX3_readOrder_63 rfl ?_
                refine G.ishl C dX3_readOrder_65 ?_
                refine G.ior C dX3_readOrder_66 ?_
                refine G.topi (fun x3_67 ex3_67 => ?_)
                refine G.istore_n (L1 := [(3, .int x3_67), (2, .int x2_40), (5, .int (nI (m / 6 ^ t % 6))), (4, .int (nI (n - t - 1))), (0, .ref (w.2.2.2.1 1 0)), (1, .int (nI m))]) C dX3_readOrder_67 rfl (by decide) rfl ?_
                refine G.aload_n C 4 dX3_readOrder_68 rfl rfl ?_
                refine G.get (g := 1) (i := 0) C 6 none dX3_readOrder_69 (by decide) rfl rfl uX_X3 (by decide) uf_RX3_34 rfl rfl ?_
                refine G.iload C 3 dX3_readOrder_72 rfl ?_
                refine G.iload C 2 dX3_readOrder_74 rfl ?_
                have hin_76 : vp_in (nI (n - t - 1)) 6 := by
                  exact vp_in_nI (by omega) (by decide)
                refine G.iast (g := 8) (i := 0) (n := 6) C dX3_readOrder_76 (by decide) rfl hin_76 w_ast_8 ?_
                obtain ⟨x4_77, ex4_77⟩ : ∃ z : Int32, z = (nI (n - t - 1)) + (-1) := ⟨_, rfl⟩
                refine G.iinc (v := x4_77) (L1 := [(4, .int x4_77), (3, .int x3_67), (2, .int x2_40), (5, .int (nI (m / 6 ^ t % 6))), (0, .ref (w.2.2.2.1 1 0)), (1, .int (nI m))]) C 3 dX3_readOrder_77 rfl (by rw [ex4_77]; rfl) (by decide) rfl ?_
                refine G.goto (tgt := 25) C dX3_readOrder_80 (by decide) ?_
                refine G.sub (L1 := [(4, .int x4_77), (3, .int x3_67), (2, .int x2_40), (0, .ref (w.2.2.2.1 1 0)), (1, .int (nI m))]) [0, 1, 2, 4, 5] rfl ?_
                refine ih_25  (t + 1) (mkU u (m / 6 ^ t % 6)) _ _ _ _ ?_ ?_ ?_ ?_ ?_ ?_ ?_ ?_ ?_
                · omega
                · omega
                · exact rd_some hrd ⟨hd1, hok⟩
                · exact (mk_fin n (by omega) u hu2 _ hd1).2.1
                · exact hfr.up
                · intro i h1 h2
                  rw [nI_clamp (by omega)]
                  by_cases e : i = n - t - 1
                  · subst e
                    rw [wUp_eq]
                    unfold dg
                    rw [show n - 1 - (n - t - 1) = t by omega]
                  · rw [wUp_nk e]
                    exact hdig i (by omega) h2
                · rw [ex4_77, show n - (t + 1) = n - t - 1 by omega]
                  exact (Int32.sub_eq_add_neg _ _).symm
                · rw [ex3_67]
                  exact (mk_bits u (by have := pow_64 n (by omega); omega) _ hd6).2
                · rw [ex2_40, show (6 : Int32) = nI 6 from rfl, pk_div (by omega) (by decide) (by decide), Nat.div_div_eq_div_mul, ← Nat.pow_succ]
              · have b_53 := wb_1 e_53 c_56
                refine G.iconst (v := 0) C dX3_readOrder_59 (by decide) ?_
                subst hQ
                exact G.zret C hr (by rfl) dX3_readOrder_60 (by
                    refine ⟨hfr, Or.inr ⟨rfl, fun q => ?_⟩⟩
                    obtain ⟨m2, e, q⟩ := q
                    have e2 := nI_inj31 hm31 (by have := pow_31 n h6; have := q.2.1; omega) e
                    subst e2
                    exact ord_no h6 (show t + 1 ≤ n by omega) (rd_none hrd (fun z => absurd ((has_t (by have := pow_64 n (by omega); omega) hd6).mp b_53) (by rw [z.2]; decide))) q)
      refine cut_25 (n + 1) 0 0 _ _ _ _ ?_ ?_ ?_ ?_ ?_ ?_ ?_ ?_ ?_
      · omega
      · omega
      · rfl
      · exact Nat.pow_pos (by decide)
      · exact frG.rf
      · intro i h1 h2
        omega
      · rw [ex4_23, hn]
        rfl
      · rfl
      · rw [ex2_14, Nat.pow_zero, Nat.div_one]
    · have hn0 : n = 0 := by
        rw [hn, show (0 : Int32) = nI 0 from rfl, nI_eq (by omega) (by decide)] at c_8
        exact c_8
      refine G.iconst (v := 0) C dX3_readOrder_11 (by decide) ?_
      subst hQ
      exact G.zret C hr (by rfl) dX3_readOrder_12 (by
          refine ⟨frG.rf, Or.inr ⟨rfl, fun q => ?_⟩⟩
          obtain ⟨m2, e, q⟩ := q
          have := q.1
          omega)
