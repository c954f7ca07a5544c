set_option maxHeartbeats 4000000 in
set_option maxRecDepth 100000 in
theorem ok_X3_quarrelBy {w : wD} (hw : wOK w) (σ : wSt) (a b d : Int32) {n : Nat} {w9 : Nat → Nat → Nat → Nat} (hen : envC σ n w9) {u s t : Nat} {lo9 : Option Nat} (hu : a = nI u) (hu2 : u < 2 ^ n) (hs9 : d = nI s) (hsn : s < n) (hl9 : b = oI lo9) (hln : ∀ x, lo9 = some x → x < n) (ht : σ.1 10 (mkU u s) s = nI t) : MI w yX3_quarrelBy cX3_quarrelBy 5 (some .int) 2 45 [.ref (w.2.2.2.1 1 0), .int a, .int b, .int d] σ (fun r τ => σ = τ ∧ r = nI (wO w9 u lo9 s + t)) := by
  subst hu
  subst hs9
  subst hl9
  have hn := hen.1
  have h6 := hen.2.1
  have h7 : n < 7 := by omega
  have h64 := pow_64 n h7
  refine MI.of hw (by decide +kernel) (Nat.le_of_ble_eq_true rfl) (fun x C hr => ?_)
  suffices key : ∀ Q, Q = QI w x (fun r τ => σ = τ ∧ r = nI (wO w9 u lo9 s + t)) → G w x 5 Q 0 [(0, .ref (w.2.2.2.1 1 0)), (1, .int (nI u)), (2, .int (oI lo9)), (3, .int (nI s))] [] σ from key _ rfl
  intro Q hQ
  refine G.aload_n C 0 dX3_quarrelBy_0 rfl rfl ?_
  refine G.iload_n C 2 dX3_quarrelBy_1 rfl rfl ?_
  have hM_0 := ok_X3_hasState hw σ (oI lo9)
  refine G.callV C (g := 1) (i := 0) none hM_0 dX3_quarrelBy_2 (by decide) rfl rfl rfl uv_X3_hasState ul_RX3_55 rfl rfl (by decide) (Nat.le_of_ble_eq_true rfl) (fun r_2 τ_2 h_2 => ?_)
  obtain ⟨h_2, e_2⟩ := h_2; subst h_2
  refine G.if_eq (tgt := 32) C dX3_quarrelBy_5 (by decide) (fun c_5 => ?_) (fun c_5 => ?_)
  · have b_2 := wb_0 e_2 c_5
    refine G.iconst (v := 0) C dX3_quarrelBy_32 (by decide) ?_
    refine G.istore (L1 := [(4, .int 0), (0, .ref (w.2.2.2.1 1 0)), (1, .int (nI u)), (2, .int (oI lo9)), (3, .int (nI s))]) C dX3_quarrelBy_33 (by decide) rfl ?_
    refine G.iload C 0 dX3_quarrelBy_35 rfl ?_
    refine G.aload_n C 1 dX3_quarrelBy_37 rfl rfl ?_
    refine G.get (g := 1) (i := 0) C 7 none dX3_quarrelBy_38 (by decide) rfl rfl uX_X3 (by decide) uf_RX3_39 rfl rfl ?_
    refine G.iload_n C 2 dX3_quarrelBy_41 rfl rfl ?_
    refine G.iconst (v := 1) C dX3_quarrelBy_42 (by decide) ?_
    refine G.iload_n C 4 dX3_quarrelBy_43 rfl rfl ?_
    refine G.ishl C dX3_quarrelBy_44 ?_
    refine G.ior C dX3_quarrelBy_45 ?_
    have hin_46 : vp_in ((nI u) ||| (1 <<< ((nI s) &&& 31))) 64 := by
      rw [(mk_bits u (by omega) s (by omega)).2]
      exact vp_in_nI (by have := (mk_fin n h7 u hu2 s hsn).2.1; omega) (by decide)
    refine G.aald (g := 9) (i := 0) (n := 64) (f := fun q => w.2.2.2.1 10 q) C 4 dX3_quarrelBy_46 (by decide) rfl rfl rfl hin_46 ?_
    refine G.iload_n C 4 dX3_quarrelBy_47 rfl rfl ?_
    have hin_48 : vp_in (nI s) 6 := by
      exact vp_in_nI (by omega) (by decide)
    refine G.iald (g := 10) (i := (((nI u) ||| (1 <<< ((nI s) &&& 31))).toNatClampNeg)) (n := 6) C dX3_quarrelBy_48 (vp_lt hin_46) rfl hin_48 ?_
    refine G.iadd C dX3_quarrelBy_49 ?_
    subst hQ
    exact G.iret C hr dX3_quarrelBy_50 (by
        refine ⟨rfl, ?_⟩
        rw [(mk_bits u (by omega) s (by omega)).2, nI_clamp (by have := (mk_fin n h7 u hu2 s hsn).2.1; omega), nI_clamp (show s < 2 ^ 31 by omega), ht]
        cases lo9 with
        | none => show 0 + nI t = nI (0 + t); rw [Int32.zero_add, Nat.zero_add]
        | some y => exact absurd ⟨nI_pos' (by have := hln y rfl; omega), by rw [hn]; exact nI_lt (hln y rfl) (by omega)⟩ b_2)
  · have b_2 := wb_1 e_2 c_5
    obtain ⟨y9, rfl⟩ := oI_in b_2
    have hy9 := hln y9 rfl
    refine G.aload_n C 0 dX3_quarrelBy_8 rfl rfl ?_
    refine G.aload_n C 0 dX3_quarrelBy_9 rfl rfl ?_
    refine G.iload_n C 1 dX3_quarrelBy_10 rfl rfl ?_
    have hM_1 := ok_X3_linesOf hw σ (nI u) hn h6
    refine G.callV C (g := 1) (i := 0) none hM_1 dX3_quarrelBy_11 (by decide) rfl rfl rfl uv_X3_linesOf ul_RX3_78 rfl rfl (by decide) (Nat.le_of_ble_eq_true rfl) (fun r_11 τ_11 h_11 => ?_)
    obtain ⟨h_11, e_11⟩ := h_11; subst h_11
    refine G.aload_n C 0 dX3_quarrelBy_14 rfl rfl ?_
    refine G.get (g := 1) (i := 0) C 3 none dX3_quarrelBy_15 (by decide) rfl rfl uX_X3 (by decide) uf_RX3_21 rfl rfl ?_
    refine G.iload_n C 2 dX3_quarrelBy_18 rfl rfl ?_
    have hin_19 : vp_in (oI (some y9)) 6 := by
      show vp_in (nI y9) 6
      exact vp_in_nI (by omega) (by decide)
    refine G.iald (g := 6) (i := 0) (n := 6) C dX3_quarrelBy_19 (by decide) rfl hin_19 ?_
    refine G.aload_n C 0 dX3_quarrelBy_20 rfl rfl ?_
    refine G.get (g := 1) (i := 0) C 3 none dX3_quarrelBy_21 (by decide) rfl rfl uX_X3 (by decide) uf_RX3_21 rfl rfl ?_
    refine G.iload_n C 3 dX3_quarrelBy_24 rfl rfl ?_
    have hin_25 : vp_in (nI s) 6 := by
      exact vp_in_nI (by omega) (by decide)
    refine G.iald (g := 6) (i := 0) (n := 6) C dX3_quarrelBy_25 (by decide) rfl hin_25 ?_
    have hM_2 := ok_X3_stepQuarrel hw σ r_11 (σ.1 6 0 (oI (some y9)).toNatClampNeg) (σ.1 6 0 (nI s).toNatClampNeg) (hen.2.2.1 _ (by show (nI y9).toNatClampNeg < n; rw [nI_clamp (show y9 < 2 ^ 31 by omega)]; exact hy9)) (hen.2.2.1 _ (by rw [nI_clamp (show s < 2 ^ 31 by omega)]; omega))
    refine G.callV C (g := 1) (i := 0) none hM_2 dX3_quarrelBy_26 (by decide) rfl rfl rfl uv_X3_stepQuarrel ul_RX3_51 rfl rfl (by decide) (Nat.le_of_ble_eq_true rfl) (fun r_26 τ_26 h_26 => ?_)
    obtain ⟨h_26, e_26⟩ := h_26; subst h_26
    refine G.goto (tgt := 33) C dX3_quarrelBy_29 (by decide) ?_
    refine G.istore (L1 := [(4, .int r_26), (0, .ref (w.2.2.2.1 1 0)), (1, .int (nI u)), (2, .int (oI (some y9))), (3, .int (nI s))]) C dX3_quarrelBy_33 (by decide) rfl ?_
    refine G.iload C 0 dX3_quarrelBy_35 rfl ?_
    refine G.aload_n C 1 dX3_quarrelBy_37 rfl rfl ?_
    refine G.get (g := 1) (i := 0) C 7 none dX3_quarrelBy_38 (by decide) rfl rfl uX_X3 (by decide) uf_RX3_39 rfl rfl ?_
    refine G.iload_n C 2 dX3_quarrelBy_41 rfl rfl ?_
    refine G.iconst (v := 1) C dX3_quarrelBy_42 (by decide) ?_
    refine G.iload_n C 4 dX3_quarrelBy_43 rfl rfl ?_
    refine G.ishl C dX3_quarrelBy_44 ?_
    refine G.ior C dX3_quarrelBy_45 ?_
    have hin_46 : vp_in ((nI u) ||| (1 <<< ((nI s) &&& 31))) 64 := by
      rw [(mk_bits u (by omega) s (by omega)).2]
      exact vp_in_nI (by have := (mk_fin n h7 u hu2 s hsn).2.1; omega) (by decide)
    refine G.aald (g := 9) (i := 0) (n := 64) (f := fun q => w.2.2.2.1 10 q) C 4 dX3_quarrelBy_46 (by decide) rfl rfl rfl hin_46 ?_
    refine G.iload_n C 4 dX3_quarrelBy_47 rfl rfl ?_
    have hin_48 : vp_in (nI s) 6 := by
      exact vp_in_nI (by omega) (by decide)
    refine G.iald (g := 10) (i := (((nI u) ||| (1 <<< ((nI s) &&& 31))).toNatClampNeg)) (n := 6) C dX3_quarrelBy_48 (vp_lt hin_46) rfl hin_48 ?_
    refine G.iadd C dX3_quarrelBy_49 ?_
    subst hQ
    exact G.iret C hr dX3_quarrelBy_50 (by
        refine ⟨rfl, ?_⟩
        rw [(mk_bits u (by omega) s (by omega)).2, nI_clamp (show mkU u s < 2 ^ 31 by have := (mk_fin n h7 u hu2 s hsn).2.1; omega), nI_clamp (show s < 2 ^ 31 by omega), ht, e_26, e_11]
        show stepF _ _ _ _ (σ.1 6 0 (nI y9).toNatClampNeg) _ + _ = _
        rw [nI_clamp (show y9 < 2 ^ 31 by omega), nI_clamp (show s < 2 ^ 31 by omega), (hen.2.2.2 u y9 s hu2 hy9 hsn).1, nI_add]
        rfl)
set_option maxHeartbeats 4000000 in
set_option maxRecDepth 100000 in
theorem ok_X3_bestNext {w : wD} (hw : wOK w) (σ : wSt) (a b : Int32) {n : Nat} {w9 : Nat → Nat → Nat → Nat} (hen : envC σ n w9) {u : Nat} {t : Nat → Nat} {lo9 : Option Nat} (hu : a = nI u) (hu2 : u < 2 ^ n) (hl9 : b = oI lo9) (hln : ∀ x, lo9 = some x → x < n) (htt : ∀ s, s < n → okU u s = true → σ.1 10 (mkU u s) s = nI (t s)) (hbd : ∀ s, s < n → wO w9 u lo9 s + t s < 1000000) : MI w yX3_bestNext cX3_bestNext 7 (some .int) 3 69 [.ref (w.2.2.2.1 1 0), .int a, .int b] σ (fun r τ => σ = τ ∧ r = oI (fbU (okU u) (fun s => wO w9 u lo9 s + t s) n)) := by
  subst hu
  subst hl9
  have hn := hen.1
  have h6 := hen.2.1
  have h7 : n < 7 := by omega
  have h64 := pow_64 n h7
  refine MI.of hw (by decide +kernel) (Nat.le_of_ble_eq_true rfl) (fun x C hr => ?_)
  suffices key : ∀ Q, Q = QI w x (fun r τ => σ = τ ∧ r = oI (fbU (okU u) (fun s => wO w9 u lo9 s + t s) n)) → G w x 7 Q 0 [(0, .ref (w.2.2.2.1 1 0)), (1, .int (nI u)), (2, .int (oI lo9))] [] σ from key _ rfl
  intro Q hQ
  refine G.bipush (v := -9) C dX3_bestNext_0 (by decide) ?_
  refine G.istore_n (L1 := [(3, .int (-9)), (0, .ref (w.2.2.2.1 1 0)), (1, .int (nI u)), (2, .int (oI lo9))]) C dX3_bestNext_2 rfl (by decide) rfl ?_
  refine G.iconst (v := 0) C dX3_bestNext_3 (by decide) ?_
  refine G.istore (L1 := [(4, .int 0), (3, .int (-9)), (0, .ref (w.2.2.2.1 1 0)), (1, .int (nI u)), (2, .int (oI lo9))]) C dX3_bestNext_4 (by decide) rfl ?_
  refine G.iconst (v := 0) C dX3_bestNext_6 (by decide) ?_
  refine G.istore (L1 := [(5, .int 0), (4, .int 0), (3, .int (-9)), (0, .ref (w.2.2.2.1 1 0)), (1, .int (nI u)), (2, .int (oI lo9))]) C dX3_bestNext_7 (by decide) rfl ?_
  have cut_9 : ∀ (m9 : Nat) (j : Nat) (x5 x4 x3 : Int32), j ≤ n → n < j + m9 → x5 = nI j → x4 = oQ (fun s => wO w9 u lo9 s + t s) (fbU (okU u) (fun s => wO w9 u lo9 s + t s) j) → x3 = oI (fbU (okU u) (fun s => wO w9 u lo9 s + t s) j) → G w x 7 Q 9 [(5, .int x5), (4, .int x4), (3, .int x3), (0, .ref (w.2.2.2.1 1 0)), (1, .int (nI u)), (2, .int (oI lo9))] [] σ := by
    intro m9
    induction m9 with
    | zero =>
      intro j x5 x4 x3 hj hm hx5 hx4 hx3
      exfalso
      omega
    | succ m9 ih_9 =>
      intro j x5 x4 x3 hj hm hx5 hx4 hx3
      subst hx5
      subst hx4
      subst hx3
      refine G.iload C 0 dX3_bestNext_9 rfl ?_
      refine G.aload_n C 3 dX3_bestNext_11 rfl rfl ?_
      refine G.get (g := 1) (i := 0) C 5 none dX3_bestNext_12 (by decide) rfl rfl uX_X3 (by decide) uf_RX3_31 rfl rfl ?_
      refine G.icmp_ge (tgt := 63) C dX3_bestNext_15 (by decide) (fun c_15 => ?_) (fun c_15 => ?_)
      · have hjn : j = n := by
          rw [hn, nI_leI (by omega) (by omega)] at c_15; omega
        refine G.iload_n C 2 dX3_bestNext_63 rfl rfl ?_
        subst hQ
        exact G.iret C hr dX3_bestNext_64 (by
            rw [hjn]
            exact ⟨rfl, rfl⟩)
      · have hjn : j < n := by
          rw [hn, nI_leI (by omega) (by omega)] at c_15; omega
        refine G.iload_n C 4 dX3_bestNext_18 rfl rfl ?_
        refine G.iload C 0 dX3_bestNext_19 rfl ?_
        have hM_0 := ok_X5_has hw σ (nI u) (nI j)
        refine G.callS C (some "PlateRoom") hM_0 dX3_bestNext_21 us_X5_has unm_RX3_58 rfl rfl (by decide) (Nat.le_of_ble_eq_true rfl) (fun r_21 τ_21 h_21 => ?_)
        obtain ⟨h_21, e_21⟩ := h_21; subst h_21
        refine G.if_ne (tgt := 57) C dX3_bestNext_24 (by decide) (fun c_24 => ?_) (fun c_24 => ?_)
        · have b_21 := wb_1 e_21 c_24
          have hok : okU u j = false := (has_t (by omega) (by omega)).mp b_21
          obtain ⟨x5_57, ex5_57⟩ : ∃ z : Int32, z = (nI j) + 1 := ⟨_, rfl⟩
          refine G.iinc (v := x5_57) (L1 := [(5, .int x5_57), (4, .int (oQ (fun s => wO w9 u lo9 s + t s) (fbU (okU u) (fun s => wO w9 u lo9 s + t s) j))), (3, .int (oI (fbU (okU u) (fun s => wO w9 u lo9 s + t s) j))), (0, .ref (w.2.2.2.1 1 0)), (1, .int (nI u)), (2, .int (oI lo9))]) C 0 dX3_bestNext_57 rfl (by rw [ex5_57]; rfl) (by decide) rfl ?_
          refine G.goto (tgt := 9) C dX3_bestNext_60 (by decide) ?_
          refine ih_9  (j + 1) _ _ _ ?_ ?_ ?_ ?_ ?_
          · omega
          · omega
          · rw [ex5_57]; exact nI_1 j
          · rw [fb_skip hok]
            try rfl
          · rw [fb_skip hok]
            try rfl
        · have b_21 := wb_0 e_21 c_24
          have hok : okU u j = true := by
            cases hq : okU u j with
            | true => rfl
            | false => exact absurd ((has_t (by omega) (by omega)).mpr hq) b_21
          refine G.aload_n C 3 dX3_bestNext_27 rfl rfl ?_
          refine G.iload_n C 4 dX3_bestNext_28 rfl rfl ?_
          refine G.iload_n C 5 dX3_bestNext_29 rfl rfl ?_
          refine G.iload C 0 dX3_bestNext_30 rfl ?_
          have hM_1 := ok_X3_quarrelBy hw σ (nI u) (oI lo9) (nI j) hen rfl hu2 rfl hjn rfl hln (htt j hjn hok)
          refine G.callV C (g := 1) (i := 0) none hM_1 dX3_bestNext_32 (by decide) rfl rfl rfl uv_X3_quarrelBy ul_RX3_75 rfl rfl (by decide) (Nat.le_of_ble_eq_true rfl) (fun r_32 τ_32 h_32 => ?_)
          obtain ⟨h_32, e_32⟩ := h_32; subst h_32
          refine G.istore (L1 := [(6, .int r_32), (5, .int (nI j)), (4, .int (oQ (fun s => wO w9 u lo9 s + t s) (fbU (okU u) (fun s => wO w9 u lo9 s + t s) j))), (3, .int (oI (fbU (okU u) (fun s => wO w9 u lo9 s + t s) j))), (0, .ref (w.2.2.2.1 1 0)), (1, .int (nI u)), (2, .int (oI lo9))]) C dX3_bestNext_35 (by decide) rfl ?_
          refine G.iload_n C 3 dX3_bestNext_37 rfl rfl ?_
          refine G.bipush (v := -9) C dX3_bestNext_38 (by decide) ?_
          refine G.icmp_eq (tgt := 50) C dX3_bestNext_40 (by decide) (fun c_40 => ?_) (fun c_40 => ?_)
          · refine G.iload C 1 dX3_bestNext_50 rfl ?_
            refine G.topi (fun x3_52 ex3_52 => ?_)
            refine G.istore_n (L1 := [(3, .int x3_52), (6, .int r_32), (5, .int (nI j)), (4, .int (oQ (fun s => wO w9 u lo9 s + t s) (fbU (okU u) (fun s => wO w9 u lo9 s + t s) j))), (0, .ref (w.2.2.2.1 1 0)), (1, .int (nI u)), (2, .int (oI lo9))]) C dX3_bestNext_52 rfl (by decide) rfl ?_
            refine G.iload C 1 dX3_bestNext_53 rfl ?_
            refine G.istore (L1 := [(4, .int r_32), (3, .int x3_52), (6, .int r_32), (5, .int (nI j)), (0, .ref (w.2.2.2.1 1 0)), (1, .int (nI u)), (2, .int (oI lo9))]) C dX3_bestNext_55 (by decide) rfl ?_
            obtain ⟨x5_57, ex5_57⟩ : ∃ z : Int32, z = (nI j) + 1 := ⟨_, rfl⟩
            refine G.iinc (v := x5_57) (L1 := [(5, .int x5_57), (4, .int r_32), (3, .int x3_52), (6, .int r_32), (0, .ref (w.2.2.2.1 1 0)), (1, .int (nI u)), (2, .int (oI lo9))]) C 3 dX3_bestNext_57 rfl (by rw [ex5_57]; rfl) (by decide) rfl ?_
            refine G.goto (tgt := 9) C dX3_bestNext_60 (by decide) ?_
            refine G.sub (L1 := [(5, .int x5_57), (4, .int r_32), (3, .int x3_52), (0, .ref (w.2.2.2.1 1 0)), (1, .int (nI u)), (2, .int (oI lo9))]) [0, 1, 2, 4, 5, 6] rfl ?_
            refine ih_9  (j + 1) _ _ _ ?_ ?_ ?_ ?_ ?_
            · omega
            · omega
            · rw [ex5_57]; exact nI_1 j
            · rw [fb_new hok (oI_none (fun b9 hb9 => by have := (fb_some j b9 hb9).1; omega) c_40)]
              exact e_32
            · rw [fb_new hok (oI_none (fun b9 hb9 => by have := (fb_some j b9 hb9).1; omega) c_40)]
              exact ex3_52
          · refine G.iload C 0 dX3_bestNext_43 rfl ?_
            refine G.iload C 2 dX3_bestNext_45 rfl ?_
            refine G.icmp_ge (tgt := 57) C dX3_bestNext_47 (by decide) (fun c_47 => ?_) (fun c_47 => ?_)
            · obtain ⟨x5_57, ex5_57⟩ : ∃ z : Int32, z = (nI j) + 1 := ⟨_, rfl⟩
              refine G.iinc (v := x5_57) (L1 := [(5, .int x5_57), (6, .int r_32), (4, .int (oQ (fun s => wO w9 u lo9 s + t s) (fbU (okU u) (fun s => wO w9 u lo9 s + t s) j))), (3, .int (oI (fbU (okU u) (fun s => wO w9 u lo9 s + t s) j))), (0, .ref (w.2.2.2.1 1 0)), (1, .int (nI u)), (2, .int (oI lo9))]) C 1 dX3_bestNext_57 rfl (by rw [ex5_57]; rfl) (by decide) rfl ?_
              refine G.goto (tgt := 9) C dX3_bestNext_60 (by decide) ?_
              refine G.sub (L1 := [(5, .int x5_57), (4, .int (oQ (fun s => wO w9 u lo9 s + t s) (fbU (okU u) (fun s => wO w9 u lo9 s + t s) j))), (3, .int (oI (fbU (okU u) (fun s => wO w9 u lo9 s + t s) j))), (0, .ref (w.2.2.2.1 1 0)), (1, .int (nI u)), (2, .int (oI lo9))]) [0, 2, 3, 4, 5, 6] rfl ?_
              refine ih_9  (j + 1) _ _ _ ?_ ?_ ?_ ?_ ?_
              · omega
              · omega
              · rw [ex5_57]; exact nI_1 j
              · obtain ⟨d9, hd9⟩ := oI_some c_40
                have hdn := (fb_some j d9 hd9).1
                rw [hd9, e_32] at c_47
                have hq1 := hbd j hjn
                have hq2 := hbd d9 (by omega)
                have hcq : nI (wO w9 u lo9 d9 + t d9) ≤ nI (wO w9 u lo9 j + t j) ↔ _ := nI_leI (by omega) (by omega)
                rw [fb_keep hok hd9 (fun z => by have := hcq.mp c_47; omega)]
                rw [hd9]
              · obtain ⟨d9, hd9⟩ := oI_some c_40
                have hdn := (fb_some j d9 hd9).1
                rw [hd9, e_32] at c_47
                have hq1 := hbd j hjn
                have hq2 := hbd d9 (by omega)
                have hcq : nI (wO w9 u lo9 d9 + t d9) ≤ nI (wO w9 u lo9 j + t j) ↔ _ := nI_leI (by omega) (by omega)
                rw [fb_keep hok hd9 (fun z => by have := hcq.mp c_47; omega)]
                rw [hd9]
            · refine G.iload C 1 dX3_bestNext_50 rfl ?_
              refine G.topi (fun x3_52 ex3_52 => ?_)
              refine G.istore_n (L1 := [(3, .int x3_52), (6, .int r_32), (5, .int (nI j)), (4, .int (oQ (fun s => wO w9 u lo9 s + t s) (fbU (okU u) (fun s => wO w9 u lo9 s + t s) j))), (0, .ref (w.2.2.2.1 1 0)), (1, .int (nI u)), (2, .int (oI lo9))]) C dX3_bestNext_52 rfl (by decide) rfl ?_
              refine G.iload C 1 dX3_bestNext_53 rfl ?_
              refine G.istore (L1 := [(4, .int r_32), (3, .int x3_52), (6, .int r_32), (5, .int (nI j)), (0, .ref (w.2.2.2.1 1 0)), (1, .int (nI u)), (2, .int (oI lo9))]) C dX3_bestNext_55 (by decide) rfl ?_
              obtain ⟨x5_57, ex5_57⟩ : ∃ z : Int32, z = (nI j) + 1 := ⟨_, rfl⟩
              refine G.iinc (v := x5_57) (L1 := [(5, .int x5_57), (4, .int r_32), (3, .int x3_52), (6, .int r_32), (0, .ref (w.2.2.2.1 1 0)), (1, .int (nI u)), (2, .int (oI lo9))]) C 3 dX3_bestNext_57 rfl (by rw [ex5_57]; rfl) (by decide) rfl ?_
              refine G.goto (tgt := 9) C dX3_bestNext_60 (by decide) ?_
              refine G.sub (L1 := [(5, .int x5_57), (4, .int r_32), (3, .int x3_52), (0, .ref (w.2.2.2.1 1 0)), (1, .int (nI u)), (2, .int (oI lo9))]) [0, 1, 2, 4, 5, 6] rfl ?_
              refine ih_9  (j + 1) _ _ _ ?_ ?_ ?_ ?_ ?_
              · omega
              · omega
              · rw [ex5_57]; exact nI_1 j
              · obtain ⟨d9, hd9⟩ := oI_some c_40
                have hdn := (fb_some j d9 hd9).1
                rw [hd9, e_32] at c_47
                have hq1 := hbd j hjn
                have hq2 := hbd d9 (by omega)
                have hcq : nI (wO w9 u lo9 d9 + t d9) ≤ nI (wO w9 u lo9 j + t j) ↔ _ := nI_leI (by omega) (by omega)
                rw [fb_take hok hd9 (Nat.not_le.mp (fun z => c_47 (hcq.mpr z)))]
                exact e_32
              · obtain ⟨d9, hd9⟩ := oI_some c_40
                have hdn := (fb_some j d9 hd9).1
                rw [hd9, e_32] at c_47
                have hq1 := hbd j hjn
                have hq2 := hbd d9 (by omega)
                have hcq : nI (wO w9 u lo9 d9 + t d9) ≤ nI (wO w9 u lo9 j + t j) ↔ _ := nI_leI (by omega) (by omega)
                rw [fb_take hok hd9 (Nat.not_le.mp (fun z => c_47 (hcq.mpr z)))]
                exact ex3_52
  refine cut_9 (n + 1) 0 _ _ _ ?_ ?_ ?_ ?_ ?_
  · omega
  · omega
  · rfl
  · rfl
  · rfl
