set_option maxHeartbeats 4000000 in
set_option maxRecDepth 100000 in
theorem ok_X5_has {w : wD} (hw : wOK w) (σ : wSt) (a b : Int32)  : MI w yX5_has cX5_has 2 (some .boolean) 0 0 [.int a, .int b] σ (fun r τ => σ = τ ∧ r = wb ((a >>> (b &&& 31)) &&& 1 = 1)) := by
  refine MI.of hw (by decide +kernel) (Nat.le_of_ble_eq_true rfl) (fun x C hr => ?_)
  suffices key : ∀ Q, Q = QI w x (fun r τ => σ = τ ∧ r = wb ((a >>> (b &&& 31)) &&& 1 = 1)) → G w x 2 Q 0 [(0, .int a), (1, .int b)] [] σ from key _ rfl
  intro Q hQ
  refine G.iload_n C 0 dX5_has_0 rfl rfl ?_
  refine G.iload_n C 1 dX5_has_1 rfl rfl ?_
  refine G.ishr C dX5_has_2 ?_
  refine G.iconst (v := 1) C dX5_has_3 (by decide) ?_
  refine G.iand C dX5_has_4 ?_
  refine G.iconst (v := 1) C dX5_has_5 (by decide) ?_
  refine G.icmp_ne (tgt := 13) C dX5_has_6 (by decide) (fun c_6 => ?_) (fun c_6 => ?_)
  · refine G.iconst (v := 0) C dX5_has_13 (by decide) ?_
    subst hQ
    exact G.zret C hr (by rfl) dX5_has_14 (by
        first | exact ⟨rfl, (wb_t (by simp_all [Int32.not_lt, Int32.not_le])).symm⟩ | exact ⟨rfl, (wb_f (by first | (simp_all [Int32.not_lt, Int32.not_le]; done) | (simp only [Int32.lt_iff_toInt_lt, Int32.le_iff_toInt_le, Int32.not_lt, Int32.not_le, ← Int32.toInt_inj, Int32.reduceToInt] at *; omega))).symm⟩)
  · refine G.iconst (v := 1) C dX5_has_9 (by decide) ?_
    refine G.goto (tgt := 14) C dX5_has_10 (by decide) ?_
    subst hQ
    exact G.zret C hr (by rfl) dX5_has_14 (by
        first | exact ⟨rfl, (wb_t (by simp_all [Int32.not_lt, Int32.not_le])).symm⟩ | exact ⟨rfl, (wb_f (by first | (simp_all [Int32.not_lt, Int32.not_le]; done) | (simp only [Int32.lt_iff_toInt_lt, Int32.le_iff_toInt_le, Int32.not_lt, Int32.not_le, ← Int32.toInt_inj, Int32.reduceToInt] at *; omega))).symm⟩)
set_option maxHeartbeats 4000000 in
set_option maxRecDepth 100000 in
theorem ok_X5_areLines {w : wD} (hw : wOK w) (σ : wSt) (a : Int32)  : MI w yX5_areLines cX5_areLines 1 (some .boolean) 0 0 [.int a] σ (fun r τ => σ = τ ∧ r = wb (0 ≤ a ∧ a ≤ 4095)) := by
  refine MI.of hw (by decide +kernel) (Nat.le_of_ble_eq_true rfl) (fun x C hr => ?_)
  suffices key : ∀ Q, Q = QI w x (fun r τ => σ = τ ∧ r = wb (0 ≤ a ∧ a ≤ 4095)) → G w x 1 Q 0 [(0, .int a)] [] σ from key _ rfl
  intro Q hQ
  refine G.iload_n C 0 dX5_areLines_0 rfl rfl ?_
  refine G.if_lt (tgt := 15) C dX5_areLines_1 (by decide) (fun c_1 => ?_) (fun c_1 => ?_)
  · refine G.iconst (v := 0) C dX5_areLines_15 (by decide) ?_
    subst hQ
    exact G.zret C hr (by rfl) dX5_areLines_16 (by
        first | exact ⟨rfl, (wb_t (by simp_all [Int32.not_lt, Int32.not_le])).symm⟩ | exact ⟨rfl, (wb_f (by first | (simp_all [Int32.not_lt, Int32.not_le]; done) | (simp only [Int32.lt_iff_toInt_lt, Int32.le_iff_toInt_le, Int32.not_lt, Int32.not_le, ← Int32.toInt_inj, Int32.reduceToInt] at *; omega))).symm⟩)
  · refine G.iload_n C 0 dX5_areLines_4 rfl rfl ?_
    refine G.sipush (v := 4095) C dX5_areLines_5 (by decide) ?_
    refine G.icmp_gt (tgt := 15) C dX5_areLines_8 (by decide) (fun c_8 => ?_) (fun c_8 => ?_)
    · refine G.iconst (v := 0) C dX5_areLines_15 (by decide) ?_
      subst hQ
      exact G.zret C hr (by rfl) dX5_areLines_16 (by
          first | exact ⟨rfl, (wb_t (by simp_all [Int32.not_lt, Int32.not_le])).symm⟩ | exact ⟨rfl, (wb_f (by first | (simp_all [Int32.not_lt, Int32.not_le]; done) | (simp only [Int32.lt_iff_toInt_lt, Int32.le_iff_toInt_le, Int32.not_lt, Int32.not_le, ← Int32.toInt_inj, Int32.reduceToInt] at *; omega))).symm⟩)
    · refine G.iconst (v := 1) C dX5_areLines_11 (by decide) ?_
      refine G.goto (tgt := 16) C dX5_areLines_12 (by decide) ?_
      subst hQ
      exact G.zret C hr (by rfl) dX5_areLines_16 (by
          first | exact ⟨rfl, (wb_t (by simp_all [Int32.not_lt, Int32.not_le])).symm⟩ | exact ⟨rfl, (wb_f (by first | (simp_all [Int32.not_lt, Int32.not_le]; done) | (simp only [Int32.lt_iff_toInt_lt, Int32.le_iff_toInt_le, Int32.not_lt, Int32.not_le, ← Int32.toInt_inj, Int32.reduceToInt] at *; omega))).symm⟩)
set_option maxHeartbeats 4000000 in
set_option maxRecDepth 100000 in
theorem ok_X5_isLine {w : wD} (hw : wOK w) (σ : wSt) (a : Int32)  : MI w yX5_isLine cX5_isLine 1 (some .boolean) 0 0 [.int a] σ (fun r τ => σ = τ ∧ r = wb (0 ≤ a ∧ a < 12)) := by
  refine MI.of hw (by decide +kernel) (Nat.le_of_ble_eq_true rfl) (fun x C hr => ?_)
  suffices key : ∀ Q, Q = QI w x (fun r τ => σ = τ ∧ r = wb (0 ≤ a ∧ a < 12)) → G w x 1 Q 0 [(0, .int a)] [] σ from key _ rfl
  intro Q hQ
  refine G.iload_n C 0 dX5_isLine_0 rfl rfl ?_
  refine G.if_lt (tgt := 14) C dX5_isLine_1 (by decide) (fun c_1 => ?_) (fun c_1 => ?_)
  · refine G.iconst (v := 0) C dX5_isLine_14 (by decide) ?_
    subst hQ
    exact G.zret C hr (by rfl) dX5_isLine_15 (by
        first | exact ⟨rfl, (wb_t (by simp_all [Int32.not_lt, Int32.not_le])).symm⟩ | exact ⟨rfl, (wb_f (by first | (simp_all [Int32.not_lt, Int32.not_le]; done) | (simp only [Int32.lt_iff_toInt_lt, Int32.le_iff_toInt_le, Int32.not_lt, Int32.not_le, ← Int32.toInt_inj, Int32.reduceToInt] at *; omega))).symm⟩)
  · refine G.iload_n C 0 dX5_isLine_4 rfl rfl ?_
    refine G.bipush (v := 12) C dX5_isLine_5 (by decide) ?_
    refine G.icmp_ge (tgt := 14) C dX5_isLine_7 (by decide) (fun c_7 => ?_) (fun c_7 => ?_)
    · refine G.iconst (v := 0) C dX5_isLine_14 (by decide) ?_
      subst hQ
      exact G.zret C hr (by rfl) dX5_isLine_15 (by
          first | exact ⟨rfl, (wb_t (by simp_all [Int32.not_lt, Int32.not_le])).symm⟩ | exact ⟨rfl, (wb_f (by first | (simp_all [Int32.not_lt, Int32.not_le]; done) | (simp only [Int32.lt_iff_toInt_lt, Int32.le_iff_toInt_le, Int32.not_lt, Int32.not_le, ← Int32.toInt_inj, Int32.reduceToInt] at *; omega))).symm⟩)
    · refine G.iconst (v := 1) C dX5_isLine_10 (by decide) ?_
      refine G.goto (tgt := 15) C dX5_isLine_11 (by decide) ?_
      subst hQ
      exact G.zret C hr (by rfl) dX5_isLine_15 (by
          first | exact ⟨rfl, (wb_t (by simp_all [Int32.not_lt, Int32.not_le])).symm⟩ | exact ⟨rfl, (wb_f (by first | (simp_all [Int32.not_lt, Int32.not_le]; done) | (simp only [Int32.lt_iff_toInt_lt, Int32.le_iff_toInt_le, Int32.not_lt, Int32.not_le, ← Int32.toInt_inj, Int32.reduceToInt] at *; omega))).symm⟩)
set_option maxHeartbeats 4000000 in
set_option maxRecDepth 100000 in
theorem ok_X5_isYear {w : wD} (hw : wOK w) (σ : wSt) (a : Int32)  : MI w yX5_isYear cX5_isYear 1 (some .boolean) 0 0 [.int a] σ (fun r τ => σ = τ ∧ r = wb (1500 ≤ a ∧ a ≤ 1900)) := by
  refine MI.of hw (by decide +kernel) (Nat.le_of_ble_eq_true rfl) (fun x C hr => ?_)
  suffices key : ∀ Q, Q = QI w x (fun r τ => σ = τ ∧ r = wb (1500 ≤ a ∧ a ≤ 1900)) → G w x 1 Q 0 [(0, .int a)] [] σ from key _ rfl
  intro Q hQ
  refine G.iload_n C 0 dX5_isYear_0 rfl rfl ?_
  refine G.sipush (v := 1500) C dX5_isYear_1 (by decide) ?_
  refine G.icmp_lt (tgt := 18) C dX5_isYear_4 (by decide) (fun c_4 => ?_) (fun c_4 => ?_)
  · refine G.iconst (v := 0) C dX5_isYear_18 (by decide) ?_
    subst hQ
    exact G.zret C hr (by rfl) dX5_isYear_19 (by
        first | exact ⟨rfl, (wb_t (by simp_all [Int32.not_lt, Int32.not_le])).symm⟩ | exact ⟨rfl, (wb_f (by first | (simp_all [Int32.not_lt, Int32.not_le]; done) | (simp only [Int32.lt_iff_toInt_lt, Int32.le_iff_toInt_le, Int32.not_lt, Int32.not_le, ← Int32.toInt_inj, Int32.reduceToInt] at *; omega))).symm⟩)
  · refine G.iload_n C 0 dX5_isYear_7 rfl rfl ?_
    refine G.sipush (v := 1900) C dX5_isYear_8 (by decide) ?_
    refine G.icmp_gt (tgt := 18) C dX5_isYear_11 (by decide) (fun c_11 => ?_) (fun c_11 => ?_)
    · refine G.iconst (v := 0) C dX5_isYear_18 (by decide) ?_
      subst hQ
      exact G.zret C hr (by rfl) dX5_isYear_19 (by
          first | exact ⟨rfl, (wb_t (by simp_all [Int32.not_lt, Int32.not_le])).symm⟩ | exact ⟨rfl, (wb_f (by first | (simp_all [Int32.not_lt, Int32.not_le]; done) | (simp only [Int32.lt_iff_toInt_lt, Int32.le_iff_toInt_le, Int32.not_lt, Int32.not_le, ← Int32.toInt_inj, Int32.reduceToInt] at *; omega))).symm⟩)
    · refine G.iconst (v := 1) C dX5_isYear_14 (by decide) ?_
      refine G.goto (tgt := 19) C dX5_isYear_15 (by decide) ?_
      subst hQ
      exact G.zret C hr (by rfl) dX5_isYear_19 (by
          first | exact ⟨rfl, (wb_t (by simp_all [Int32.not_lt, Int32.not_le])).symm⟩ | exact ⟨rfl, (wb_f (by first | (simp_all [Int32.not_lt, Int32.not_le]; done) | (simp only [Int32.lt_iff_toInt_lt, Int32.le_iff_toInt_le, Int32.not_lt, Int32.not_le, ← Int32.toInt_inj, Int32.reduceToInt] at *; omega))).symm⟩)
set_option maxHeartbeats 4000000 in
set_option maxRecDepth 100000 in
theorem ok_X5_isFirstOrSecond {w : wD} (hw : wOK w) (σ : wSt) (a : Int32)  : MI w yX5_isFirstOrSecond cX5_isFirstOrSecond 1 (some .boolean) 0 0 [.int a] σ (fun r τ => σ = τ ∧ r = wb (a = 0 ∨ a = 1)) := by
  refine MI.of hw (by decide +kernel) (Nat.le_of_ble_eq_true rfl) (fun x C hr => ?_)
  suffices key : ∀ Q, Q = QI w x (fun r τ => σ = τ ∧ r = wb (a = 0 ∨ a = 1)) → G w x 1 Q 0 [(0, .int a)] [] σ from key _ rfl
  intro Q hQ
  refine G.iload_n C 0 dX5_isFirstOrSecond_0 rfl rfl ?_
  refine G.if_eq (tgt := 9) C dX5_isFirstOrSecond_1 (by decide) (fun c_1 => ?_) (fun c_1 => ?_)
  · refine G.iconst (v := 1) C dX5_isFirstOrSecond_9 (by decide) ?_
    refine G.goto (tgt := 14) C dX5_isFirstOrSecond_10 (by decide) ?_
    subst hQ
    exact G.zret C hr (by rfl) dX5_isFirstOrSecond_14 (by
        first | exact ⟨rfl, (wb_t (by simp_all [Int32.not_lt, Int32.not_le])).symm⟩ | exact ⟨rfl, (wb_f (by first | (simp_all [Int32.not_lt, Int32.not_le]; done) | (simp only [Int32.lt_iff_toInt_lt, Int32.le_iff_toInt_le, Int32.not_lt, Int32.not_le, ← Int32.toInt_inj, Int32.reduceToInt] at *; omega))).symm⟩)
  · refine G.iload_n C 0 dX5_isFirstOrSecond_4 rfl rfl ?_
    refine G.iconst (v := 1) C dX5_isFirstOrSecond_5 (by decide) ?_
    refine G.icmp_ne (tgt := 13) C dX5_isFirstOrSecond_6 (by decide) (fun c_6 => ?_) (fun c_6 => ?_)
    · refine G.iconst (v := 0) C dX5_isFirstOrSecond_13 (by decide) ?_
      subst hQ
      exact G.zret C hr (by rfl) dX5_isFirstOrSecond_14 (by
          first | exact ⟨rfl, (wb_t (by simp_all [Int32.not_lt, Int32.not_le])).symm⟩ | exact ⟨rfl, (wb_f (by first | (simp_all [Int32.not_lt, Int32.not_le]; done) | (simp only [Int32.lt_iff_toInt_lt, Int32.le_iff_toInt_le, Int32.not_lt, Int32.not_le, ← Int32.toInt_inj, Int32.reduceToInt] at *; omega))).symm⟩)
    · refine G.iconst (v := 1) C dX5_isFirstOrSecond_9 (by decide) ?_
      refine G.goto (tgt := 14) C dX5_isFirstOrSecond_10 (by decide) ?_
      subst hQ
      exact G.zret C hr (by rfl) dX5_isFirstOrSecond_14 (by
          first | exact ⟨rfl, (wb_t (by simp_all [Int32.not_lt, Int32.not_le])).symm⟩ | exact ⟨rfl, (wb_f (by first | (simp_all [Int32.not_lt, Int32.not_le]; done) | (simp only [Int32.lt_iff_toInt_lt, Int32.le_iff_toInt_le, Int32.not_lt, Int32.not_le, ← Int32.toInt_inj, Int32.reduceToInt] at *; omega))).symm⟩)
set_option maxHeartbeats 4000000 in
set_option maxRecDepth 100000 in
theorem ok_X5_isBook {w : wD} (hw : wOK w) (σ : wSt) (a : Int32)  : MI w yX5_isBook cX5_isBook 1 (some .boolean) 0 0 [.int a] σ (fun r τ => σ = τ ∧ r = wb (0 ≤ a ∧ a < 4)) := by
  refine MI.of hw (by decide +kernel) (Nat.le_of_ble_eq_true rfl) (fun x C hr => ?_)
  suffices key : ∀ Q, Q = QI w x (fun r τ => σ = τ ∧ r = wb (0 ≤ a ∧ a < 4)) → G w x 1 Q 0 [(0, .int a)] [] σ from key _ rfl
  intro Q hQ
  refine G.iload_n C 0 dX5_isBook_0 rfl rfl ?_
  refine G.if_lt (tgt := 13) C dX5_isBook_1 (by decide) (fun c_1 => ?_) (fun c_1 => ?_)
  · refine G.iconst (v := 0) C dX5_isBook_13 (by decide) ?_
    subst hQ
    exact G.zret C hr (by rfl) dX5_isBook_14 (by
        first | exact ⟨rfl, (wb_t (by simp_all [Int32.not_lt, Int32.not_le])).symm⟩ | exact ⟨rfl, (wb_f (by first | (simp_all [Int32.not_lt, Int32.not_le]; done) | (simp only [Int32.lt_iff_toInt_lt, Int32.le_iff_toInt_le, Int32.not_lt, Int32.not_le, ← Int32.toInt_inj, Int32.reduceToInt] at *; omega))).symm⟩)
  · refine G.iload_n C 0 dX5_isBook_4 rfl rfl ?_
    refine G.iconst (v := 4) C dX5_isBook_5 (by decide) ?_
    refine G.icmp_ge (tgt := 13) C dX5_isBook_6 (by decide) (fun c_6 => ?_) (fun c_6 => ?_)
    · refine G.iconst (v := 0) C dX5_isBook_13 (by decide) ?_
      subst hQ
      exact G.zret C hr (by rfl) dX5_isBook_14 (by
          first | exact ⟨rfl, (wb_t (by simp_all [Int32.not_lt, Int32.not_le])).symm⟩ | exact ⟨rfl, (wb_f (by first | (simp_all [Int32.not_lt, Int32.not_le]; done) | (simp only [Int32.lt_iff_toInt_lt, Int32.le_iff_toInt_le, Int32.not_lt, Int32.not_le, ← Int32.toInt_inj, Int32.reduceToInt] at *; omega))).symm⟩)
    · refine G.iconst (v := 1) C dX5_isBook_9 (by decide) ?_
      refine G.goto (tgt := 14) C dX5_isBook_10 (by decide) ?_
      subst hQ
      exact G.zret C hr (by rfl) dX5_isBook_14 (by
          first | exact ⟨rfl, (wb_t (by simp_all [Int32.not_lt, Int32.not_le])).symm⟩ | exact ⟨rfl, (wb_f (by first | (simp_all [Int32.not_lt, Int32.not_le]; done) | (simp only [Int32.lt_iff_toInt_lt, Int32.le_iff_toInt_le, Int32.not_lt, Int32.not_le, ← Int32.toInt_inj, Int32.reduceToInt] at *; omega))).symm⟩)
set_option maxHeartbeats 4000000 in
set_option maxRecDepth 100000 in
theorem ok_X5_isLeaf {w : wD} (hw : wOK w) (σ : wSt) (a : Int32)  : MI w yX5_isLeaf cX5_isLeaf 2 (some .boolean) 0 0 [.ref (w.2.2.2.1 0 0), .int a] σ (fun r τ => σ = τ ∧ r = wb (0 ≤ a ∧ a < σ.1 0 0 3)) := by
  refine MI.of hw (by decide +kernel) (Nat.le_of_ble_eq_true rfl) (fun x C hr => ?_)
  suffices key : ∀ Q, Q = QI w x (fun r τ => σ = τ ∧ r = wb (0 ≤ a ∧ a < σ.1 0 0 3)) → G w x 2 Q 0 [(0, .ref (w.2.2.2.1 0 0)), (1, .int a)] [] σ from key _ rfl
  intro Q hQ
  refine G.iload_n C 1 dX5_isLeaf_0 rfl rfl ?_
  refine G.if_lt (tgt := 16) C dX5_isLeaf_1 (by decide) (fun c_1 => ?_) (fun c_1 => ?_)
  · refine G.iconst (v := 0) C dX5_isLeaf_16 (by decide) ?_
    subst hQ
    exact G.zret C hr (by rfl) dX5_isLeaf_17 (by
        first | exact ⟨rfl, (wb_t (by simp_all [Int32.not_lt, Int32.not_le])).symm⟩ | exact ⟨rfl, (wb_f (by first | (simp_all [Int32.not_lt, Int32.not_le]; done) | (simp only [Int32.lt_iff_toInt_lt, Int32.le_iff_toInt_le, Int32.not_lt, Int32.not_le, ← Int32.toInt_inj, Int32.reduceToInt] at *; omega))).symm⟩)
  · refine G.iload_n C 1 dX5_isLeaf_4 rfl rfl ?_
    refine G.aload_n C 0 dX5_isLeaf_5 rfl rfl ?_
    refine G.get (g := 0) (i := 0) C 3 none dX5_isLeaf_6 (by decide) rfl rfl uX_X5 (by decide) uf_RX5_29 rfl rfl ?_
    refine G.icmp_ge (tgt := 16) C dX5_isLeaf_9 (by decide) (fun c_9 => ?_) (fun c_9 => ?_)
    · refine G.iconst (v := 0) C dX5_isLeaf_16 (by decide) ?_
      subst hQ
      exact G.zret C hr (by rfl) dX5_isLeaf_17 (by
          first | exact ⟨rfl, (wb_t (by simp_all [Int32.not_lt, Int32.not_le])).symm⟩ | exact ⟨rfl, (wb_f (by first | (simp_all [Int32.not_lt, Int32.not_le]; done) | (simp only [Int32.lt_iff_toInt_lt, Int32.le_iff_toInt_le, Int32.not_lt, Int32.not_le, ← Int32.toInt_inj, Int32.reduceToInt] at *; omega))).symm⟩)
    · refine G.iconst (v := 1) C dX5_isLeaf_12 (by decide) ?_
      refine G.goto (tgt := 17) C dX5_isLeaf_13 (by decide) ?_
      subst hQ
      exact G.zret C hr (by rfl) dX5_isLeaf_17 (by
          first | exact ⟨rfl, (wb_t (by simp_all [Int32.not_lt, Int32.not_le])).symm⟩ | exact ⟨rfl, (wb_f (by first | (simp_all [Int32.not_lt, Int32.not_le]; done) | (simp only [Int32.lt_iff_toInt_lt, Int32.le_iff_toInt_le, Int32.not_lt, Int32.not_le, ← Int32.toInt_inj, Int32.reduceToInt] at *; omega))).symm⟩)
set_option maxHeartbeats 4000000 in
set_option maxRecDepth 100000 in
theorem ok_X5_isMould {w : wD} (hw : wOK w) (σ : wSt) (a : Int32)  : MI w yX5_isMould cX5_isMould 2 (some .boolean) 0 0 [.ref (w.2.2.2.1 0 0), .int a] σ (fun r τ => σ = τ ∧ r = wb (0 ≤ a ∧ a < σ.1 0 0 5)) := by
  refine MI.of hw (by decide +kernel) (Nat.le_of_ble_eq_true rfl) (fun x C hr => ?_)
  suffices key : ∀ Q, Q = QI w x (fun r τ => σ = τ ∧ r = wb (0 ≤ a ∧ a < σ.1 0 0 5)) → G w x 2 Q 0 [(0, .ref (w.2.2.2.1 0 0)), (1, .int a)] [] σ from key _ rfl
  intro Q hQ
  refine G.iload_n C 1 dX5_isMould_0 rfl rfl ?_
  refine G.if_lt (tgt := 16) C dX5_isMould_1 (by decide) (fun c_1 => ?_) (fun c_1 => ?_)
  · refine G.iconst (v := 0) C dX5_isMould_16 (by decide) ?_
    subst hQ
    exact G.zret C hr (by rfl) dX5_isMould_17 (by
        first | exact ⟨rfl, (wb_t (by simp_all [Int32.not_lt, Int32.not_le])).symm⟩ | exact ⟨rfl, (wb_f (by first | (simp_all [Int32.not_lt, Int32.not_le]; done) | (simp only [Int32.lt_iff_toInt_lt, Int32.le_iff_toInt_le, Int32.not_lt, Int32.not_le, ← Int32.toInt_inj, Int32.reduceToInt] at *; omega))).symm⟩)
  · refine G.iload_n C 1 dX5_isMould_4 rfl rfl ?_
    refine G.aload_n C 0 dX5_isMould_5 rfl rfl ?_
    refine G.get (g := 0) (i := 0) C 5 none dX5_isMould_6 (by decide) rfl rfl uX_X5 (by decide) uf_RX5_39 rfl rfl ?_
    refine G.icmp_ge (tgt := 16) C dX5_isMould_9 (by decide) (fun c_9 => ?_) (fun c_9 => ?_)
    · refine G.iconst (v := 0) C dX5_isMould_16 (by decide) ?_
      subst hQ
      exact G.zret C hr (by rfl) dX5_isMould_17 (by
          first | exact ⟨rfl, (wb_t (by simp_all [Int32.not_lt, Int32.not_le])).symm⟩ | exact ⟨rfl, (wb_f (by first | (simp_all [Int32.not_lt, Int32.not_le]; done) | (simp only [Int32.lt_iff_toInt_lt, Int32.le_iff_toInt_le, Int32.not_lt, Int32.not_le, ← Int32.toInt_inj, Int32.reduceToInt] at *; omega))).symm⟩)
    · refine G.iconst (v := 1) C dX5_isMould_12 (by decide) ?_
      refine G.goto (tgt := 17) C dX5_isMould_13 (by decide) ?_
      subst hQ
      exact G.zret C hr (by rfl) dX5_isMould_17 (by
          first | exact ⟨rfl, (wb_t (by simp_all [Int32.not_lt, Int32.not_le])).symm⟩ | exact ⟨rfl, (wb_f (by first | (simp_all [Int32.not_lt, Int32.not_le]; done) | (simp only [Int32.lt_iff_toInt_lt, Int32.le_iff_toInt_le, Int32.not_lt, Int32.not_le, ← Int32.toInt_inj, Int32.reduceToInt] at *; omega))).symm⟩)
set_option maxHeartbeats 4000000 in
set_option maxRecDepth 100000 in
theorem ok_X3_hasState {w : wD} (hw : wOK w) (σ : wSt) (a : Int32)  : MI w yX3_hasState cX3_hasState 2 (some .boolean) 0 0 [.ref (w.2.2.2.1 1 0), .int a] σ (fun r τ => σ = τ ∧ r = wb (0 ≤ a ∧ a < σ.1 1 0 5)) := by
  refine MI.of hw (by decide +kernel) (Nat.le_of_ble_eq_true rfl) (fun x C hr => ?_)
  suffices key : ∀ Q, Q = QI w x (fun r τ => σ = τ ∧ r = wb (0 ≤ a ∧ a < σ.1 1 0 5)) → G w x 2 Q 0 [(0, .ref (w.2.2.2.1 1 0)), (1, .int a)] [] σ from key _ rfl
  intro Q hQ
  refine G.iload_n C 1 dX3_hasState_0 rfl rfl ?_
  refine G.if_lt (tgt := 16) C dX3_hasState_1 (by decide) (fun c_1 => ?_) (fun c_1 => ?_)
  · refine G.iconst (v := 0) C dX3_hasState_16 (by decide) ?_
    subst hQ
    exact G.zret C hr (by rfl) dX3_hasState_17 (by
        first | exact ⟨rfl, (wb_t (by simp_all [Int32.not_lt, Int32.not_le])).symm⟩ | exact ⟨rfl, (wb_f (by first | (simp_all [Int32.not_lt, Int32.not_le]; done) | (simp only [Int32.lt_iff_toInt_lt, Int32.le_iff_toInt_le, Int32.not_lt, Int32.not_le, ← Int32.toInt_inj, Int32.reduceToInt] at *; omega))).symm⟩)
  · refine G.iload_n C 1 dX3_hasState_4 rfl rfl ?_
    refine G.aload_n C 0 dX3_hasState_5 rfl rfl ?_
    refine G.get (g := 1) (i := 0) C 5 none dX3_hasState_6 (by decide) rfl rfl uX_X3 (by decide) uf_RX3_31 rfl rfl ?_
    refine G.icmp_ge (tgt := 16) C dX3_hasState_9 (by decide) (fun c_9 => ?_) (fun c_9 => ?_)
    · refine G.iconst (v := 0) C dX3_hasState_16 (by decide) ?_
      subst hQ
      exact G.zret C hr (by rfl) dX3_hasState_17 (by
          first | exact ⟨rfl, (wb_t (by simp_all [Int32.not_lt, Int32.not_le])).symm⟩ | exact ⟨rfl, (wb_f (by first | (simp_all [Int32.not_lt, Int32.not_le]; done) | (simp only [Int32.lt_iff_toInt_lt, Int32.le_iff_toInt_le, Int32.not_lt, Int32.not_le, ← Int32.toInt_inj, Int32.reduceToInt] at *; omega))).symm⟩)
    · refine G.iconst (v := 1) C dX3_hasState_12 (by decide) ?_
      refine G.goto (tgt := 17) C dX3_hasState_13 (by decide) ?_
      subst hQ
      exact G.zret C hr (by rfl) dX3_hasState_17 (by
          first | exact ⟨rfl, (wb_t (by simp_all [Int32.not_lt, Int32.not_le])).symm⟩ | exact ⟨rfl, (wb_f (by first | (simp_all [Int32.not_lt, Int32.not_le]; done) | (simp only [Int32.lt_iff_toInt_lt, Int32.le_iff_toInt_le, Int32.not_lt, Int32.not_le, ← Int32.toInt_inj, Int32.reduceToInt] at *; omega))).symm⟩)
set_option maxHeartbeats 4000000 in
set_option maxRecDepth 100000 in
theorem ok_X0_hasMap {w : wD} (hw : wOK w) (σ : wSt) (a : Int32)  : MI w yX0_hasMap cX0_hasMap 2 (some .boolean) 0 0 [.ref (w.2.2.2.1 2 0), .int a] σ (fun r τ => σ = τ ∧ r = wb (0 ≤ a ∧ a < σ.1 2 0 4)) := by
  refine MI.of hw (by decide +kernel) (Nat.le_of_ble_eq_true rfl) (fun x C hr => ?_)
  suffices key : ∀ Q, Q = QI w x (fun r τ => σ = τ ∧ r = wb (0 ≤ a ∧ a < σ.1 2 0 4)) → G w x 2 Q 0 [(0, .ref (w.2.2.2.1 2 0)), (1, .int a)] [] σ from key _ rfl
  intro Q hQ
  refine G.iload_n C 1 dX0_hasMap_0 rfl rfl ?_
  refine G.if_lt (tgt := 16) C dX0_hasMap_1 (by decide) (fun c_1 => ?_) (fun c_1 => ?_)
  · refine G.iconst (v := 0) C dX0_hasMap_16 (by decide) ?_
    subst hQ
    exact G.zret C hr (by rfl) dX0_hasMap_17 (by
        first | exact ⟨rfl, (wb_t (by simp_all [Int32.not_lt, Int32.not_le])).symm⟩ | exact ⟨rfl, (wb_f (by first | (simp_all [Int32.not_lt, Int32.not_le]; done) | (simp only [Int32.lt_iff_toInt_lt, Int32.le_iff_toInt_le, Int32.not_lt, Int32.not_le, ← Int32.toInt_inj, Int32.reduceToInt] at *; omega))).symm⟩)
  · refine G.iload_n C 1 dX0_hasMap_4 rfl rfl ?_
    refine G.aload_n C 0 dX0_hasMap_5 rfl rfl ?_
    refine G.get (g := 2) (i := 0) C 4 none dX0_hasMap_6 (by decide) rfl rfl uX_X0 (by decide) uf_RX0_25 rfl rfl ?_
    refine G.icmp_ge (tgt := 16) C dX0_hasMap_9 (by decide) (fun c_9 => ?_) (fun c_9 => ?_)
    · refine G.iconst (v := 0) C dX0_hasMap_16 (by decide) ?_
      subst hQ
      exact G.zret C hr (by rfl) dX0_hasMap_17 (by
          first | exact ⟨rfl, (wb_t (by simp_all [Int32.not_lt, Int32.not_le])).symm⟩ | exact ⟨rfl, (wb_f (by first | (simp_all [Int32.not_lt, Int32.not_le]; done) | (simp only [Int32.lt_iff_toInt_lt, Int32.le_iff_toInt_le, Int32.not_lt, Int32.not_le, ← Int32.toInt_inj, Int32.reduceToInt] at *; omega))).symm⟩)
    · refine G.iconst (v := 1) C dX0_hasMap_12 (by decide) ?_
      refine G.goto (tgt := 17) C dX0_hasMap_13 (by decide) ?_
      subst hQ
      exact G.zret C hr (by rfl) dX0_hasMap_17 (by
          first | exact ⟨rfl, (wb_t (by simp_all [Int32.not_lt, Int32.not_le])).symm⟩ | exact ⟨rfl, (wb_f (by first | (simp_all [Int32.not_lt, Int32.not_le]; done) | (simp only [Int32.lt_iff_toInt_lt, Int32.le_iff_toInt_le, Int32.not_lt, Int32.not_le, ← Int32.toInt_inj, Int32.reduceToInt] at *; omega))).symm⟩)
set_option maxHeartbeats 4000000 in
set_option maxRecDepth 100000 in
theorem ok_X1_isPlace {w : wD} (hw : wOK w) (σ : wSt) (a : Int32)  : MI w yX1_isPlace cX1_isPlace 1 (some .boolean) 0 0 [.int a] σ (fun r τ => σ = τ ∧ r = wb (0 ≤ a ∧ a < 100)) := by
  refine MI.of hw (by decide +kernel) (Nat.le_of_ble_eq_true rfl) (fun x C hr => ?_)
  suffices key : ∀ Q, Q = QI w x (fun r τ => σ = τ ∧ r = wb (0 ≤ a ∧ a < 100)) → G w x 1 Q 0 [(0, .int a)] [] σ from key _ rfl
  intro Q hQ
  refine G.iload_n C 0 dX1_isPlace_0 rfl rfl ?_
  refine G.if_lt (tgt := 14) C dX1_isPlace_1 (by decide) (fun c_1 => ?_) (fun c_1 => ?_)
  · refine G.iconst (v := 0) C dX1_isPlace_14 (by decide) ?_
    subst hQ
    exact G.zret C hr (by rfl) dX1_isPlace_15 (by
        first | exact ⟨rfl, (wb_t (by simp_all [Int32.not_lt, Int32.not_le])).symm⟩ | exact ⟨rfl, (wb_f (by first | (simp_all [Int32.not_lt, Int32.not_le]; done) | (simp only [Int32.lt_iff_toInt_lt, Int32.le_iff_toInt_le, Int32.not_lt, Int32.not_le, ← Int32.toInt_inj, Int32.reduceToInt] at *; omega))).symm⟩)
  · refine G.iload_n C 0 dX1_isPlace_4 rfl rfl ?_
    refine G.bipush (v := 100) C dX1_isPlace_5 (by decide) ?_
    refine G.icmp_ge (tgt := 14) C dX1_isPlace_7 (by decide) (fun c_7 => ?_) (fun c_7 => ?_)
    · refine G.iconst (v := 0) C dX1_isPlace_14 (by decide) ?_
      subst hQ
      exact G.zret C hr (by rfl) dX1_isPlace_15 (by
          first | exact ⟨rfl, (wb_t (by simp_all [Int32.not_lt, Int32.not_le])).symm⟩ | exact ⟨rfl, (wb_f (by first | (simp_all [Int32.not_lt, Int32.not_le]; done) | (simp only [Int32.lt_iff_toInt_lt, Int32.le_iff_toInt_le, Int32.not_lt, Int32.not_le, ← Int32.toInt_inj, Int32.reduceToInt] at *; omega))).symm⟩)
    · refine G.iconst (v := 1) C dX1_isPlace_10 (by decide) ?_
      refine G.goto (tgt := 15) C dX1_isPlace_11 (by decide) ?_
      subst hQ
      exact G.zret C hr (by rfl) dX1_isPlace_15 (by
          first | exact ⟨rfl, (wb_t (by simp_all [Int32.not_lt, Int32.not_le])).symm⟩ | exact ⟨rfl, (wb_f (by first | (simp_all [Int32.not_lt, Int32.not_le]; done) | (simp only [Int32.lt_iff_toInt_lt, Int32.le_iff_toInt_le, Int32.not_lt, Int32.not_le, ← Int32.toInt_inj, Int32.reduceToInt] at *; omega))).symm⟩)
set_option maxHeartbeats 4000000 in
set_option maxRecDepth 100000 in
theorem ok_X1_isShift {w : wD} (hw : wOK w) (σ : wSt) (a : Int32)  : MI w yX1_isShift cX1_isShift 1 (some .boolean) 0 0 [.int a] σ (fun r τ => σ = τ ∧ r = wb (-20 ≤ a ∧ a ≤ 20)) := by
  refine MI.of hw (by decide +kernel) (Nat.le_of_ble_eq_true rfl) (fun x C hr => ?_)
  suffices key : ∀ Q, Q = QI w x (fun r τ => σ = τ ∧ r = wb (-20 ≤ a ∧ a ≤ 20)) → G w x 1 Q 0 [(0, .int a)] [] σ from key _ rfl
  intro Q hQ
  refine G.iload_n C 0 dX1_isShift_0 rfl rfl ?_
  refine G.bipush (v := -20) C dX1_isShift_1 (by decide) ?_
  refine G.icmp_lt (tgt := 16) C dX1_isShift_3 (by decide) (fun c_3 => ?_) (fun c_3 => ?_)
  · refine G.iconst (v := 0) C dX1_isShift_16 (by decide) ?_
    subst hQ
    exact G.zret C hr (by rfl) dX1_isShift_17 (by
        first | exact ⟨rfl, (wb_t (by simp_all [Int32.not_lt, Int32.not_le])).symm⟩ | exact ⟨rfl, (wb_f (by first | (simp_all [Int32.not_lt, Int32.not_le]; done) | (simp only [Int32.lt_iff_toInt_lt, Int32.le_iff_toInt_le, Int32.not_lt, Int32.not_le, ← Int32.toInt_inj, Int32.reduceToInt] at *; omega))).symm⟩)
  · refine G.iload_n C 0 dX1_isShift_6 rfl rfl ?_
    refine G.bipush (v := 20) C dX1_isShift_7 (by decide) ?_
    refine G.icmp_gt (tgt := 16) C dX1_isShift_9 (by decide) (fun c_9 => ?_) (fun c_9 => ?_)
    · refine G.iconst (v := 0) C dX1_isShift_16 (by decide) ?_
      subst hQ
      exact G.zret C hr (by rfl) dX1_isShift_17 (by
          first | exact ⟨rfl, (wb_t (by simp_all [Int32.not_lt, Int32.not_le])).symm⟩ | exact ⟨rfl, (wb_f (by first | (simp_all [Int32.not_lt, Int32.not_le]; done) | (simp only [Int32.lt_iff_toInt_lt, Int32.le_iff_toInt_le, Int32.not_lt, Int32.not_le, ← Int32.toInt_inj, Int32.reduceToInt] at *; omega))).symm⟩)
    · refine G.iconst (v := 1) C dX1_isShift_12 (by decide) ?_
      refine G.goto (tgt := 17) C dX1_isShift_13 (by decide) ?_
      subst hQ
      exact G.zret C hr (by rfl) dX1_isShift_17 (by
          first | exact ⟨rfl, (wb_t (by simp_all [Int32.not_lt, Int32.not_le])).symm⟩ | exact ⟨rfl, (wb_f (by first | (simp_all [Int32.not_lt, Int32.not_le]; done) | (simp only [Int32.lt_iff_toInt_lt, Int32.le_iff_toInt_le, Int32.not_lt, Int32.not_le, ← Int32.toInt_inj, Int32.reduceToInt] at *; omega))).symm⟩)
set_option maxHeartbeats 4000000 in
set_option maxRecDepth 100000 in
theorem ok_X6_in {w : wD} (hw : wOK w) (σ : wSt) (a b c : Int32)  : MI w yX6_in cX6_in 3 (some .boolean) 0 0 [.int a, .int b, .int c] σ (fun r τ => σ = τ ∧ r = wb (b ≤ a ∧ a ≤ c)) := by
  refine MI.of hw (by decide +kernel) (Nat.le_of_ble_eq_true rfl) (fun x C hr => ?_)
  suffices key : ∀ Q, Q = QI w x (fun r τ => σ = τ ∧ r = wb (b ≤ a ∧ a ≤ c)) → G w x 3 Q 0 [(0, .int a), (1, .int b), (2, .int c)] [] σ from key _ rfl
  intro Q hQ
  refine G.iload_n C 0 dX6_in_0 rfl rfl ?_
  refine G.iload_n C 1 dX6_in_1 rfl rfl ?_
  refine G.icmp_lt (tgt := 14) C dX6_in_2 (by decide) (fun c_2 => ?_) (fun c_2 => ?_)
  · refine G.iconst (v := 0) C dX6_in_14 (by decide) ?_
    subst hQ
    exact G.zret C hr (by rfl) dX6_in_15 (by
        first | exact ⟨rfl, (wb_t (by simp_all [Int32.not_lt, Int32.not_le])).symm⟩ | exact ⟨rfl, (wb_f (by first | (simp_all [Int32.not_lt, Int32.not_le]; done) | (simp only [Int32.lt_iff_toInt_lt, Int32.le_iff_toInt_le, Int32.not_lt, Int32.not_le, ← Int32.toInt_inj, Int32.reduceToInt] at *; omega))).symm⟩)
  · refine G.iload_n C 0 dX6_in_5 rfl rfl ?_
    refine G.iload_n C 2 dX6_in_6 rfl rfl ?_
    refine G.icmp_gt (tgt := 14) C dX6_in_7 (by decide) (fun c_7 => ?_) (fun c_7 => ?_)
    · refine G.iconst (v := 0) C dX6_in_14 (by decide) ?_
      subst hQ
      exact G.zret C hr (by rfl) dX6_in_15 (by
          first | exact ⟨rfl, (wb_t (by simp_all [Int32.not_lt, Int32.not_le])).symm⟩ | exact ⟨rfl, (wb_f (by first | (simp_all [Int32.not_lt, Int32.not_le]; done) | (simp only [Int32.lt_iff_toInt_lt, Int32.le_iff_toInt_le, Int32.not_lt, Int32.not_le, ← Int32.toInt_inj, Int32.reduceToInt] at *; omega))).symm⟩)
    · refine G.iconst (v := 1) C dX6_in_10 (by decide) ?_
      refine G.goto (tgt := 15) C dX6_in_11 (by decide) ?_
      subst hQ
      exact G.zret C hr (by rfl) dX6_in_15 (by
          first | exact ⟨rfl, (wb_t (by simp_all [Int32.not_lt, Int32.not_le])).symm⟩ | exact ⟨rfl, (wb_f (by first | (simp_all [Int32.not_lt, Int32.not_le]; done) | (simp only [Int32.lt_iff_toInt_lt, Int32.le_iff_toInt_le, Int32.not_lt, Int32.not_le, ← Int32.toInt_inj, Int32.reduceToInt] at *; omega))).symm⟩)
set_option maxHeartbeats 4000000 in
set_option maxRecDepth 100000 in
theorem ok_J6_bitCount_0f7a4 {w : wD} (hw : wOK w) (σ : wSt) (a : Int32) (hr0 : rng12 a) : MI w yJ6_bitCount_0f7a4 cJ6_bitCount_0f7a4 1 (some .int) 0 0 [.int a] σ (fun r τ => σ = τ ∧ r = pop a) := by
  refine MI.of hw (by decide +kernel) (Nat.le_of_ble_eq_true rfl) (fun x C hr => ?_)
  suffices key : ∀ Q, Q = QI w x (fun r τ => σ = τ ∧ r = pop a) → G w x 1 Q 0 [(0, .int a)] [] σ from key _ rfl
  intro Q hQ
  refine G.iload_n C 0 dJ6_bitCount_0f7a4_0 rfl rfl ?_
  refine G.iload_n C 0 dJ6_bitCount_0f7a4_1 rfl rfl ?_
  refine G.iconst (v := 1) C dJ6_bitCount_0f7a4_2 (by decide) ?_
  refine G.iushr C dJ6_bitCount_0f7a4_3 rfl ?_
  refine G.ldc_w C uk_RJ6_265 dJ6_bitCount_0f7a4_4 ?_
  refine G.iand C dJ6_bitCount_0f7a4_7 ?_
  refine G.isub C dJ6_bitCount_0f7a4_8 ?_
  refine G.topi (fun x0_9 ex0_9 => ?_)
  refine G.istore_n (L1 := [(0, .int x0_9)]) C dJ6_bitCount_0f7a4_9 rfl (by decide) rfl ?_
  refine G.iload_n C 0 dJ6_bitCount_0f7a4_10 rfl rfl ?_
  refine G.ldc_w C uk_RJ6_266 dJ6_bitCount_0f7a4_11 ?_
  refine G.iand C dJ6_bitCount_0f7a4_14 ?_
  refine G.iload_n C 0 dJ6_bitCount_0f7a4_15 rfl rfl ?_
  refine G.iconst (v := 2) C dJ6_bitCount_0f7a4_16 (by decide) ?_
  refine G.iushr C dJ6_bitCount_0f7a4_17 rfl ?_
  refine G.ldc_w C uk_RJ6_266 dJ6_bitCount_0f7a4_18 ?_
  refine G.iand C dJ6_bitCount_0f7a4_21 ?_
  refine G.iadd C dJ6_bitCount_0f7a4_22 ?_
  refine G.topi (fun x0_23 ex0_23 => ?_)
  refine G.istore_n (L1 := [(0, .int x0_23)]) C dJ6_bitCount_0f7a4_23 rfl (by decide) rfl ?_
  refine G.iload_n C 0 dJ6_bitCount_0f7a4_24 rfl rfl ?_
  refine G.iload_n C 0 dJ6_bitCount_0f7a4_25 rfl rfl ?_
  refine G.iconst (v := 4) C dJ6_bitCount_0f7a4_26 (by decide) ?_
  refine G.iushr C dJ6_bitCount_0f7a4_27 rfl ?_
  refine G.iadd C dJ6_bitCount_0f7a4_28 ?_
  refine G.ldc_w C uk_RJ6_267 dJ6_bitCount_0f7a4_29 ?_
  refine G.iand C dJ6_bitCount_0f7a4_32 ?_
  refine G.topi (fun x0_33 ex0_33 => ?_)
  refine G.istore_n (L1 := [(0, .int x0_33)]) C dJ6_bitCount_0f7a4_33 rfl (by decide) rfl ?_
  refine G.iload_n C 0 dJ6_bitCount_0f7a4_34 rfl rfl ?_
  refine G.iload_n C 0 dJ6_bitCount_0f7a4_35 rfl rfl ?_
  refine G.bipush (v := 8) C dJ6_bitCount_0f7a4_36 (by decide) ?_
  refine G.iushr C dJ6_bitCount_0f7a4_38 rfl ?_
  refine G.iadd C dJ6_bitCount_0f7a4_39 ?_
  refine G.topi (fun x0_40 ex0_40 => ?_)
  refine G.istore_n (L1 := [(0, .int x0_40)]) C dJ6_bitCount_0f7a4_40 rfl (by decide) rfl ?_
  refine G.iload_n C 0 dJ6_bitCount_0f7a4_41 rfl rfl ?_
  refine G.iload_n C 0 dJ6_bitCount_0f7a4_42 rfl rfl ?_
  refine G.bipush (v := 16) C dJ6_bitCount_0f7a4_43 (by decide) ?_
  refine G.iushr C dJ6_bitCount_0f7a4_45 rfl ?_
  refine G.iadd C dJ6_bitCount_0f7a4_46 ?_
  refine G.topi (fun x0_47 ex0_47 => ?_)
  refine G.istore_n (L1 := [(0, .int x0_47)]) C dJ6_bitCount_0f7a4_47 rfl (by decide) rfl ?_
  refine G.iload_n C 0 dJ6_bitCount_0f7a4_48 rfl rfl ?_
  refine G.bipush (v := 63) C dJ6_bitCount_0f7a4_49 (by decide) ?_
  refine G.iand C dJ6_bitCount_0f7a4_51 ?_
  subst hQ
  exact G.iret C hr dJ6_bitCount_0f7a4_52 (by
      subst_vars
      exact ⟨rfl, jb_pop hr0⟩)
set_option maxHeartbeats 4000000 in
set_option maxRecDepth 100000 in
theorem ok_X4_put_11 {w : wD} (hw : wOK w) (σ : wSt) (i : Nat) (b c : Int32) (hi : i < wN 11)  : MV w yX4_put cX4_put 3 none 0 0 [.ref (w.2.2.2.1 11 i), .int b, .int c] σ (fun τ => wUp (wUp σ 11 i 0 b) 11 i 1 c = τ) := by
  refine MV.of hw (by decide +kernel) (Nat.le_of_ble_eq_true rfl) (fun x C hr => ?_)
  suffices key : ∀ Q, Q = QV w x (fun τ => wUp (wUp σ 11 i 0 b) 11 i 1 c = τ) → G w x 3 Q 0 [(0, .ref (w.2.2.2.1 11 i)), (1, .int b), (2, .int c)] [] σ from key _ rfl
  intro Q hQ
  refine G.aload_n C 0 dX4_put_0 rfl rfl ?_
  refine G.iload_n C 1 dX4_put_1 rfl rfl ?_
  refine G.put (g := 11) (i := i) C 0 none dX4_put_2 hi rfl rfl uX_X4 tyX4 tyX4_ok nmX4 (by decide) uf_RX4_9 rfl rfl (by decide +kernel) (Nat.le_of_ble_eq_true rfl) w_up_11_0 ?_
  refine G.aload_n C 0 dX4_put_5 rfl rfl ?_
  refine G.iload_n C 2 dX4_put_6 rfl rfl ?_
  refine G.put (g := 11) (i := i) C 1 none dX4_put_7 hi rfl rfl uX_X4 tyX4 tyX4_ok nmX4 (by decide) uf_RX4_15 rfl rfl (by decide +kernel) (Nat.le_of_ble_eq_true rfl) w_up_11_1 ?_
  subst hQ
  exact G.vret C hr dX4_put_10 (by
      exact rfl)
set_option maxHeartbeats 4000000 in
set_option maxRecDepth 100000 in
theorem ok_X4_put_17 {w : wD} (hw : wOK w) (σ : wSt) (i : Nat) (b c : Int32) (hi : i < wN 17)  : MV w yX4_put cX4_put 3 none 0 0 [.ref (w.2.2.2.1 17 i), .int b, .int c] σ (fun τ => wUp (wUp σ 17 i 0 b) 17 i 1 c = τ) := by
  refine MV.of hw (by decide +kernel) (Nat.le_of_ble_eq_true rfl) (fun x C hr => ?_)
  suffices key : ∀ Q, Q = QV w x (fun τ => wUp (wUp σ 17 i 0 b) 17 i 1 c = τ) → G w x 3 Q 0 [(0, .ref (w.2.2.2.1 17 i)), (1, .int b), (2, .int c)] [] σ from key _ rfl
  intro Q hQ
  refine G.aload_n C 0 dX4_put_0 rfl rfl ?_
  refine G.iload_n C 1 dX4_put_1 rfl rfl ?_
  refine G.put (g := 17) (i := i) C 0 none dX4_put_2 hi rfl rfl uX_X4 tyX4 tyX4_ok nmX4 (by decide) uf_RX4_9 rfl rfl (by decide +kernel) (Nat.le_of_ble_eq_true rfl) w_up_17_0 ?_
  refine G.aload_n C 0 dX4_put_5 rfl rfl ?_
  refine G.iload_n C 2 dX4_put_6 rfl rfl ?_
  refine G.put (g := 17) (i := i) C 1 none dX4_put_7 hi rfl rfl uX_X4 tyX4 tyX4_ok nmX4 (by decide) uf_RX4_15 rfl rfl (by decide +kernel) (Nat.le_of_ble_eq_true rfl) w_up_17_1 ?_
  subst hQ
  exact G.vret C hr dX4_put_10 (by
      exact rfl)
set_option maxHeartbeats 4000000 in
set_option maxRecDepth 100000 in
theorem ok_X3_statesWith {w : wD} (hw : wOK w) (σ : wSt) (a b : Int32) {n : Nat} (hn : σ.1 1 0 5 = nI n) (h6 : n ≤ 6) : MI w yX3_statesWith cX3_statesWith 5 (some .int) 0 0 [.ref (w.2.2.2.1 1 0), .int a, .int b] σ (fun r τ => σ = τ ∧ r = candU (σ.1 6 0) a b n) := by
  refine MI.of hw (by decide +kernel) (Nat.le_of_ble_eq_true rfl) (fun x C hr => ?_)
  suffices key : ∀ Q, Q = QI w x (fun r τ => σ = τ ∧ r = candU (σ.1 6 0) a b n) → G w x 5 Q 0 [(0, .ref (w.2.2.2.1 1 0)), (1, .int a), (2, .int b)] [] σ from key _ rfl
  intro Q hQ
  refine G.iconst (v := 0) C dX3_statesWith_0 (by decide) ?_
  refine G.istore_n (L1 := [(3, .int 0), (0, .ref (w.2.2.2.1 1 0)), (1, .int a), (2, .int b)]) C dX3_statesWith_1 rfl (by decide) rfl ?_
  refine G.iconst (v := 0) C dX3_statesWith_2 (by decide) ?_
  refine G.istore (L1 := [(4, .int 0), (3, .int 0), (0, .ref (w.2.2.2.1 1 0)), (1, .int a), (2, .int b)]) C dX3_statesWith_3 (by decide) rfl ?_
  have cut_5 : ∀ (m9 : Nat) (j : Nat) (x4 x3 : Int32), j ≤ n → n < j + m9 → x4 = nI j → x3 = candU (σ.1 6 0) a b j → G w x 5 Q 5 [(4, .int x4), (3, .int x3), (0, .ref (w.2.2.2.1 1 0)), (1, .int a), (2, .int b)] [] σ := by
    intro m9
    induction m9 with
    | zero =>
      intro j x4 x3 hj hm hx4 hx3
      exfalso
      omega
    | succ m9 ih_5 =>
      intro j x4 x3 hj hm hx4 hx3
      subst hx4
      subst hx3
      refine G.iload C 0 dX3_statesWith_5 rfl ?_
      refine G.aload_n C 2 dX3_statesWith_7 rfl rfl ?_
      refine G.get (g := 1) (i := 0) C 5 none dX3_statesWith_8 (by decide) rfl rfl uX_X3 (by decide) uf_RX3_31 rfl rfl ?_
      refine G.icmp_ge (tgt := 52) C dX3_statesWith_11 (by decide) (fun c_11 => ?_) (fun c_11 => ?_)
      · have hjn : j = n := by
          rw [hn, nI_leI (by omega) (by omega)] at c_11; omega
        refine G.iload_n C 1 dX3_statesWith_52 rfl rfl ?_
        subst hQ
        exact G.iret C hr dX3_statesWith_53 (by
            rw [hjn]
            exact ⟨rfl, rfl⟩)
      · have hjn : j < n := by
          rw [hn, nI_leI (by omega) (by omega)] at c_11; omega
        refine G.aload_n C 2 dX3_statesWith_14 rfl rfl ?_
        refine G.get (g := 1) (i := 0) C 3 none dX3_statesWith_15 (by decide) rfl rfl uX_X3 (by decide) uf_RX3_21 rfl rfl ?_
        refine G.iload C 0 dX3_statesWith_18 rfl ?_
        have hin_20 : vp_in (nI j) 6 := by
          exact vp_in_nI (by omega) (by decide)
        refine G.iald (g := 6) (i := 0) (n := 6) C dX3_statesWith_20 (by decide) rfl hin_20 ?_
        refine G.iload_n C 3 dX3_statesWith_21 rfl rfl ?_
        refine G.iand C dX3_statesWith_22 ?_
        refine G.iload_n C 3 dX3_statesWith_23 rfl rfl ?_
        refine G.icmp_ne (tgt := 46) C dX3_statesWith_24 (by decide) (fun c_24 => ?_) (fun c_24 => ?_)
        · obtain ⟨x4_46, ex4_46⟩ : ∃ z : Int32, z = (nI j) + 1 := ⟨_, rfl⟩
          refine G.iinc (v := x4_46) (L1 := [(4, .int x4_46), (3, .int (candU (σ.1 6 0) a b j)), (0, .ref (w.2.2.2.1 1 0)), (1, .int a), (2, .int b)]) C 0 dX3_statesWith_46 rfl (by rw [ex4_46]; rfl) (by decide) rfl ?_
          refine G.goto (tgt := 5) C dX3_statesWith_49 (by decide) ?_
          refine ih_5  (j + 1) _ _ ?_ ?_ ?_ ?_
          · omega
          · omega
          · rw [ex4_46]; exact nI_1 j
          · rw [candU_f _ rfl rfl (fun h => c_24 (by rw [nI_clamp (by omega)]; exact h.1))]
        · refine G.aload_n C 2 dX3_statesWith_27 rfl rfl ?_
          refine G.get (g := 1) (i := 0) C 3 none dX3_statesWith_28 (by decide) rfl rfl uX_X3 (by decide) uf_RX3_21 rfl rfl ?_
          refine G.iload C 0 dX3_statesWith_31 rfl ?_
          have hin_33 : vp_in (nI j) 6 := by
            exact vp_in_nI (by omega) (by decide)
          refine G.iald (g := 6) (i := 0) (n := 6) C dX3_statesWith_33 (by decide) rfl hin_33 ?_
          refine G.iload_n C 4 dX3_statesWith_34 rfl rfl ?_
          refine G.iand C dX3_statesWith_35 ?_
          refine G.if_ne (tgt := 46) C dX3_statesWith_36 (by decide) (fun c_36 => ?_) (fun c_36 => ?_)
          · obtain ⟨x4_46, ex4_46⟩ : ∃ z : Int32, z = (nI j) + 1 := ⟨_, rfl⟩
            refine G.iinc (v := x4_46) (L1 := [(4, .int x4_46), (3, .int (candU (σ.1 6 0) a b j)), (0, .ref (w.2.2.2.1 1 0)), (1, .int a), (2, .int b)]) C 0 dX3_statesWith_46 rfl (by rw [ex4_46]; rfl) (by decide) rfl ?_
            refine G.goto (tgt := 5) C dX3_statesWith_49 (by decide) ?_
            refine ih_5  (j + 1) _ _ ?_ ?_ ?_ ?_
            · omega
            · omega
            · rw [ex4_46]; exact nI_1 j
            · rw [candU_f _ rfl rfl (fun h => c_36 (by rw [nI_clamp (by omega)]; exact h.2))]
          · refine G.iload_n C 1 dX3_statesWith_39 rfl rfl ?_
            refine G.iconst (v := 1) C dX3_statesWith_40 (by decide) ?_
            refine G.iload C 0 dX3_statesWith_41 rfl ?_
            refine G.ishl C dX3_statesWith_43 ?_
            refine G.ior C dX3_statesWith_44 ?_
            refine G.topi (fun x3_45 ex3_45 => ?_)
            refine G.istore_n (L1 := [(3, .int x3_45), (4, .int (nI j)), (0, .ref (w.2.2.2.1 1 0)), (1, .int a), (2, .int b)]) C dX3_statesWith_45 rfl (by decide) rfl ?_
            obtain ⟨x4_46, ex4_46⟩ : ∃ z : Int32, z = (nI j) + 1 := ⟨_, rfl⟩
            refine G.iinc (v := x4_46) (L1 := [(4, .int x4_46), (3, .int x3_45), (0, .ref (w.2.2.2.1 1 0)), (1, .int a), (2, .int b)]) C 1 dX3_statesWith_46 rfl (by rw [ex4_46]; rfl) (by decide) rfl ?_
            refine G.goto (tgt := 5) C dX3_statesWith_49 (by decide) ?_
            refine ih_5  (j + 1) _ _ ?_ ?_ ?_ ?_
            · omega
            · omega
            · rw [ex4_46]; exact nI_1 j
            · rw [nI_clamp (by omega)] at c_24 c_36
              rw [ex3_45, candU_t _ rfl rfl ⟨c_24, c_36⟩]
  refine cut_5 (n + 1) 0 _ _ ?_ ?_ ?_ ?_
  · omega
  · omega
  · rfl
  · rfl
set_option maxHeartbeats 4000000 in
set_option maxRecDepth 100000 in
theorem ok_X3_linesOf {w : wD} (hw : wOK w) (σ : wSt) (a : Int32) {n : Nat} (hn : σ.1 1 0 5 = nI n) (h6 : n ≤ 6) : MI w yX3_linesOf cX3_linesOf 4 (some .int) 1 21 [.ref (w.2.2.2.1 1 0), .int a] σ (fun r τ => σ = τ ∧ r = linesU (σ.1 6 0) a n) := by
  refine MI.of hw (by decide +kernel) (Nat.le_of_ble_eq_true rfl) (fun x C hr => ?_)
  suffices key : ∀ Q, Q = QI w x (fun r τ => σ = τ ∧ r = linesU (σ.1 6 0) a n) → G w x 4 Q 0 [(0, .ref (w.2.2.2.1 1 0)), (1, .int a)] [] σ from key _ rfl
  intro Q hQ
  refine G.iconst (v := 0) C dX3_linesOf_0 (by decide) ?_
  refine G.istore_n (L1 := [(2, .int 0), (0, .ref (w.2.2.2.1 1 0)), (1, .int a)]) C dX3_linesOf_1 rfl (by decide) rfl ?_
  refine G.iconst (v := 0) C dX3_linesOf_2 (by decide) ?_
  refine G.istore_n (L1 := [(3, .int 0), (2, .int 0), (0, .ref (w.2.2.2.1 1 0)), (1, .int a)]) C dX3_linesOf_3 rfl (by decide) rfl ?_
  have cut_4 : ∀ (m9 : Nat) (j : Nat) (x3 x2 : Int32), j ≤ n → n < j + m9 → x3 = nI j → x2 = linesU (σ.1 6 0) a j → G w x 4 Q 4 [(3, .int x3), (2, .int x2), (0, .ref (w.2.2.2.1 1 0)), (1, .int a)] [] σ := by
    intro m9
    induction m9 with
    | zero =>
      intro j x3 x2 hj hm hx3 hx2
      exfalso
      omega
    | succ m9 ih_4 =>
      intro j x3 x2 hj hm hx3 hx2
      subst hx3
      subst hx2
      refine G.iload_n C 0 dX3_linesOf_4 rfl rfl ?_
      refine G.aload_n C 2 dX3_linesOf_5 rfl rfl ?_
      refine G.get (g := 1) (i := 0) C 5 none dX3_linesOf_6 (by decide) rfl rfl uX_X3 (by decide) uf_RX3_31 rfl rfl ?_
      refine G.icmp_ge (tgt := 35) C dX3_linesOf_9 (by decide) (fun c_9 => ?_) (fun c_9 => ?_)
      · have hjn : j = n := by
          rw [hn, nI_leI (by omega) (by omega)] at c_9; omega
        refine G.iload_n C 1 dX3_linesOf_35 rfl rfl ?_
        subst hQ
        exact G.iret C hr dX3_linesOf_36 (by
            rw [hjn]
            exact ⟨rfl, rfl⟩)
      · have hjn : j < n := by
          rw [hn, nI_leI (by omega) (by omega)] at c_9; omega
        refine G.iload_n C 3 dX3_linesOf_12 rfl rfl ?_
        refine G.iload_n C 0 dX3_linesOf_13 rfl rfl ?_
        have hM_0 := ok_X5_has hw σ a (nI j)
        refine G.callS C (some "PlateRoom") hM_0 dX3_linesOf_14 us_X5_has unm_RX3_58 rfl rfl (by decide) (Nat.le_of_ble_eq_true rfl) (fun r_14 τ_14 h_14 => ?_)
        obtain ⟨h_14, e_14⟩ := h_14; subst h_14
        refine G.if_eq (tgt := 29) C dX3_linesOf_17 (by decide) (fun c_17 => ?_) (fun c_17 => ?_)
        · have b_14 := wb_0 e_14 c_17
          obtain ⟨x3_29, ex3_29⟩ : ∃ z : Int32, z = (nI j) + 1 := ⟨_, rfl⟩
          refine G.iinc (v := x3_29) (L1 := [(3, .int x3_29), (2, .int (linesU (σ.1 6 0) a j)), (0, .ref (w.2.2.2.1 1 0)), (1, .int a)]) C 0 dX3_linesOf_29 rfl (by rw [ex3_29]; rfl) (by decide) rfl ?_
          refine G.goto (tgt := 4) C dX3_linesOf_32 (by decide) ?_
          refine ih_4  (j + 1) _ _ ?_ ?_ ?_ ?_
          · omega
          · omega
          · rw [ex3_29]; exact nI_1 j
          · rw [linesU_f _ rfl (wb_0 e_14 c_17)]
        · have b_14 := wb_1 e_14 c_17
          refine G.iload_n C 1 dX3_linesOf_20 rfl rfl ?_
          refine G.aload_n C 2 dX3_linesOf_21 rfl rfl ?_
          refine G.get (g := 1) (i := 0) C 3 none dX3_linesOf_22 (by decide) rfl rfl uX_X3 (by decide) uf_RX3_21 rfl rfl ?_
          refine G.iload_n C 0 dX3_linesOf_25 rfl rfl ?_
          have hin_26 : vp_in (nI j) 6 := by
            exact vp_in_nI (by omega) (by decide)
          refine G.iald (g := 6) (i := 0) (n := 6) C dX3_linesOf_26 (by decide) rfl hin_26 ?_
          refine G.ior C dX3_linesOf_27 ?_
          refine G.topi (fun x2_28 ex2_28 => ?_)
          refine G.istore_n (L1 := [(2, .int x2_28), (3, .int (nI j)), (0, .ref (w.2.2.2.1 1 0)), (1, .int a)]) C dX3_linesOf_28 rfl (by decide) rfl ?_
          obtain ⟨x3_29, ex3_29⟩ : ∃ z : Int32, z = (nI j) + 1 := ⟨_, rfl⟩
          refine G.iinc (v := x3_29) (L1 := [(3, .int x3_29), (2, .int x2_28), (0, .ref (w.2.2.2.1 1 0)), (1, .int a)]) C 1 dX3_linesOf_29 rfl (by rw [ex3_29]; rfl) (by decide) rfl ?_
          refine G.goto (tgt := 4) C dX3_linesOf_32 (by decide) ?_
          refine ih_4  (j + 1) _ _ ?_ ?_ ?_ ?_
          · omega
          · omega
          · rw [ex3_29]; exact nI_1 j
          · rw [ex2_28, linesU_t _ rfl (wb_1 e_14 c_17), nI_clamp (by omega)]
  refine cut_4 (n + 1) 0 _ _ ?_ ?_ ?_ ?_
  · omega
  · omega
  · rfl
  · rfl
set_option maxHeartbeats 4000000 in
set_option maxRecDepth 100000 in
theorem ok_X3_stepQuarrel {w : wD} (hw : wOK w) (σ : wSt) (a b c : Int32) (hb9 : rng12 b) (hc9 : rng12 c) : MI w yX3_stepQuarrel cX3_stepQuarrel 6 (some .int) 1 20 [.ref (w.2.2.2.1 1 0), .int a, .int b, .int c] σ (fun r τ => σ = τ ∧ r = stepF (σ.1 1 0 0) (σ.1 1 0 1) (σ.1 1 0 2) a b c) := by
  refine MI.of hw (by decide +kernel) (Nat.le_of_ble_eq_true rfl) (fun x C hr => ?_)
  suffices key : ∀ Q, Q = QI w x (fun r τ => σ = τ ∧ r = stepF (σ.1 1 0 0) (σ.1 1 0 1) (σ.1 1 0 2) a b c) → G w x 6 Q 0 [(0, .ref (w.2.2.2.1 1 0)), (1, .int a), (2, .int b), (3, .int c)] [] σ from key _ rfl
  intro Q hQ
  refine G.iload_n C 3 dX3_stepQuarrel_0 rfl rfl ?_
  refine G.iload_n C 2 dX3_stepQuarrel_1 rfl rfl ?_
  refine G.iconst (v := -1) C dX3_stepQuarrel_2 (by decide) ?_
  refine G.ixor C dX3_stepQuarrel_3 ?_
  refine G.iand C dX3_stepQuarrel_4 ?_
  refine G.topi (fun x4_5 ex4_5 => ?_)
  refine G.istore (L1 := [(4, .int x4_5), (0, .ref (w.2.2.2.1 1 0)), (1, .int a), (2, .int b), (3, .int c)]) C dX3_stepQuarrel_5 (by decide) rfl ?_
  refine G.iload_n C 3 dX3_stepQuarrel_7 rfl rfl ?_
  refine G.iload_n C 4 dX3_stepQuarrel_8 rfl rfl ?_
  refine G.iconst (v := -1) C dX3_stepQuarrel_9 (by decide) ?_
  refine G.ixor C dX3_stepQuarrel_10 ?_
  refine G.iand C dX3_stepQuarrel_11 ?_
  refine G.topi (fun x5_12 ex5_12 => ?_)
  refine G.istore (L1 := [(5, .int x5_12), (4, .int x4_5), (0, .ref (w.2.2.2.1 1 0)), (1, .int a), (2, .int b), (3, .int c)]) C dX3_stepQuarrel_12 (by decide) rfl ?_
  refine G.iload C 1 dX3_stepQuarrel_14 rfl ?_
  refine G.iload_n C 3 dX3_stepQuarrel_16 rfl rfl ?_
  refine G.iconst (v := -1) C dX3_stepQuarrel_17 (by decide) ?_
  refine G.ixor C dX3_stepQuarrel_18 ?_
  refine G.iand C dX3_stepQuarrel_19 ?_
  have hM_0 := ok_J6_bitCount_0f7a4 hw σ (x4_5 &&& (a ^^^ (-1))) (by subst_vars; exact rng_and _ (rng_and _ hc9))
  refine G.callS C none hM_0 dX3_stepQuarrel_20 us_J6_bitCount_0f7a4 ul_RX3_62 rfl rfl (by decide) (Nat.le_of_ble_eq_true rfl) (fun r_20 τ_20 h_20 => ?_)
  obtain ⟨h_20, e_20⟩ := h_20; subst h_20
  refine G.aload_n C 2 dX3_stepQuarrel_23 rfl rfl ?_
  refine G.get (g := 1) (i := 0) C 0 none dX3_stepQuarrel_24 (by decide) rfl rfl uX_X3 (by decide) uf_RX3_9 rfl rfl ?_
  refine G.imul C dX3_stepQuarrel_27 ?_
  refine G.iload C 1 dX3_stepQuarrel_28 rfl ?_
  refine G.iload_n C 3 dX3_stepQuarrel_30 rfl rfl ?_
  refine G.iand C dX3_stepQuarrel_31 ?_
  have hM_1 := ok_J6_bitCount_0f7a4 hw σ (x4_5 &&& a) (by subst_vars; exact rng_and _ (rng_and _ hc9))
  refine G.callS C none hM_1 dX3_stepQuarrel_32 us_J6_bitCount_0f7a4 ul_RX3_62 rfl rfl (by decide) (Nat.le_of_ble_eq_true rfl) (fun r_32 τ_32 h_32 => ?_)
  obtain ⟨h_32, e_32⟩ := h_32; subst h_32
  refine G.aload_n C 2 dX3_stepQuarrel_35 rfl rfl ?_
  refine G.get (g := 1) (i := 0) C 2 none dX3_stepQuarrel_36 (by decide) rfl rfl uX_X3 (by decide) uf_RX3_18 rfl rfl ?_
  refine G.imul C dX3_stepQuarrel_39 ?_
  refine G.iadd C dX3_stepQuarrel_40 ?_
  refine G.iload C 0 dX3_stepQuarrel_41 rfl ?_
  have hM_2 := ok_J6_bitCount_0f7a4 hw σ x5_12 (by subst_vars; exact rng_and _ hb9)
  refine G.callS C none hM_2 dX3_stepQuarrel_43 us_J6_bitCount_0f7a4 ul_RX3_62 rfl rfl (by decide) (Nat.le_of_ble_eq_true rfl) (fun r_43 τ_43 h_43 => ?_)
  obtain ⟨h_43, e_43⟩ := h_43; subst h_43
  refine G.aload_n C 2 dX3_stepQuarrel_46 rfl rfl ?_
  refine G.get (g := 1) (i := 0) C 1 none dX3_stepQuarrel_47 (by decide) rfl rfl uX_X3 (by decide) uf_RX3_15 rfl rfl ?_
  refine G.imul C dX3_stepQuarrel_50 ?_
  refine G.iadd C dX3_stepQuarrel_51 ?_
  subst hQ
  exact G.iret C hr dX3_stepQuarrel_52 (by
      subst_vars
      exact ⟨rfl, rfl⟩)
