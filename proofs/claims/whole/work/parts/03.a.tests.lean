set_option maxHeartbeats 4000000 in
set_option maxRecDepth 100000 in
theorem ok_X5_has {w : wD} (hw : wOK w) (σ : wSt) (a b : Int32)  : MI w yX5_has cX5_has 2 (some .boolean) 0 0 [.int a, .int b] σ (fun r τ => σ = τ ∧ r = wb ((a >>> (b &&& 31)) &&& 1 = 1)) := by
  refine MI.of hw (by decide +kernel) (Nat.le_of_ble_eq_true rfl) (fun x C hr => ?_)
  suffices key : ∀ Q, Q = QI w x (fun r τ => σ = τ ∧ r = wb ((a >>> (b &&& 31)) &&& 1 = 1)) → G w x 2 Q 0 [(0, .int a), (1, .int b)] [] σ from key _ rfl
  intro Q hQ
  refine G.iload_n C 0 dX5_has_0 rfl rfl ?_
  refine G.iload_n C 1 dX5_has_1 rfl rfl ?_
  refine G.ishr C dX5_has_2 ?_
  refine G.iconst (v := 1) C dX5_has_3 (by decide) ?_
  refine G.iand C dX5_has_4 ?_
  refine G.iconst (v := 1) C dX5_has_5 (by decide) ?_
  refine G.icmp_ne (tgt := 13) C dX5_has_6 (by decide) (fun c_6 => ?_) (fun c_6 => ?_)
  · refine G.iconst (v := 0) C dX5_has_13 (by decide) ?_
    subst hQ
    exact G.zret C hr (by rfl) dX5_has_14 (by
        first | exact ⟨rfl, (wb_t (by simp_all [Int32.not_lt, Int32.not_le])).symm⟩ | exact ⟨rfl, (wb_f (by first | (simp_all [Int32.not_lt, Int32.not_le]; done) | (simp only [Int32.lt_iff_toInt_lt, Int32.le_iff_toInt_le, Int32.not_lt, Int32.not_le, ← Int32.toInt_inj, Int32.reduceToInt] at *; omega))).symm⟩)
  · refine G.iconst (v := 1) C dX5_has_9 (by decide) ?_
    refine G.goto (tgt := 14) C dX5_has_10 (by decide) ?_
    subst hQ
    exact G.zret C hr (by rfl) dX5_has_14 (by
        first | exact ⟨rfl, (wb_t (by simp_all [Int32.not_lt, Int32.not_le])).symm⟩ | exact ⟨rfl, (wb_f (by first | (simp_all [Int32.not_lt, Int32.not_le]; done) | (simp only [Int32.lt_iff_toInt_lt, Int32.le_iff_toInt_le, Int32.not_lt, Int32.not_le, ← Int32.toInt_inj, Int32.reduceToInt] at *; omega))).symm⟩)
set_option maxHeartbeats 4000000 in
set_option maxRecDepth 100000 in
theorem ok_X5_areLines {w : wD} (hw : wOK w) (σ : wSt) (a : Int32)  : MI w yX5_areLines cX5_areLines 1 (some .boolean) 0 0 [.int a] σ (fun r τ => σ = τ ∧ r = wb (0 ≤ a ∧ a ≤ 4095)) := by
  refine MI.of hw (by decide +kernel) (Nat.le_of_ble_eq_true rfl) (fun x C hr => ?_)
  suffices key : ∀ Q, Q = QI w x (fun r τ => σ = τ ∧ r = wb (0 ≤ a ∧ a ≤ 4095)) → G w x 1 Q 0 [(0, .int a)] [] σ from key _ rfl
  intro Q hQ
  refine G.iload_n C 0 dX5_areLines_0 rfl rfl ?_
  refine G.if_lt (tgt := 15) C dX5_areLines_1 (by decide) (fun c_1 => ?_) (fun c_1 => ?_)
  · refine G.iconst (v := 0) C dX5_areLines_15 (by decide) ?_
    subst hQ
    exact G.zret C hr (by rfl) dX5_areLines_16 (by
        first | exact ⟨rfl, (wb_t (by simp_all [Int32.not_lt, Int32.not_le])).symm⟩ | exact ⟨rfl, (wb_f (by first | (simp_all [Int32.not_lt, Int32.not_le]; done) | (simp only [Int32.lt_iff_toInt_lt, Int32.le_iff_toInt_le, Int32.not_lt, Int32.not_le, ← Int32.toInt_inj, Int32.reduceToInt] at *; omega))).symm⟩)
  · refine G.iload_n C 0 dX5_areLines_4 rfl rfl ?_
    refine G.sipush (v := 4095) C dX5_areLines_5 (by decide) ?_
    refine G.icmp_gt (tgt := 15) C dX5_areLines_8 (by decide) (fun c_8 => ?_) (fun c_8 => ?_)
    · refine G.iconst (v := 0) C dX5_areLines_15 (by decide) ?_
      subst hQ
      exact G.zret C hr (by rfl) dX5_areLines_16 (by
          first | exact ⟨rfl, (wb_t (by simp_all [Int32.not_lt, Int32.not_le])).symm⟩ | exact ⟨rfl, (wb_f (by first | (simp_all [Int32.not_lt, Int32.not_le]; done) | (simp only [Int32.lt_iff_toInt_lt, Int32.le_iff_toInt_le, Int32.not_lt, Int32.not_le, ← Int32.toInt_inj, Int32.reduceToInt] at *; omega))).symm⟩)
    · refine G.iconst (v := 1) C dX5_areLines_11 (by decide) ?_
      refine G.goto (tgt := 16) C dX5_areLines_12 (by decide) ?_
      subst hQ
      exact G.zret C hr (by rfl) dX5_areLines_16 (by
          first | exact ⟨rfl, (wb_t (by simp_all [Int32.not_lt, Int32.not_le])).symm⟩ | exact ⟨rfl, (wb_f (by first | (simp_all [Int32.not_lt, Int32.not_le]; done) | (simp only [Int32.lt_iff_toInt_lt, Int32.le_iff_toInt_le, Int32.not_lt, Int32.not_le, ← Int32.toInt_inj, Int32.reduceToInt] at *; omega))).symm⟩)
set_option maxHeartbeats 4000000 in
set_option maxRecDepth 100000 in
theorem ok_X5_isLine {w : wD} (hw : wOK w) (σ : wSt) (a : Int32)  : MI w yX5_isLine cX5_isLine 1 (some .boolean) 0 0 [.int a] σ (fun r τ => σ = τ ∧ r = wb (0 ≤ a ∧ a < 12)) := by
  refine MI.of hw (by decide +kernel) (Nat.le_of_ble_eq_true rfl) (fun x C hr => ?_)
  suffices key : ∀ Q, Q = QI w x (fun r τ => σ = τ ∧ r = wb (0 ≤ a ∧ a < 12)) → G w x 1 Q 0 [(0, .int a)] [] σ from key _ rfl
  intro Q hQ
  refine G.iload_n C 0 dX5_isLine_0 rfl rfl ?_
  refine G.if_lt (tgt := 14) C dX5_isLine_1 (by decide) (fun c_1 => ?_) (fun c_1 => ?_)
  · refine G.iconst (v := 0) C dX5_isLine_14 (by decide) ?_
    subst hQ
    exact G.zret C hr (by rfl) dX5_isLine_15 (by
        first | exact ⟨rfl, (wb_t (by simp_all [Int32.not_lt, Int32.not_le])).symm⟩ | exact ⟨rfl, (wb_f (by first | (simp_all [Int32.not_lt, Int32.not_le]; done) | (simp only [Int32.lt_iff_toInt_lt, Int32.le_iff_toInt_le, Int32.not_lt, Int32.not_le, ← Int32.toInt_inj, Int32.reduceToInt] at *; omega))).symm⟩)
  · refine G.iload_n C 0 dX5_isLine_4 rfl rfl ?_
    refine G.bipush (v := 12) C dX5_isLine_5 (by decide) ?_
    refine G.icmp_ge (tgt := 14) C dX5_isLine_7 (by decide) (fun c_7 => ?_) (fun c_7 => ?_)
    · refine G.iconst (v := 0) C dX5_isLine_14 (by decide) ?_
      subst hQ
      exact G.zret C hr (by rfl) dX5_isLine_15 (by
          first | exact ⟨rfl, (wb_t (by simp_all [Int32.not_lt, Int32.not_le])).symm⟩ | exact ⟨rfl, (wb_f (by first | (simp_all [Int32.not_lt, Int32.not_le]; done) | (simp only [Int32.lt_iff_toInt_lt, Int32.le_iff_toInt_le, Int32.not_lt, Int32.not_le, ← Int32.toInt_inj, Int32.reduceToInt] at *; omega))).symm⟩)
    · refine G.iconst (v := 1) C dX5_isLine_10 (by decide) ?_
      refine G.goto (tgt := 15) C dX5_isLine_11 (by decide) ?_
      subst hQ
      exact G.zret C hr (by rfl) dX5_isLine_15 (by
          first | exact ⟨rfl, (wb_t (by simp_all [Int32.not_lt, Int32.not_le])).symm⟩ | exact ⟨rfl, (wb_f (by first | (simp_all [Int32.not_lt, Int32.not_le]; done) | (simp only [Int32.lt_iff_toInt_lt, Int32.le_iff_toInt_le, Int32.not_lt, Int32.not_le, ← Int32.toInt_inj, Int32.reduceToInt] at *; omega))).symm⟩)
set_option maxHeartbeats 4000000 in
set_option maxRecDepth 100000 in
theorem ok_X5_isYear {w : wD} (hw : wOK w) (σ : wSt) (a : Int32)  : MI w yX5_isYear cX5_isYear 1 (some .boolean) 0 0 [.int a] σ (fun r τ => σ = τ ∧ r = wb (1500 ≤ a ∧ a ≤ 1900)) := by
  refine MI.of hw (by decide +kernel) (Nat.le_of_ble_eq_true rfl) (fun x C hr => ?_)
  suffices key : ∀ Q, Q = QI w x (fun r τ => σ = τ ∧ r = wb (1500 ≤ a ∧ a ≤ 1900)) → G w x 1 Q 0 [(0, .int a)] [] σ from key _ rfl
  intro Q hQ
  refine G.iload_n C 0 dX5_isYear_0 rfl rfl ?_
  refine G.sipush (v := 1500) C dX5_isYear_1 (by decide) ?_
  refine G.icmp_lt (tgt := 18) C dX5_isYear_4 (by decide) (fun c_4 => ?_) (fun c_4 => ?_)
  · refine G.iconst (v := 0) C dX5_isYear_18 (by decide) ?_
    subst hQ
    exact G.zret C hr (by rfl) dX5_isYear_19 (by
        first | exact ⟨rfl, (wb_t (by simp_all [Int32.not_lt, Int32.not_le])).symm⟩ | exact ⟨rfl, (wb_f (by first | (simp_all [Int32.not_lt, Int32.not_le]; done) | (simp only [Int32.lt_iff_toInt_lt, Int32.le_iff_toInt_le, Int32.not_lt, Int32.not_le, ← Int32.toInt_inj, Int32.reduceToInt] at *; omega))).symm⟩)
  · refine G.iload_n C 0 dX5_isYear_7 rfl rfl ?_
    refine G.sipush (v := 1900) C dX5_isYear_8 (by decide) ?_
    refine G.icmp_gt (tgt := 18) C dX5_isYear_11 (by decide) (fun c_11 => ?_) (fun c_11 => ?_)
    · refine G.iconst (v := 0) C dX5_isYear_18 (by decide) ?_
      subst hQ
      exact G.zret C hr (by rfl) dX5_isYear_19 (by
          first | exact ⟨rfl, (wb_t (by simp_all [Int32.not_lt, Int32.not_le])).symm⟩ | exact ⟨rfl, (wb_f (by first | (simp_all [Int32.not_lt, Int32.not_le]; done) | (simp only [Int32.lt_iff_toInt_lt, Int32.le_iff_toInt_le, Int32.not_lt, Int32.not_le, ← Int32.toInt_inj, Int32.reduceToInt] at *; omega))).symm⟩)
    · refine G.iconst (v := 1) C dX5_isYear_14 (by decide) ?_
      refine G.goto (tgt := 19) C dX5_isYear_15 (by decide) ?_
      subst hQ
      exact G.zret C hr (by rfl) dX5_isYear_19 (by
          first | exact ⟨rfl, (wb_t (by simp_all [Int32.not_lt, Int32.not_le])).symm⟩ | exact ⟨rfl, (wb_f (by first | (simp_all [Int32.not_lt, Int32.not_le]; done) | (simp only [Int32.lt_iff_toInt_lt, Int32.le_iff_toInt_le, Int32.not_lt, Int32.not_le, ← Int32.toInt_inj, Int32.reduceToInt] at *; omega))).symm⟩)
set_option maxHeartbeats 4000000 in
set_option maxRecDepth 100000 in
theorem ok_X5_isFirstOrSecond {w : wD} (hw : wOK w) (σ : wSt) (a : Int32)  : MI w yX5_isFirstOrSecond cX5_isFirstOrSecond 1 (some .boolean) 0 0 [.int a] σ (fun r τ => σ = τ ∧ r = wb (a = 0 ∨ a = 1)) := by
  refine MI.of hw (by decide +kernel) (Nat.le_of_ble_eq_true rfl) (fun x C hr => ?_)
  suffices key : ∀ Q, Q = QI w x (fun r τ => σ = τ ∧ r = wb (a = 0 ∨ a = 1)) → G w x 1 Q 0 [(0, .int a)] [] σ from key _ rfl
  intro Q hQ
  refine G.iload_n C 0 dX5_isFirstOrSecond_0 rfl rfl ?_
  refine G.if_eq (tgt := 9) C dX5_isFirstOrSecond_1 (by decide) (fun c_1 => ?_) (fun c_1 => ?_)
  · refine G.iconst (v := 1) C dX5_isFirstOrSecond_9 (by decide) ?_
    refine G.goto (tgt := 14) C dX5_isFirstOrSecond_10 (by decide) ?_
    subst hQ
    exact G.zret C hr (by rfl) dX5_isFirstOrSecond_14 (by
        first | exact ⟨rfl, (wb_t (by simp_all [Int32.not_lt, Int32.not_le])).symm⟩ | exact ⟨rfl, (wb_f (by first | (simp_all [Int32.not_lt, Int32.not_le]; done) | (simp only [Int32.lt_iff_toInt_lt, Int32.le_iff_toInt_le, Int32.not_lt, Int32.not_le, ← Int32.toInt_inj, Int32.reduceToInt] at *; omega))).symm⟩)
  · refine G.iload_n C 0 dX5_isFirstOrSecond_4 rfl rfl ?_
    refine G.iconst (v := 1) C dX5_isFirstOrSecond_5 (by decide) ?_
    refine G.icmp_ne (tgt := 13) C dX5_isFirstOrSecond_6 (by decide) (fun c_6 => ?_) (fun c_6 => ?_)
    · refine G.iconst (v := 0) C dX5_isFirstOrSecond_13 (by decide) ?_
      subst hQ
      exact G.zret C hr (by rfl) dX5_isFirstOrSecond_14 (by
          first | exact ⟨rfl, (wb_t (by simp_all [Int32.not_lt, Int32.not_le])).symm⟩ | exact ⟨rfl, (wb_f (by first | (simp_all [Int32.not_lt, Int32.not_le]; done) | (simp only [Int32.lt_iff_toInt_lt, Int32.le_iff_toInt_le, Int32.not_lt, Int32.not_le, ← Int32.toInt_inj, Int32.reduceToInt] at *; omega))).symm⟩)
    · refine G.iconst (v := 1) C dX5_isFirstOrSecond_9 (by decide) ?_
      refine G.goto (tgt := 14) C dX5_isFirstOrSecond_10 (by decide) ?_
      subst hQ
      exact G.zret C hr (by rfl) dX5_isFirstOrSecond_14 (by
          first | exact ⟨rfl, (wb_t (by simp_all [Int32.not_lt, Int32.not_le])).symm⟩ | exact ⟨rfl, (wb_f (by first | (simp_all [Int32.not_lt, Int32.not_le]; done) | (simp only [Int32.lt_iff_toInt_lt, Int32.le_iff_toInt_le, Int32.not_lt, Int32.not_le, ← Int32.toInt_inj, Int32.reduceToInt] at *; omega))).symm⟩)
set_option maxHeartbeats 4000000 in
set_option maxRecDepth 100000 in
theorem ok_X5_isBook {w : wD} (hw : wOK w) (σ : wSt) (a : Int32)  : MI w yX5_isBook cX5_isBook 1 (some .boolean) 0 0 [.int a] σ (fun r τ => σ = τ ∧ r = wb (0 ≤ a ∧ a < 4)) := by
  refine MI.of hw (by decide +kernel) (Nat.le_of_ble_eq_true rfl) (fun x C hr => ?_)
  suffices key : ∀ Q, Q = QI w x (fun r τ => σ = τ ∧ r = wb (0 ≤ a ∧ a < 4)) → G w x 1 Q 0 [(0, .int a)] [] σ from key _ rfl
  intro Q hQ
  refine G.iload_n C 0 dX5_isBook_0 rfl rfl ?_
  refine G.if_lt (tgt := 13) C dX5_isBook_1 (by decide) (fun c_1 => ?_) (fun c_1 => ?_)
  · refine G.iconst (v := 0) C dX5_isBook_13 (by decide) ?_
    subst hQ
    exact G.zret C hr (by rfl) dX5_isBook_14 (by
        first | exact ⟨rfl, (wb_t (by simp_all [Int32.not_lt, Int32.not_le])).symm⟩ | exact ⟨rfl, (wb_f (by first | (simp_all [Int32.not_lt, Int32.not_le]; done) | (simp only [Int32.lt_iff_toInt_lt, Int32.le_iff_toInt_le, Int32.not_lt, Int32.not_le, ← Int32.toInt_inj, Int32.reduceToInt] at *; omega))).symm⟩)
  · refine G.iload_n C 0 dX5_isBook_4 rfl rfl ?_
    refine G.iconst (v := 4) C dX5_isBook_5 (by decide) ?_
    refine G.icmp_ge (tgt := 13) C dX5_isBook_6 (by decide) (fun c_6 => ?_) (fun c_6 => ?_)
    · refine G.iconst (v := 0) C dX5_isBook_13 (by decide) ?_
      subst hQ
      exact G.zret C hr (by rfl) dX5_isBook_14 (by
          first | exact ⟨rfl, (wb_t (by simp_all [Int32.not_lt, Int32.not_le])).symm⟩ | exact ⟨rfl, (wb_f (by first | (simp_all [Int32.not_lt, Int32.not_le]; done) | (simp only [Int32.lt_iff_toInt_lt, Int32.le_iff_toInt_le, Int32.not_lt, Int32.not_le, ← Int32.toInt_inj, Int32.reduceToInt] at *; omega))).symm⟩)
    · refine G.iconst (v := 1) C dX5_isBook_9 (by decide) ?_
      refine G.goto (tgt := 14) C dX5_isBook_10 (by decide) ?_
      subst hQ
      exact G.zret C hr (by rfl) dX5_isBook_14 (by
          first | exact ⟨rfl, (wb_t (by simp_all [Int32.not_lt, Int32.not_le])).symm⟩ | exact ⟨rfl, (wb_f (by first | (simp_all [Int32.not_lt, Int32.not_le]; done) | (simp only [Int32.lt_iff_toInt_lt, Int32.le_iff_toInt_le, Int32.not_lt, Int32.not_le, ← Int32.toInt_inj, Int32.reduceToInt] at *; omega))).symm⟩)
set_option maxHeartbeats 4000000 in
set_option maxRecDepth 100000 in
theorem ok_X5_isLeaf {w : wD} (hw : wOK w) (σ : wSt) (a : Int32)  : MI w yX5_isLeaf cX5_isLeaf 2 (some .boolean) 0 0 [.ref (w.2.2.2.1 0 0), .int a] σ (fun r τ => σ = τ ∧ r = wb (0 ≤ a ∧ a < σ.1 0 0 3)) := by
  refine MI.of hw (by decide +kernel) (Nat.le_of_ble_eq_true rfl) (fun x C hr => ?_)
  suffices key : ∀ Q, Q = QI w x (fun r τ => σ = τ ∧ r = wb (0 ≤ a ∧ a < σ.1 0 0 3)) → G w x 2 Q 0 [(0, .ref (w.2.2.2.1 0 0)), (1, .int a)] [] σ from key _ rfl
  intro Q hQ
  refine G.iload_n C 1 dX5_isLeaf_0 rfl rfl ?_
  refine G.if_lt (tgt := 16) C dX5_isLeaf_1 (by decide) (fun c_1 => ?_) (fun c_1 => ?_)
  · refine G.iconst (v := 0) C dX5_isLeaf_16 (by decide) ?_
    subst hQ
    exact G.zret C hr (by rfl) dX5_isLeaf_17 (by
        first | exact ⟨rfl, (wb_t (by simp_all [Int32.not_lt, Int32.not_le])).symm⟩ | exact ⟨rfl, (wb_f (by first | (simp_all [Int32.not_lt, Int32.not_le]; done) | (simp only [Int32.lt_iff_toInt_lt, Int32.le_iff_toInt_le, Int32.not_lt, Int32.not_le, ← Int32.toInt_inj, Int32.reduceToInt] at *; omega))).symm⟩)
  · refine G.iload_n C 1 dX5_isLeaf_4 rfl rfl ?_
    refine G.aload_n C 0 dX5_isLeaf_5 rfl rfl ?_
    refine G.get (g := 0) (i := 0) C 3 none dX5_isLeaf_6 (by decide) rfl rfl uX_X5 (by decide) uf_RX5_29 rfl rfl ?_
    refine G.icmp_ge (tgt := 16) C dX5_isLeaf_9 (by decide) (fun c_9 => ?_) (fun c_9 => ?_)
    · refine G.iconst (v := 0) C dX5_isLeaf_16 (by decide) ?_
      subst hQ
      exact G.zret C hr (by rfl) dX5_isLeaf_17 (by
          first | exact ⟨rfl, (wb_t (by simp_all [Int32.not_lt, Int32.not_le])).symm⟩ | exact ⟨rfl, (wb_f (by first | (simp_all [Int32.not_lt, Int32.not_le]; done) | (simp only [Int32.lt_iff_toInt_lt, Int32.le_iff_toInt_le, Int32.not_lt, Int32.not_le, ← Int32.toInt_inj, Int32.reduceToInt] at *; omega))).symm⟩)
    · refine G.iconst (v := 1) C dX5_isLeaf_12 (by decide) ?_
      refine G.goto (tgt := 17) C dX5_isLeaf_13 (by decide) ?_
      subst hQ
      exact G.zret C hr (by rfl) dX5_isLeaf_17 (by
          first | exact ⟨rfl, (wb_t (by simp_all [Int32.not_lt, Int32.not_le])).symm⟩ | exact ⟨rfl, (wb_f (by first | (simp_all [Int32.not_lt, Int32.not_le]; done) | (simp only [Int32.lt_iff_toInt_lt, Int32.le_iff_toInt_le, Int32.not_lt, Int32.not_le, ← Int32.toInt_inj, Int32.reduceToInt] at *; omega))).symm⟩)
set_option maxHeartbeats 4000000 in
set_option maxRecDepth 100000 in
theorem ok_X5_isMould {w : wD} (hw : wOK w) (σ : wSt) (a : Int32)  : MI w yX5_isMould cX5_isMould 2 (some .boolean) 0 0 [.ref (w.2.2.2.1 0 0), .int a] σ (fun r τ => σ = τ ∧ r = wb (0 ≤ a ∧ a < σ.1 0 0 5)) := by
  refine MI.of hw (by decide +kernel) (Nat.le_of_ble_eq_true rfl) (fun x C hr => ?_)
  suffices key : ∀ Q, Q = QI w x (fun r τ => σ = τ ∧ r = wb (0 ≤ a ∧ a < σ.1 0 0 5)) → G w x 2 Q 0 [(0, .ref (w.2.2.2.1 0 0)), (1, .int a)] [] σ from key _ rfl
  intro Q hQ
  refine G.iload_n C 1 dX5_isMould_0 rfl rfl ?_
  refine G.if_lt (tgt := 16) C dX5_isMould_1 (by decide) (fun c_1 => ?_) (fun c_1 => ?_)
  · refine G.iconst (v := 0) C dX5_isMould_16 (by decide) ?_
    subst hQ
    exact G.zret C hr (by rfl) dX5_isMould_17 (by
        first | exact ⟨rfl, (wb_t (by simp_all [Int32.not_lt, Int32.not_le])).symm⟩ | exact ⟨rfl, (wb_f (by first | (simp_all [Int32.not_lt, Int32.not_le]; done) | (simp only [Int32.lt_iff_toInt_lt, Int32.le_iff_toInt_le, Int32.not_lt, Int32.not_le, ← Int32.toInt_inj, Int32.reduceToInt] at *; omega))).symm⟩)
  · refine G.iload_n C 1 dX5_isMould_4 rfl rfl ?_
    refine G.aload_n C 0 dX5_isMould_5 rfl rfl ?_
    refine G.get (g := 0) (i := 0) C 5 none dX5_isMould_6 (by decide) rfl rfl uX_X5 (by decide) uf_RX5_39 rfl rfl ?_
    refine G.icmp_ge (tgt := 16) C dX5_isMould_9 (by decide) (fun c_9 => ?_) (fun c_9 => ?_)
    · refine G.iconst (v := 0) C dX5_isMould_16 (by decide) ?_
      subst hQ
      exact G.zret C hr (by rfl) dX5_isMould_17 (by
          first | exact ⟨rfl, (wb_t (by simp_all [Int32.not_lt, Int32.not_le])).symm⟩ | exact ⟨rfl, (wb_f (by first | (simp_all [Int32.not_lt, Int32.not_le]; done) | (simp only [Int32.lt_iff_toInt_lt, Int32.le_iff_toInt_le, Int32.not_lt, Int32.not_le, ← Int32.toInt_inj, Int32.reduceToInt] at *; omega))).symm⟩)
    · refine G.iconst (v := 1) C dX5_isMould_12 (by decide) ?_
      refine G.goto (tgt := 17) C dX5_isMould_13 (by decide) ?_
      subst hQ
      exact G.zret C hr (by rfl) dX5_isMould_17 (by
          first | exact ⟨rfl, (wb_t (by simp_all [Int32.not_lt, Int32.not_le])).symm⟩ | exact ⟨rfl, (wb_f (by first | (simp_all [Int32.not_lt, Int32.not_le]; done) | (simp only [Int32.lt_iff_toInt_lt, Int32.le_iff_toInt_le, Int32.not_lt, Int32.not_le, ← Int32.toInt_inj, Int32.reduceToInt] at *; omega))).symm⟩)
set_option maxHeartbeats 4000000 in
set_option maxRecDepth 100000 in
theorem ok_X3_hasState {w : wD} (hw : wOK w) (σ : wSt) (a : Int32)  : MI w yX3_hasState cX3_hasState 2 (some .boolean) 0 0 [.ref (w.2.2.2.1 1 0), .int a] σ (fun r τ => σ = τ ∧ r = wb (0 ≤ a ∧ a < σ.1 1 0 5)) := by
  refine MI.of hw (by decide +kernel) (Nat.le_of_ble_eq_true rfl) (fun x C hr => ?_)
  suffices key : ∀ Q, Q = QI w x (fun r τ => σ = τ ∧ r = wb (0 ≤ a ∧ a < σ.1 1 0 5)) → G w x 2 Q 0 [(0, .ref (w.2.2.2.1 1 0)), (1, .int a)] [] σ from key _ rfl
  intro Q hQ
  refine G.iload_n C 1 dX3_hasState_0 rfl rfl ?_
  refine G.if_lt (tgt := 16) C dX3_hasState_1 (by decide) (fun c_1 => ?_) (fun c_1 => ?_)
  · refine G.iconst (v := 0) C dX3_hasState_16 (by decide) ?_
    subst hQ
    exact G.zret C hr (by rfl) dX3_hasState_17 (by
        first | exact ⟨rfl, (wb_t (by simp_all [Int32.not_lt, Int32.not_le])).symm⟩ | exact ⟨rfl, (wb_f (by first | (simp_all [Int32.not_lt, Int32.not_le]; done) | (simp only [Int32.lt_iff_toInt_lt, Int32.le_iff_toInt_le, Int32.not_lt, Int32.not_le, ← Int32.toInt_inj, Int32.reduceToInt] at *; omega))).symm⟩)
  · refine G.iload_n C 1 dX3_hasState_4 rfl rfl ?_
    refine G.aload_n C 0 dX3_hasState_5 rfl rfl ?_
    refine G.get (g := 1) (i := 0) C 5 none dX3_hasState_6 (by decide) rfl rfl uX_X3 (by decide) uf_RX3_31 rfl rfl ?_
    refine G.icmp_ge (tgt := 16) C dX3_hasState_9 (by decide) (fun c_9 => ?_) (fun c_9 => ?_)
    · refine G.iconst (v := 0) C dX3_hasState_16 (by decide) ?_
      subst hQ
      exact G.zret C hr (by rfl) dX3_hasState_17 (by
          first | exact ⟨rfl, (wb_t (by simp_all [Int32.not_lt, Int32.not_le])).symm⟩ | exact ⟨rfl, (wb_f (by first | (simp_all [Int32.not_lt, Int32.not_le]; done) | (simp only [Int32.lt_iff_toInt_lt, Int32.le_iff_toInt_le, Int32.not_lt, Int32.not_le, ← Int32.toInt_inj, Int32.reduceToInt] at *; omega))).symm⟩)
    · refine G.iconst (v := 1) C dX3_hasState_12 (by decide) ?_
      refine G.goto (tgt := 17) C dX3_hasState_13 (by decide) ?_
      subst hQ
      exact G.zret C hr (by rfl) dX3_hasState_17 (by
          first | exact ⟨rfl, (wb_t (by simp_all [Int32.not_lt, Int32.not_le])).symm⟩ | exact ⟨rfl, (wb_f (by first | (simp_all [Int32.not_lt, Int32.not_le]; done) | (simp only [Int32.lt_iff_toInt_lt, Int32.le_iff_toInt_le, Int32.not_lt, Int32.not_le, ← Int32.toInt_inj, Int32.reduceToInt] at *; omega))).symm⟩)
set_option maxHeartbeats 4000000 in
set_option maxRecDepth 100000 in
theorem ok_X0_hasMap {w : wD} (hw : wOK w) (σ : wSt) (a : Int32)  : MI w yX0_hasMap cX0_hasMap 2 (some .boolean) 0 0 [.ref (w.2.2.2.1 2 0), .int a] σ (fun r τ => σ = τ ∧ r = wb (0 ≤ a ∧ a < σ.1 2 0 4)) := by
  refine MI.of hw (by decide +kernel) (Nat.le_of_ble_eq_true rfl) (fun x C hr => ?_)
  suffices key : ∀ Q, Q = QI w x (fun r τ => σ = τ ∧ r = wb (0 ≤ a ∧ a < σ.1 2 0 4)) → G w x 2 Q 0 [(0, .ref (w.2.2.2.1 2 0)), (1, .int a)] [] σ from key _ rfl
  intro Q hQ
  refine G.iload_n C 1 dX0_hasMap_0 rfl rfl ?_
  refine G.if_lt (tgt := 16) C dX0_hasMap_1 (by decide) (fun c_1 => ?_) (fun c_1 => ?_)
  · refine G.iconst (v := 0) C dX0_hasMap_16 (by decide) ?_
    subst hQ
    exact G.zret C hr (by rfl) dX0_hasMap_17 (by
        first | exact ⟨rfl, (wb_t (by simp_all [Int32.not_lt, Int32.not_le])).symm⟩ | exact ⟨rfl, (wb_f (by first | (simp_all [Int32.not_lt, Int32.not_le]; done) | (simp only [Int32.lt_iff_toInt_lt, Int32.le_iff_toInt_le, Int32.not_lt, Int32.not_le, ← Int32.toInt_inj, Int32.reduceToInt] at *; omega))).symm⟩)
  · refine G.iload_n C 1 dX0_hasMap_4 rfl rfl ?_
    refine G.aload_n C 0 dX0_hasMap_5 rfl rfl ?_
    refine G.get (g := 2) (i := 0) C 4 none dX0_hasMap_6 (by decide) rfl rfl uX_X0 (by decide) uf_RX0_25 rfl rfl ?_
    refine G.icmp_ge (tgt := 16) C dX0_hasMap_9 (by decide) (fun c_9 => ?_) (fun c_9 => ?_)
    · refine G.iconst (v := 0) C dX0_hasMap_16 (by decide) ?_
      subst hQ
      exact G.zret C hr (by rfl) dX0_hasMap_17 (by
          first | exact ⟨rfl, (wb_t (by simp_all [Int32.not_lt, Int32.not_le])).symm⟩ | exact ⟨rfl, (wb_f (by first | (simp_all [Int32.not_lt, Int32.not_le]; done) | (simp only [Int32.lt_iff_toInt_lt, Int32.le_iff_toInt_le, Int32.not_lt, Int32.not_le, ← Int32.toInt_inj, Int32.reduceToInt] at *; omega))).symm⟩)
    · refine G.iconst (v := 1) C dX0_hasMap_12 (by decide) ?_
      refine G.goto (tgt := 17) C dX0_hasMap_13 (by decide) ?_
      subst hQ
      exact G.zret C hr (by rfl) dX0_hasMap_17 (by
          first | exact ⟨rfl, (wb_t (by simp_all [Int32.not_lt, Int32.not_le])).symm⟩ | exact ⟨rfl, (wb_f (by first | (simp_all [Int32.not_lt, Int32.not_le]; done) | (simp only [Int32.lt_iff_toInt_lt, Int32.le_iff_toInt_le, Int32.not_lt, Int32.not_le, ← Int32.toInt_inj, Int32.reduceToInt] at *; omega))).symm⟩)
set_option maxHeartbeats 4000000 in
set_option maxRecDepth 100000 in
theorem ok_X1_isPlace {w : wD} (hw : wOK w) (σ : wSt) (a : Int32)  : MI w yX1_isPlace cX1_isPlace 1 (some .boolean) 0 0 [.int a] σ (fun r τ => σ = τ ∧ r = wb (0 ≤ a ∧ a < 100)) := by
  refine MI.of hw (by decide +kernel) (Nat.le_of_ble_eq_true rfl) (fun x C hr => ?_)
  suffices key : ∀ Q, Q = QI w x (fun r τ => σ = τ ∧ r = wb (0 ≤ a ∧ a < 100)) → G w x 1 Q 0 [(0, .int a)] [] σ from key _ rfl
  intro Q hQ
  refine G.iload_n C 0 dX1_isPlace_0 rfl rfl ?_
  refine G.if_lt (tgt := 14) C dX1_isPlace_1 (by decide) (fun c_1 => ?_) (fun c_1 => ?_)
  · refine G.iconst (v := 0) C dX1_isPlace_14 (by decide) ?_
    subst hQ
    exact G.zret C hr (by rfl) dX1_isPlace_15 (by
        first | exact ⟨rfl, (wb_t (by simp_all [Int32.not_lt, Int32.not_le])).symm⟩ | exact ⟨rfl, (wb_f (by first | (simp_all [Int32.not_lt, Int32.not_le]; done) | (simp only [Int32.lt_iff_toInt_lt, Int32.le_iff_toInt_le, Int32.not_lt, Int32.not_le, ← Int32.toInt_inj, Int32.reduceToInt] at *; omega))).symm⟩)
  · refine G.iload_n C 0 dX1_isPlace_4 rfl rfl ?_
    refine G.bipush (v := 100) C dX1_isPlace_5 (by decide) ?_
    refine G.icmp_ge (tgt := 14) C dX1_isPlace_7 (by decide) (fun c_7 => ?_) (fun c_7 => ?_)
    · refine G.iconst (v := 0) C dX1_isPlace_14 (by decide) ?_
      subst hQ
      exact G.zret C hr (by rfl) dX1_isPlace_15 (by
          first | exact ⟨rfl, (wb_t (by simp_all [Int32.not_lt, Int32.not_le])).symm⟩ | exact ⟨rfl, (wb_f (by first | (simp_all [Int32.not_lt, Int32.not_le]; done) | (simp only [Int32.lt_iff_toInt_lt, Int32.le_iff_toInt_le, Int32.not_lt, Int32.not_le, ← Int32.toInt_inj, Int32.reduceToInt] at *; omega))).symm⟩)
    · refine G.iconst (v := 1) C dX1_isPlace_10 (by decide) ?_
      refine G.goto (tgt := 15) C dX1_isPlace_11 (by decide) ?_
      subst hQ
      exact G.zret C hr (by rfl) dX1_isPlace_15 (by
          first | exact ⟨rfl, (wb_t (by simp_all [Int32.not_lt, Int32.not_le])).symm⟩ | exact ⟨rfl, (wb_f (by first | (simp_all [Int32.not_lt, Int32.not_le]; done) | (simp only [Int32.lt_iff_toInt_lt, Int32.le_iff_toInt_le, Int32.not_lt, Int32.not_le, ← Int32.toInt_inj, Int32.reduceToInt] at *; omega))).symm⟩)
set_option maxHeartbeats 4000000 in
set_option maxRecDepth 100000 in
theorem ok_X1_isShift {w : wD} (hw : wOK w) (σ : wSt) (a : Int32)  : MI w yX1_isShift cX1_isShift 1 (some .boolean) 0 0 [.int a] σ (fun r τ => σ = τ ∧ r = wb (-20 ≤ a ∧ a ≤ 20)) := by
  refine MI.of hw (by decide +kernel) (Nat.le_of_ble_eq_true rfl) (fun x C hr => ?_)
  suffices key : ∀ Q, Q = QI w x (fun r τ => σ = τ ∧ r = wb (-20 ≤ a ∧ a ≤ 20)) → G w x 1 Q 0 [(0, .int a)] [] σ from key _ rfl
  intro Q hQ
  refine G.iload_n C 0 dX1_isShift_0 rfl rfl ?_
  refine G.bipush (v := -20) C dX1_isShift_1 (by decide) ?_
  refine G.icmp_lt (tgt := 16) C dX1_isShift_3 (by decide) (fun c_3 => ?_) (fun c_3 => ?_)
  · refine G.iconst (v := 0) C dX1_isShift_16 (by decide) ?_
    subst hQ
    exact G.zret C hr (by rfl) dX1_isShift_17 (by
        first | exact ⟨rfl, (wb_t (by simp_all [Int32.not_lt, Int32.not_le])).symm⟩ | exact ⟨rfl, (wb_f (by first | (simp_all [Int32.not_lt, Int32.not_le]; done) | (simp only [Int32.lt_iff_toInt_lt, Int32.le_iff_toInt_le, Int32.not_lt, Int32.not_le, ← Int32.toInt_inj, Int32.reduceToInt] at *; omega))).symm⟩)
  · refine G.iload_n C 0 dX1_isShift_6 rfl rfl ?_
    refine G.bipush (v := 20) C dX1_isShift_7 (by decide) ?_
    refine G.icmp_gt (tgt := 16) C dX1_isShift_9 (by decide) (fun c_9 => ?_) (fun c_9 => ?_)
    · refine G.iconst (v := 0) C dX1_isShift_16 (by decide) ?_
      subst hQ
      exact G.zret C hr (by rfl) dX1_isShift_17 (by
          first | exact ⟨rfl, (wb_t (by simp_all [Int32.not_lt, Int32.not_le])).symm⟩ | exact ⟨rfl, (wb_f (by first | (simp_all [Int32.not_lt, Int32.not_le]; done) | (simp only [Int32.lt_iff_toInt_lt, Int32.le_iff_toInt_le, Int32.not_lt, Int32.not_le, ← Int32.toInt_inj, Int32.reduceToInt] at *; omega))).symm⟩)
    · refine G.iconst (v := 1) C dX1_isShift_12 (by decide) ?_
      refine G.goto (tgt := 17) C dX1_isShift_13 (by decide) ?_
      subst hQ
      exact G.zret C hr (by rfl) dX1_isShift_17 (by
          first | exact ⟨rfl, (wb_t (by simp_all [Int32.not_lt, Int32.not_le])).symm⟩ | exact ⟨rfl, (wb_f (by first | (simp_all [Int32.not_lt, Int32.not_le]; done) | (simp only [Int32.lt_iff_toInt_lt, Int32.le_iff_toInt_le, Int32.not_lt, Int32.not_le, ← Int32.toInt_inj, Int32.reduceToInt] at *; omega))).symm⟩)
set_option maxHeartbeats 4000000 in
set_option maxRecDepth 100000 in
theorem ok_X6_in {w : wD} (hw : wOK w) (σ : wSt) (a b c : Int32)  : MI w yX6_in cX6_in 3 (some .boolean) 0 0 [.int a, .int b, .int c] σ (fun r τ => σ = τ ∧ r = wb (b ≤ a ∧ a ≤ c)) := by
  refine MI.of hw (by decide +kernel) (Nat.le_of_ble_eq_true rfl) (fun x C hr => ?_)
  suffices key : ∀ Q, Q = QI w x (fun r τ => σ = τ ∧ r = wb (b ≤ a ∧ a ≤ c)) → G w x 3 Q 0 [(0, .int a), (1, .int b), (2, .int c)] [] σ from key _ rfl
  intro Q hQ
  refine G.iload_n C 0 dX6_in_0 rfl rfl ?_
  refine G.iload_n C 1 dX6_in_1 rfl rfl ?_
  refine G.icmp_lt (tgt := 14) C dX6_in_2 (by decide) (fun c_2 => ?_) (fun c_2 => ?_)
  · refine G.iconst (v := 0) C dX6_in_14 (by decide) ?_
    subst hQ
    exact G.zret C hr (by rfl) dX6_in_15 (by
        first | exact ⟨rfl, (wb_t (by simp_all [Int32.not_lt, Int32.not_le])).symm⟩ | exact ⟨rfl, (wb_f (by first | (simp_all [Int32.not_lt, Int32.not_le]; done) | (simp only [Int32.lt_iff_toInt_lt, Int32.le_iff_toInt_le, Int32.not_lt, Int32.not_le, ← Int32.toInt_inj, Int32.reduceToInt] at *; omega))).symm⟩)
  · refine G.iload_n C 0 dX6_in_5 rfl rfl ?_
    refine G.iload_n C 2 dX6_in_6 rfl rfl ?_
    refine G.icmp_gt (tgt := 14) C dX6_in_7 (by decide) (fun c_7 => ?_) (fun c_7 => ?_)
    · refine G.iconst (v := 0) C dX6_in_14 (by decide) ?_
      subst hQ
      exact G.zret C hr (by rfl) dX6_in_15 (by
          first | exact ⟨rfl, (wb_t (by simp_all [Int32.not_lt, Int32.not_le])).symm⟩ | exact ⟨rfl, (wb_f (by first | (simp_all [Int32.not_lt, Int32.not_le]; done) | (simp only [Int32.lt_iff_toInt_lt, Int32.le_iff_toInt_le, Int32.not_lt, Int32.not_le, ← Int32.toInt_inj, Int32.reduceToInt] at *; omega))).symm⟩)
    · refine G.iconst (v := 1) C dX6_in_10 (by decide) ?_
      refine G.goto (tgt := 15) C dX6_in_11 (by decide) ?_
      subst hQ
      exact G.zret C hr (by rfl) dX6_in_15 (by
          first | exact ⟨rfl, (wb_t (by simp_all [Int32.not_lt, Int32.not_le])).symm⟩ | exact ⟨rfl, (wb_f (by first | (simp_all [Int32.not_lt, Int32.not_le]; done) | (simp only [Int32.lt_iff_toInt_lt, Int32.le_iff_toInt_le, Int32.not_lt, Int32.not_le, ← Int32.toInt_inj, Int32.reduceToInt] at *; omega))).symm⟩)
