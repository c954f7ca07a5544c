/-! PART 05.e: the room's constructor -/
def zLs (w : wD) (a : Nat) : Nat → List va_E
  | 0 => []
  | i + 1 => zLs w a i ++ zX2 w (a + 3 * i)
def zBs (w : wD) (a : Nat) : Nat → List va_E
  | 0 => []
  | i + 1 => zBs w a i ++ zX1 w (a + 2 * i)
theorem zLs_len (w : wD) (a : Nat) : ∀ i : Nat, (zLs w a i).length = 3 * i
  | 0 => rfl
  | i + 1 => by
    show (zLs w a i ++ zX2 w (a + 3 * i)).length = _
    rw [List.length_append, zLs_len w a i]
    show 3 * i + 3 = _
    omega
theorem zBs_len (w : wD) (a : Nat) : ∀ i : Nat, (zBs w a i).length = 2 * i
  | 0 => rfl
  | i + 1 => by
    show (zBs w a i ++ zX1 w (a + 2 * i)).length = _
    rw [List.length_append, zBs_len w a i]
    show 2 * i + 2 = _
    omega
def zA5 (w : wD) (b : Nat) : List va_E := .inr (5, [.ref (b + 1), .ref (b + 76), .ref (b + 79), .int 0, .ref (b + 80), .int 0, .ref (b + 81), .long 0]) :: (zX3 w (b + 1) ++ zX0 w (b + 76))
theorem zA5_len (w : wD) (b : Nat) : (zA5 w b).length = 79 := rfl
def zP5 (w : wD) (b i m k : Nat) : List va_E := zA5 w b ++ [qA (w.2.2.1 1) 20 (b + 82) 3 i, qA (w.2.2.1 2) 8 (b + 142) 1 m, qA (w.2.2.1 3) 4 (b + 150) 2 k]
theorem zP5_len (w : wD) (b i m k : Nat) : (zP5 w b i m k).length = 82 := rfl
theorem zP5_0 {w : wD} {b i m k : Nat} {Y : List va_E} : (zP5 w b i m k ++ Y)[0]? = some (.inr (5, [.ref (b + 1), .ref (b + 76), .ref (b + 79), .int 0, .ref (b + 80), .int 0, .ref (b + 81), .long 0])) := rfl
theorem zP5_79 {w : wD} {b i m k : Nat} {Y : List va_E} : (zP5 w b i m k ++ Y)[79]? = some (qA (w.2.2.1 1) 20 (b + 82) 3 i) := by
  unfold zP5
  rw [List.append_assoc]
  exact gx_at 0 (zA5_len w b)
theorem zP5_80 {w : wD} {b i m k : Nat} {Y : List va_E} : (zP5 w b i m k ++ Y)[80]? = some (qA (w.2.2.1 2) 8 (b + 142) 1 m) := by
  unfold zP5
  rw [List.append_assoc]
  exact gx_at 1 (zA5_len w b)
theorem zP5_81 {w : wD} {b i m k : Nat} {Y : List va_E} : (zP5 w b i m k ++ Y)[81]? = some (qA (w.2.2.1 3) 4 (b + 150) 2 k) := by
  unfold zP5
  rw [List.append_assoc]
  exact gx_at 2 (zA5_len w b)
theorem zP5_s79 {w : wD} {b i m k j : Nat} {Y : List va_E} : (zP5 w b i m k ++ Y).set 79 (qA (w.2.2.1 1) 20 (b + 82) 3 j) = zP5 w b j m k ++ Y := by
  unfold zP5
  rw [List.append_assoc, List.append_assoc]
  exact gx_set 0 (zA5_len w b)
theorem zP5_s80 {w : wD} {b i m k j : Nat} {Y : List va_E} : (zP5 w b i m k ++ Y).set 80 (qA (w.2.2.1 2) 8 (b + 142) 1 j) = zP5 w b i j k ++ Y := by
  unfold zP5
  rw [List.append_assoc, List.append_assoc]
  exact gx_set 1 (zA5_len w b)
theorem zP5_s81 {w : wD} {b i m k j : Nat} {Y : List va_E} : (zP5 w b i m k ++ Y).set 81 (qA (w.2.2.1 3) 4 (b + 150) 2 j) = zP5 w b i m j ++ Y := by
  unfold zP5
  rw [List.append_assoc, List.append_assoc]
  exact gx_set 2 (zA5_len w b)
def zY1 (w : wD) (b i : Nat) : List va_E := zLs w (b + 82) i
def zY2 (w : wD) (b i : Nat) : List va_E := zLs w (b + 82) 20 ++ List.replicate i (.inr (4, [.int 1500, .int 1900]))
def zY3 (w : wD) (b i : Nat) : List va_E := zY2 w b 8 ++ zBs w (b + 150) i
theorem zY1_s (w : wD) (b i : Nat) : zY1 w b i ++ zX2 w (b + 82 + 3 * i) = zY1 w b (i + 1) := rfl
theorem zY2_s (w : wD) (b i : Nat) : zY2 w b i ++ zX4 = zY2 w b (i + 1) := by
  unfold zY2
  rw [List.append_assoc, List.replicate_succ']
  rfl
theorem zY3_s (w : wD) (b i : Nat) : zY3 w b i ++ zX1 w (b + 150 + 2 * i) = zY3 w b (i + 1) := by
  unfold zY3
  rw [List.append_assoc]
  rfl
theorem zY1_len (w : wD) (b i : Nat) : (zY1 w b i).length = 3 * i := zLs_len w (b + 82) i
theorem zY2_len (w : wD) (b i : Nat) : (zY2 w b i).length = 60 + 1 * i := by
  unfold zY2
  rw [List.length_append, zLs_len, List.length_replicate]
  omega
theorem zY3_len (w : wD) (b i : Nat) : (zY3 w b i).length = 68 + 2 * i := by
  unfold zY3
  rw [List.length_append, zBs_len, zY2_len]
theorem zY_at {A Y : List va_E} {zs : List va_E} {n : Nat} {e : va_E} (h : (A ++ Y).length = n) (hz : zs[0]? = some e) : (A ++ Y ++ zs)[n]? = some e := by
  have := gx_at (A := A ++ Y) (B := zs) 0 h
  rw [Nat.add_zero] at this
  rw [this]
  exact hz
def zX5 (w : wD) (b : Nat) : List va_E := zP5 w b 20 8 4 ++ zY3 w b 4
theorem X5_loop3 (w : wD) (b : Nat) {x : wX} (C : Cg w x cX5_init 2 yX5_init.cls 3 53) (hr : Rt x none) (hm : Cm x 157 887) : ∀ (n i : Nat), i + n = 4 → N w b x 2 (QN w b x 157 887 (zX5 w b)) 123 [(1, .int (nI i)), (0, .ref b)] [] (zP5 w b 20 8 i ++ zY3 w b i) (149 + 2 * i) (855 + 8 * i) := by
  intro n
  induction n with
  | zero =>
    intro i hi
    have hi6 : i = 4 := by omega
    subst hi6
    refine N.iload_n C 0 dX5_init_123 rfl rfl ?_
    refine N.iconst C (v := 4) dX5_init_124 rfl ?_
    refine N.icmp_ge C dX5_init_125 rfl (fun _ => ?_) (fun c1 => absurd (show (4 : Int32) ≤ nI 4 by decide +kernel) c1)
    exact N.vret C hr dX5_init_147 (Nat.le_of_ble_eq_true rfl) (Nat.le_of_ble_eq_true rfl)
  | succ n ih =>
    intro i hi
    refine N.iload_n C 0 dX5_init_123 rfl rfl ?_
    refine N.iconst C (v := 4) dX5_init_124 rfl ?_
    refine N.icmp_ge C dX5_init_125 rfl (fun c1 => absurd c1 (nI_ge (b := 4) (by omega) (by decide))) (fun _ => ?_)
    refine N.aload_n C 1 dX5_init_128 rfl rfl ?_
    refine N.get C (i := 0) (fs := [.ref (b + 1), .ref (b + 76), .ref (b + 79), .int 0, .ref (b + 80), .int 0, .ref (b + 81), .long 0]) (v := .ref (b + 81)) 6 dX5_init_129 rfl zP5_0 rfl uX_X5 (by decide) uf_RX5_44 rfl rfl ?_
    refine N.iload_n C 0 dX5_init_132 rfl rfl ?_
    have hlen0 : (zP5 w b 20 8 i ++ zY3 w b i).length = 150 + 2 * i := by
      rw [List.length_append, zP5_len, zY3_len]
      try omega
    have hlen : b + (zP5 w b 20 8 i ++ zY3 w b i).length = b + 150 + 2 * i := by
      rw [hlen0]
      omega
    refine N.new C (ci := 1) (fs := [.null, .int 0]) (a := b + 150 + 2 * i) dX5_init_133 uX_X1 tyX1 tyX1_ok uj_RX5_42 un_RX1 ui_RX1 rfl (fun j hj => by rcases (show j = 0 ∨ j = 1 by omega) with rfl | rfl <;> rfl) hlen hm (by omega) (by omega) ?_
    refine N.dup C dX5_init_136 rfl ?_
    refine N.callI C (e0 := .inr (1, [.null, .int 0])) (zs := zX1 w (b + 150 + 2 * i)) (ys1 := zP5 w b 20 8 i ++ zY3 w b i) (some "PlateRoom") (cKX1_init w (b + 150 + 2 * i)) dX5_init_137 uy_X1 unm_RX5_54 rfl hlen ⟨by decide, by decide⟩ (Nat.le_of_ble_eq_true rfl) hm (by omega) (by omega) ?_
    refine N.astq C (i := 81) (i2 := 150 + 2 * i) (n := 4) (ci := 1) (t0 := 3) (r := (RX1, TX1, 2)) (vs := [.ref (b + 150 + 2 * i + 1), .int 0]) (f := fun j => if j < i then some (b + 150 + 2 * j) else none) (cA0 := w.2.2.1 3) (ys1 := zP5 w b 20 8 (i + 1) ++ zY3 w b (i + 1)) dX5_init_140 rfl ?_ rfl (by omega) (zY_at hlen0 rfl) rfl (nI_in (by omega) (by decide)) ?_ ?_
    · rw [List.append_assoc]
      exact zP5_81
    · rw [qA_up rfl (by omega), List.append_assoc, zP5_s81, zY3_s]
    · refine N.iinc C 0 (v := nI (i + 1)) dX5_init_141 rfl (by rw [nI_succ]; rfl) (by decide) rfl ?_
      refine N.goto C dX5_init_144 (tgt := 123) rfl ?_
      refine N.eq (ys1 := zP5 w b 20 8 (i + 1) ++ zY3 w b (i + 1)) (nc1 := 149 + 2 * (i + 1)) (ns1 := 855 + 8 * (i + 1)) rfl (by omega) (by omega) ?_
      exact ih (i + 1) (by omega)
theorem X5_loop2 (w : wD) (b : Nat) {x : wX} (C : Cg w x cX5_init 2 yX5_init.cls 3 53) (hr : Rt x none) (hm : Cm x 157 887) : ∀ (n i : Nat), i + n = 8 → N w b x 2 (QN w b x 157 887 (zX5 w b)) 96 [(1, .int (nI i)), (0, .ref b)] [] (zP5 w b 20 i 0 ++ zY2 w b i) (141 + 1 * i) (839 + 2 * i) := by
  intro n
  induction n with
  | zero =>
    intro i hi
    have hi6 : i = 8 := by omega
    subst hi6
    refine N.iload_n C 0 dX5_init_96 rfl rfl ?_
    refine N.bipush C (v := 8) dX5_init_97 rfl ?_
    refine N.icmp_ge C dX5_init_99 rfl (fun _ => ?_) (fun c1 => absurd (show (8 : Int32) ≤ nI 8 by decide +kernel) c1)
    refine N.iconst C (v := 0) dX5_init_121 rfl ?_
    refine N.istore_n C dX5_init_122 rfl (by decide) rfl ?_
    refine N.eq (ys1 := zP5 w b 20 8 0 ++ zY3 w b 0) (nc1 := 149 + 2 * 0) (ns1 := 855 + 8 * 0) (by unfold zY3; rw [show zBs w (b + 150) 0 = [] from rfl, List.append_nil]) rfl rfl ?_
    exact X5_loop3 w b C hr hm 4 0 rfl
  | succ n ih =>
    intro i hi
    refine N.iload_n C 0 dX5_init_96 rfl rfl ?_
    refine N.bipush C (v := 8) dX5_init_97 rfl ?_
    refine N.icmp_ge C dX5_init_99 rfl (fun c1 => absurd c1 (nI_ge (b := 8) (by omega) (by decide))) (fun _ => ?_)
    refine N.aload_n C 1 dX5_init_102 rfl rfl ?_
    refine N.get C (i := 0) (fs := [.ref (b + 1), .ref (b + 76), .ref (b + 79), .int 0, .ref (b + 80), .int 0, .ref (b + 81), .long 0]) (v := .ref (b + 80)) 4 dX5_init_103 rfl zP5_0 rfl uX_X5 (by decide) uf_RX5_35 rfl rfl ?_
    refine N.iload_n C 0 dX5_init_106 rfl rfl ?_
    have hlen0 : (zP5 w b 20 i 0 ++ zY2 w b i).length = 142 + 1 * i := by
      rw [List.length_append, zP5_len, zY2_len]
      try omega
    have hlen : b + (zP5 w b 20 i 0 ++ zY2 w b i).length = b + 142 + 1 * i := by
      rw [hlen0]
      omega
    refine N.new C (ci := 4) (fs := [.int 0, .int 0]) (a := b + 142 + 1 * i) dX5_init_107 uX_X4 tyX4 tyX4_ok uj_RX5_33 un_RX4 ui_RX4 rfl (fun j hj => by rcases (show j = 0 ∨ j = 1 by omega) with rfl | rfl <;> rfl) hlen hm (by omega) (by omega) ?_
    refine N.dup C dX5_init_110 rfl ?_
    refine N.callI C (e0 := .inr (4, [.int 0, .int 0])) (zs := zX4) (ys1 := zP5 w b 20 i 0 ++ zY2 w b i) (some "PlateRoom") (cKX4_init w (b + 142 + 1 * i)) dX5_init_111 uy_X4 unm_RX5_53 rfl hlen ⟨by decide, by decide⟩ (Nat.le_of_ble_eq_true rfl) hm (by omega) (by omega) ?_
    refine N.astq C (i := 80) (i2 := 142 + 1 * i) (n := 8) (ci := 4) (t0 := 2) (r := (RX4, TX4, 2)) (vs := [.int 1500, .int 1900]) (f := fun j => if j < i then some (b + 142 + 1 * j) else none) (cA0 := w.2.2.1 2) (ys1 := zP5 w b 20 (i + 1) 0 ++ zY2 w b (i + 1)) dX5_init_114 rfl ?_ rfl (by omega) (zY_at hlen0 rfl) rfl (nI_in (by omega) (by decide)) ?_ ?_
    · rw [List.append_assoc]
      exact zP5_80
    · rw [qA_up rfl (by omega), List.append_assoc, zP5_s80, zY2_s]
    · refine N.iinc C 0 (v := nI (i + 1)) dX5_init_115 rfl (by rw [nI_succ]; rfl) (by decide) rfl ?_
      refine N.goto C dX5_init_118 (tgt := 96) rfl ?_
      refine N.eq (ys1 := zP5 w b 20 (i + 1) 0 ++ zY2 w b (i + 1)) (nc1 := 141 + 1 * (i + 1)) (ns1 := 839 + 2 * (i + 1)) rfl (by omega) (by omega) ?_
      exact ih (i + 1) (by omega)
theorem X5_loop1 (w : wD) (b : Nat) {x : wX} (C : Cg w x cX5_init 2 yX5_init.cls 3 53) (hr : Rt x none) (hm : Cm x 157 887) : ∀ (n i : Nat), i + n = 20 → N w b x 2 (QN w b x 157 887 (zX5 w b)) 69 [(1, .int (nI i)), (0, .ref b)] [] (zP5 w b i 0 0 ++ zY1 w b i) (81 + 3 * i) (539 + 15 * i) := by
  intro n
  induction n with
  | zero =>
    intro i hi
    have hi6 : i = 20 := by omega
    subst hi6
    refine N.iload_n C 0 dX5_init_69 rfl rfl ?_
    refine N.bipush C (v := 20) dX5_init_70 rfl ?_
    refine N.icmp_ge C dX5_init_72 rfl (fun _ => ?_) (fun c1 => absurd (show (20 : Int32) ≤ nI 20 by decide +kernel) c1)
    refine N.iconst C (v := 0) dX5_init_94 rfl ?_
    refine N.istore_n C dX5_init_95 rfl (by decide) rfl ?_
    refine N.eq (ys1 := zP5 w b 20 0 0 ++ zY2 w b 0) (nc1 := 141 + 1 * 0) (ns1 := 839 + 2 * 0) (by unfold zY1 zY2; rw [show List.replicate 0 (.inr (4, [.int 1500, .int 1900]) : va_E) = [] from rfl, List.append_nil]) rfl rfl ?_
    exact X5_loop2 w b C hr hm 8 0 rfl
  | succ n ih =>
    intro i hi
    refine N.iload_n C 0 dX5_init_69 rfl rfl ?_
    refine N.bipush C (v := 20) dX5_init_70 rfl ?_
    refine N.icmp_ge C dX5_init_72 rfl (fun c1 => absurd c1 (nI_ge (b := 20) (by omega) (by decide))) (fun _ => ?_)
    refine N.aload_n C 1 dX5_init_75 rfl rfl ?_
    refine N.get C (i := 0) (fs := [.ref (b + 1), .ref (b + 76), .ref (b + 79), .int 0, .ref (b + 80), .int 0, .ref (b + 81), .long 0]) (v := .ref (b + 79)) 2 dX5_init_76 rfl zP5_0 rfl uX_X5 (by decide) uf_RX5_25 rfl rfl ?_
    refine N.iload_n C 0 dX5_init_79 rfl rfl ?_
    have hlen0 : (zP5 w b i 0 0 ++ zY1 w b i).length = 82 + 3 * i := by
      rw [List.length_append, zP5_len, zY1_len]
      try omega
    have hlen : b + (zP5 w b i 0 0 ++ zY1 w b i).length = b + 82 + 3 * i := by
      rw [hlen0]
      omega
    refine N.new C (ci := 2) (fs := [.int 0, .int 0, .int 0, .int 0, .int 0, .int 0, .null]) (a := b + 82 + 3 * i) dX5_init_80 uX_X2 tyX2 tyX2_ok uj_RX5_23 un_RX2 ui_RX2 rfl (fun j hj => by rcases (show j = 0 ∨ j = 1 ∨ j = 2 ∨ j = 3 ∨ j = 4 ∨ j = 5 ∨ j = 6 by omega) with rfl | rfl | rfl | rfl | rfl | rfl | rfl <;> rfl) hlen hm (by omega) (by omega) ?_
    refine N.dup C dX5_init_83 rfl ?_
    refine N.callI C (e0 := .inr (2, [.int 0, .int 0, .int 0, .int 0, .int 0, .int 0, .null])) (zs := zX2 w (b + 82 + 3 * i)) (ys1 := zP5 w b i 0 0 ++ zY1 w b i) (some "PlateRoom") (cKX2_init w (b + 82 + 3 * i)) dX5_init_84 uy_X2 unm_RX5_52 rfl hlen ⟨by decide, by decide⟩ (Nat.le_of_ble_eq_true rfl) hm (by omega) (by omega) ?_
    refine N.astq C (i := 79) (i2 := 82 + 3 * i) (n := 20) (ci := 2) (t0 := 1) (r := (RX2, TX2, 7)) (vs := [.int 0, .int 0, .int 0, .int 0, .int (-9), .int (-9), .ref (b + 82 + 3 * i + 1)]) (f := fun j => if j < i then some (b + 82 + 3 * j) else none) (cA0 := w.2.2.1 1) (ys1 := zP5 w b (i + 1) 0 0 ++ zY1 w b (i + 1)) dX5_init_87 rfl ?_ rfl (by omega) (zY_at hlen0 rfl) rfl (nI_in (by omega) (by decide)) ?_ ?_
    · rw [List.append_assoc]
      exact zP5_79
    · rw [qA_up rfl (by omega), List.append_assoc, zP5_s79, zY1_s]
    · refine N.iinc C 0 (v := nI (i + 1)) dX5_init_88 rfl (by rw [nI_succ]; rfl) (by decide) rfl ?_
      refine N.goto C dX5_init_91 (tgt := 69) rfl ?_
      refine N.eq (ys1 := zP5 w b (i + 1) 0 0 ++ zY1 w b (i + 1)) (nc1 := 81 + 3 * (i + 1)) (ns1 := 539 + 15 * (i + 1)) rfl (by omega) (by omega) ?_
      exact ih (i + 1) (by omega)
theorem cKX5_init (w : wD) (b : Nat) : MC w b yX5_init cX5_init 2 3 53 157 887 (.inr (5, [.null, .null, .null, .int 0, .null, .int 0, .null, .long 0])) (zX5 w b) := by
  refine MC.of (by decide) (by decide) rfl (fun x C Cx hr hm => ?_)
  refine N.aload_n C 0 dX5_init_0 rfl rfl ?_
  refine N.obj C dX5_init_1 ul_RX5_o (by decide) (by decide) ?_
  refine N.aload_n C 0 dX5_init_4 rfl rfl ?_
  refine N.new C (ci := 3) (fs := [.int 0, .int 0, .int 0, .null, .null, .int 0, .null, .null]) (a := b + 1) dX5_init_5 uX_X3 tyX3 tyX3_ok uj_RX5_7 un_RX3 ui_RX3 rfl (fun j hj => by rcases (show j = 0 ∨ j = 1 ∨ j = 2 ∨ j = 3 ∨ j = 4 ∨ j = 5 ∨ j = 6 ∨ j = 7 by omega) with rfl | rfl | rfl | rfl | rfl | rfl | rfl | rfl <;> rfl) rfl hm (Nat.le_of_ble_eq_true rfl) (Nat.le_of_ble_eq_true rfl) ?_
  refine N.dup C dX5_init_8 rfl ?_
  refine N.callI C (e0 := .inr (3, [.int 0, .int 0, .int 0, .null, .null, .int 0, .null, .null])) (zs := zX3 w (b + 1)) (ys1 := [.inr (5, [.null, .null, .null, .int 0, .null, .int 0, .null, .long 0])]) (some "PlateRoom") (cKX3_init w (b + 1)) dX5_init_9 uy_X3 unm_RX5_9 rfl rfl ⟨by decide, by decide⟩ (Nat.le_of_ble_eq_true rfl) hm (Nat.le_of_ble_eq_true rfl) (Nat.le_of_ble_eq_true rfl) ?_
  refine N.putF C Cx (i := 0) (fs := [.null, .null, .null, .int 0, .null, .int 0, .null, .long 0]) (ty := tyX5 0) (ys1 := .inr (5, [.ref (b + 1), .null, .null, .int 0, .null, .int 0, .null, .long 0]) :: zX3 w (b + 1)) 0 dX5_init_12 rfl rfl rfl uX_X5 tyX5 tyX5_ok nmX5 (by decide) uf_RX5_10 rfl rfl rfl (by decide +kernel) rfl rfl (Nat.le_of_ble_eq_true rfl) rfl ?_
  refine N.aload_n C 0 dX5_init_15 rfl rfl ?_
  refine N.new C (ci := 0) (fs := [.int 0, .int 0, .null, .null, .int 0]) (a := b + 76) dX5_init_16 uX_X0 tyX0 tyX0_ok uj_RX5_16 un_RX0 ui_RX0 rfl (fun j hj => by rcases (show j = 0 ∨ j = 1 ∨ j = 2 ∨ j = 3 ∨ j = 4 by omega) with rfl | rfl | rfl | rfl | rfl <;> rfl) rfl hm (Nat.le_of_ble_eq_true rfl) (Nat.le_of_ble_eq_true rfl) ?_
  refine N.dup C dX5_init_19 rfl ?_
  refine N.callI C (e0 := .inr (0, [.int 0, .int 0, .null, .null, .int 0])) (zs := zX0 w (b + 76)) (ys1 := .inr (5, [.ref (b + 1), .null, .null, .int 0, .null, .int 0, .null, .long 0]) :: zX3 w (b + 1)) (some "PlateRoom") (cKX0_init w (b + 76)) dX5_init_20 uy_X0 unm_RX5_18 rfl rfl ⟨by decide, by decide⟩ (Nat.le_of_ble_eq_true rfl) hm (Nat.le_of_ble_eq_true rfl) (Nat.le_of_ble_eq_true rfl) ?_
  refine N.putF C Cx (i := 0) (fs := [.ref (b + 1), .null, .null, .int 0, .null, .int 0, .null, .long 0]) (ty := tyX5 1) (ys1 := .inr (5, [.ref (b + 1), .ref (b + 76), .null, .int 0, .null, .int 0, .null, .long 0]) :: (zX3 w (b + 1) ++ zX0 w (b + 76))) 1 dX5_init_23 rfl rfl rfl uX_X5 tyX5 tyX5_ok nmX5 (by decide) uf_RX5_19 rfl rfl rfl (by decide +kernel) rfl rfl (Nat.le_of_ble_eq_true rfl) rfl ?_
  refine N.aload_n C 0 dX5_init_26 rfl rfl ?_
  refine N.bipush C (v := 20) dX5_init_27 rfl ?_
  refine N.newq C (a := b + 79) (n1 := 20) (t0 := 1) (cA0 := w.2.2.1 1) dX5_init_29 uj_RX5_23 (Ca2 C) rfl (by decide) rfl (Nat.le_of_ble_eq_true rfl) rfl hm (Nat.le_of_ble_eq_true rfl) (Nat.le_of_ble_eq_true rfl) ?_
  refine N.eq (ys1 := .inr (5, [.ref (b + 1), .ref (b + 76), .null, .int 0, .null, .int 0, .null, .long 0]) :: ((zX3 w (b + 1) ++ zX0 w (b + 76)) ++ [qA (w.2.2.1 1) 20 (b + 82) 3 0])) (nc1 := 79) (ns1 := 527) (by rw [qA_0 (a := b + 82) (d := 3)]; rfl) rfl rfl ?_
  refine N.putF C Cx (i := 0) (fs := [.ref (b + 1), .ref (b + 76), .null, .int 0, .null, .int 0, .null, .long 0]) (ty := tyX5 2) (ys1 := .inr (5, [.ref (b + 1), .ref (b + 76), .ref (b + 79), .int 0, .null, .int 0, .null, .long 0]) :: ((zX3 w (b + 1) ++ zX0 w (b + 76)) ++ [qA (w.2.2.1 1) 20 (b + 82) 3 0])) 2 dX5_init_32 rfl rfl rfl uX_X5 tyX5 tyX5_ok nmX5 (by decide) uf_RX5_25 rfl rfl rfl (by decide +kernel) rfl rfl (Nat.le_of_ble_eq_true rfl) rfl ?_
  refine N.aload_n C 0 dX5_init_35 rfl rfl ?_
  refine N.iconst C (v := 0) dX5_init_36 rfl ?_
  refine N.put C (i := 0) (fs := [.ref (b + 1), .ref (b + 76), .ref (b + 79), .int 0, .null, .int 0, .null, .long 0]) (ty := tyX5 3) (ys1 := .inr (5, [.ref (b + 1), .ref (b + 76), .ref (b + 79), .int 0, .null, .int 0, .null, .long 0]) :: ((zX3 w (b + 1) ++ zX0 w (b + 76)) ++ [qA (w.2.2.1 1) 20 (b + 82) 3 0])) 3 dX5_init_37 rfl rfl rfl uX_X5 tyX5 tyX5_ok nmX5 (by decide) uf_RX5_29 rfl rfl (by decide +kernel) rfl rfl (Nat.le_of_ble_eq_true rfl) rfl ?_
  refine N.aload_n C 0 dX5_init_40 rfl rfl ?_
  refine N.bipush C (v := 8) dX5_init_41 rfl ?_
  refine N.newq C (a := b + 80) (n1 := 8) (t0 := 2) (cA0 := w.2.2.1 2) dX5_init_43 uj_RX5_33 (Ca4 C) rfl (by decide) rfl (Nat.le_of_ble_eq_true rfl) rfl hm (Nat.le_of_ble_eq_true rfl) (Nat.le_of_ble_eq_true rfl) ?_
  refine N.eq (ys1 := .inr (5, [.ref (b + 1), .ref (b + 76), .ref (b + 79), .int 0, .null, .int 0, .null, .long 0]) :: ((zX3 w (b + 1) ++ zX0 w (b + 76)) ++ [qA (w.2.2.1 1) 20 (b + 82) 3 0, qA (w.2.2.1 2) 8 (b + 142) 1 0])) (nc1 := 80) (ns1 := 535) (by rw [qA_0 (a := b + 142) (d := 1)]; rfl) rfl rfl ?_
  refine N.putF C Cx (i := 0) (fs := [.ref (b + 1), .ref (b + 76), .ref (b + 79), .int 0, .null, .int 0, .null, .long 0]) (ty := tyX5 4) (ys1 := .inr (5, [.ref (b + 1), .ref (b + 76), .ref (b + 79), .int 0, .ref (b + 80), .int 0, .null, .long 0]) :: ((zX3 w (b + 1) ++ zX0 w (b + 76)) ++ [qA (w.2.2.1 1) 20 (b + 82) 3 0, qA (w.2.2.1 2) 8 (b + 142) 1 0])) 4 dX5_init_46 rfl rfl rfl uX_X5 tyX5 tyX5_ok nmX5 (by decide) uf_RX5_35 rfl rfl rfl (by decide +kernel) rfl rfl (Nat.le_of_ble_eq_true rfl) rfl ?_
  refine N.aload_n C 0 dX5_init_49 rfl rfl ?_
  refine N.iconst C (v := 0) dX5_init_50 rfl ?_
  refine N.put C (i := 0) (fs := [.ref (b + 1), .ref (b + 76), .ref (b + 79), .int 0, .ref (b + 80), .int 0, .null, .long 0]) (ty := tyX5 5) (ys1 := .inr (5, [.ref (b + 1), .ref (b + 76), .ref (b + 79), .int 0, .ref (b + 80), .int 0, .null, .long 0]) :: ((zX3 w (b + 1) ++ zX0 w (b + 76)) ++ [qA (w.2.2.1 1) 20 (b + 82) 3 0, qA (w.2.2.1 2) 8 (b + 142) 1 0])) 5 dX5_init_51 rfl rfl rfl uX_X5 tyX5 tyX5_ok nmX5 (by decide) uf_RX5_39 rfl rfl (by decide +kernel) rfl rfl (Nat.le_of_ble_eq_true rfl) rfl ?_
  refine N.aload_n C 0 dX5_init_54 rfl rfl ?_
  refine N.iconst C (v := 4) dX5_init_55 rfl ?_
  refine N.newq C (a := b + 81) (n1 := 4) (t0 := 3) (cA0 := w.2.2.1 3) dX5_init_56 uj_RX5_42 (Ca1 C) rfl (by decide) rfl (Nat.le_of_ble_eq_true rfl) rfl hm (Nat.le_of_ble_eq_true rfl) (Nat.le_of_ble_eq_true rfl) ?_
  refine N.eq (ys1 := .inr (5, [.ref (b + 1), .ref (b + 76), .ref (b + 79), .int 0, .ref (b + 80), .int 0, .null, .long 0]) :: ((zX3 w (b + 1) ++ zX0 w (b + 76)) ++ [qA (w.2.2.1 1) 20 (b + 82) 3 0, qA (w.2.2.1 2) 8 (b + 142) 1 0, qA (w.2.2.1 3) 4 (b + 150) 2 0])) (nc1 := 81) (ns1 := 539) (by rw [qA_0 (a := b + 150) (d := 2)]; rfl) rfl rfl ?_
  refine N.putF C Cx (i := 0) (fs := [.ref (b + 1), .ref (b + 76), .ref (b + 79), .int 0, .ref (b + 80), .int 0, .null, .long 0]) (ty := tyX5 6) (ys1 := .inr (5, [.ref (b + 1), .ref (b + 76), .ref (b + 79), .int 0, .ref (b + 80), .int 0, .ref (b + 81), .long 0]) :: ((zX3 w (b + 1) ++ zX0 w (b + 76)) ++ [qA (w.2.2.1 1) 20 (b + 82) 3 0, qA (w.2.2.1 2) 8 (b + 142) 1 0, qA (w.2.2.1 3) 4 (b + 150) 2 0])) 6 dX5_init_59 rfl rfl rfl uX_X5 tyX5 tyX5_ok nmX5 (by decide) uf_RX5_44 rfl rfl rfl (by decide +kernel) rfl rfl (Nat.le_of_ble_eq_true rfl) rfl ?_
  refine N.aload_n C 0 dX5_init_62 rfl rfl ?_
  refine N.lconst C (v := 0) dX5_init_63 rfl ?_
  refine N.put C (i := 0) (fs := [.ref (b + 1), .ref (b + 76), .ref (b + 79), .int 0, .ref (b + 80), .int 0, .ref (b + 81), .long 0]) (ty := tyX5 7) (ys1 := .inr (5, [.ref (b + 1), .ref (b + 76), .ref (b + 79), .int 0, .ref (b + 80), .int 0, .ref (b + 81), .long 0]) :: ((zX3 w (b + 1) ++ zX0 w (b + 76)) ++ [qA (w.2.2.1 1) 20 (b + 82) 3 0, qA (w.2.2.1 2) 8 (b + 142) 1 0, qA (w.2.2.1 3) 4 (b + 150) 2 0])) 7 dX5_init_64 rfl rfl rfl uX_X5 tyX5 tyX5_ok nmX5 (by decide) uf_RX5_48 rfl rfl (by decide +kernel) rfl rfl (Nat.le_of_ble_eq_true rfl) rfl ?_
  refine N.iconst C (v := 0) dX5_init_67 rfl ?_
  refine N.istore_n C dX5_init_68 rfl (by decide) rfl ?_
  refine N.eq (ys1 := zP5 w b 0 0 0 ++ zY1 w b 0) (nc1 := 81 + 3 * 0) (ns1 := 539 + 15 * 0) rfl rfl rfl ?_
  exact X5_loop1 w b C hr hm 20 0 rfl
theorem zX5_len (w : wD) (b : Nat) : (zX5 w b).length = 158 := by
  unfold zX5
  rw [List.length_append, zP5_len, zY3_len]
