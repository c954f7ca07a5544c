/-! PART 05.f: where the cells lie behind both constructors, and their first numbers -/
def zOff (g i : Nat) : Nat := match g with
  | 0 => 0
  | 1 => 1
  | 2 => 76
  | 3 => 79
  | 4 => 80
  | 5 => 81
  | 6 => 2
  | 7 => 3
  | 8 => 4
  | 9 => 5
  | 10 => 6 + i
  | 11 => 70 + i
  | 12 => 77
  | 13 => 78
  | 14 => 82 + 3 * i
  | 15 => 83 + 3 * i
  | 16 => 84 + 3 * i
  | 17 => 142 + i
  | 18 => 150 + 2 * i
  | 19 => 151 + 2 * i
  | 20 => 158
  | g => 138 + g
def zTab : List (Nat × Nat) := [(0, 0), (1, 0), (6, 0), (7, 0), (8, 0), (9, 0), (10, 0), (10, 1), (10, 2), (10, 3), (10, 4), (10, 5), (10, 6), (10, 7), (10, 8), (10, 9), (10, 10), (10, 11), (10, 12), (10, 13), (10, 14), (10, 15), (10, 16), (10, 17), (10, 18), (10, 19), (10, 20), (10, 21), (10, 22), (10, 23), (10, 24), (10, 25), (10, 26), (10, 27), (10, 28), (10, 29), (10, 30), (10, 31), (10, 32), (10, 33), (10, 34), (10, 35), (10, 36), (10, 37), (10, 38), (10, 39), (10, 40), (10, 41), (10, 42), (10, 43), (10, 44), (10, 45), (10, 46), (10, 47), (10, 48), (10, 49), (10, 50), (10, 51), (10, 52), (10, 53), (10, 54), (10, 55), (10, 56), (10, 57), (10, 58), (10, 59), (10, 60), (10, 61), (10, 62), (10, 63), (11, 0), (11, 1), (11, 2), (11, 3), (11, 4), (11, 5), (2, 0), (12, 0), (13, 0), (3, 0), (4, 0), (5, 0), (14, 0), (15, 0), (16, 0), (14, 1), (15, 1), (16, 1), (14, 2), (15, 2), (16, 2), (14, 3), (15, 3), (16, 3), (14, 4), (15, 4), (16, 4), (14, 5), (15, 5), (16, 5), (14, 6), (15, 6), (16, 6), (14, 7), (15, 7), (16, 7), (14, 8), (15, 8), (16, 8), (14, 9), (15, 9), (16, 9), (14, 10), (15, 10), (16, 10), (14, 11), (15, 11), (16, 11), (14, 12), (15, 12), (16, 12), (14, 13), (15, 13), (16, 13), (14, 14), (15, 14), (16, 14), (14, 15), (15, 15), (16, 15), (14, 16), (15, 16), (16, 16), (14, 17), (15, 17), (16, 17), (14, 18), (15, 18), (16, 18), (14, 19), (15, 19), (16, 19), (17, 0), (17, 1), (17, 2), (17, 3), (17, 4), (17, 5), (17, 6), (17, 7), (18, 0), (19, 0), (18, 1), (19, 1), (18, 2), (19, 2), (18, 3), (19, 3), (20, 0), (21, 0), (22, 0), (23, 0), (24, 0), (25, 0), (26, 0), (27, 0), (28, 0), (29, 0), (30, 0), (31, 0), (32, 0), (33, 0), (34, 0), (35, 0), (36, 0), (37, 0)]
def zInv (a : Nat) : Nat × Nat := (zTab[a]?).getD (0, 0)
theorem zInv_ok : ∀ g, g < 38 → ∀ i, i < wN g → zInv (zOff g i) = (g, i) := by decide +kernel
theorem wN_lt {g i : Nat} (h : i < wN g) : g < 38 := by
  rcases Nat.lt_or_ge g 38 with q | q
  · exact q
  · have : wN g = 0 := by
      unfold wN
      split <;> first | omega | (rw [if_neg (by omega)])
    omega
def zE (b g i : Nat) : Nat := b + zOff g i
theorem zOK {l : Launch} {D : va_G} {cy : Nat → ClassId} {b : Nat} : wOK (l, D, cy, zE b, fun q => b ≤ q) := by
  refine ⟨fun g i g' i' h1 h2 h3 => ?_, fun g i _ => Nat.le_add_right b _⟩
  have h4 : b + zOff g i = b + zOff g' i' := h3
  have h5 : zOff g i = zOff g' i' := by omega
  have h6 := zInv_ok g (wN_lt h1) i h1
  have h7 := zInv_ok g' (wN_lt h2) i' h2
  rw [h5, h7] at h6
  exact ⟨(congrArg Prod.fst h6).symm, (congrArg Prod.snd h6).symm⟩
def z0f (g : Nat) : Nat → Int32 := match g with
  | 1 => fun k => if k = 0 then 1 else if k = 1 then 2 else if k = 2 then 10 else 0
  | 2 => fun k => if k = 0 then 2 else if k = 1 then 4 else 0
  | 11 => fun k => if k = 0 then 1500 else if k = 1 then 1900 else 0
  | 14 => fun k => if k = 4 then -9 else if k = 5 then -9 else 0
  | 17 => fun k => if k = 0 then 1500 else if k = 1 then 1900 else 0
  | 24 => upd (upd (upd (upd (upd (fun _ => 0) 0 1) 1 2) 2 10) 3 2) 4 4
  | _ => fun _ => 0
def z0 : wSt := (fun g _ => z0f g, fun _ => 0)
theorem zLs_at (w : wD) (a c : Nat) (hc : c < 3) : ∀ n i : Nat, i < n → (zLs w a n)[3 * i + c]? = (zX2 w (a + 3 * i))[c]?
  | 0, i, h => absurd h (Nat.not_lt_zero i)
  | n + 1, i, h => by
    show (zLs w a n ++ zX2 w (a + 3 * n))[3 * i + c]? = _
    rcases Nat.lt_or_ge i n with q | q
    · rw [List.getElem?_append_left (by rw [zLs_len]; omega)]
      exact zLs_at w a c hc n i q
    · have e : i = n := by omega
      subst e
      rw [List.getElem?_append_right (by rw [zLs_len]; omega), zLs_len, Nat.add_sub_cancel_left]
theorem zBs_at (w : wD) (a c : Nat) (hc : c < 2) : ∀ n i : Nat, i < n → (zBs w a n)[2 * i + c]? = (zX1 w (a + 2 * i))[c]?
  | 0, i, h => absurd h (Nat.not_lt_zero i)
  | n + 1, i, h => by
    show (zBs w a n ++ zX1 w (a + 2 * n))[2 * i + c]? = _
    rcases Nat.lt_or_ge i n with q | q
    · rw [List.getElem?_append_left (by rw [zBs_len]; omega)]
      exact zBs_at w a c hc n i q
    · have e : i = n := by omega
      subst e
      rw [List.getElem?_append_right (by rw [zBs_len]; omega), zBs_len, Nat.add_sub_cancel_left]
def zZ (w : wD) (b : Nat) : List va_E := zX5 w b ++ zX6 w (b + 158)
theorem zZ_5 {w : wD} {b k : Nat} (h : k < 158) : (zZ w b)[k]? = (zX5 w b)[k]? := List.getElem?_append_left (by rw [zX5_len]; exact h)
theorem zZ_6 {w : wD} {b : Nat} (k : Nat) : (zZ w b)[158 + k]? = (zX6 w (b + 158))[k]? := gx_at k (zX5_len w b)
theorem zX5_P {w : wD} {b k : Nat} (h : k < 82) : (zX5 w b)[k]? = (zP5 w b 20 8 4)[k]? := List.getElem?_append_left (by rw [zP5_len]; exact h)
theorem zX5_Y {w : wD} {b : Nat} (k : Nat) : (zX5 w b)[82 + k]? = (zY3 w b 4)[k]? := gx_at k (zP5_len w b 20 8 4)
theorem zY3_L {w : wD} {b i c : Nat} (hi : i < 20) (hc : c < 3) : (zY3 w b 4)[3 * i + c]? = (zX2 w (b + 82 + 3 * i))[c]? := by
  unfold zY3
  rw [List.getElem?_append_left (by rw [zY2_len]; omega)]
  unfold zY2
  rw [List.getElem?_append_left (by rw [zLs_len]; omega)]
  exact zLs_at w (b + 82) c hc 20 i hi
theorem zY3_M {w : wD} {b i : Nat} (hi : i < 8) : (zY3 w b 4)[60 + i]? = some (.inr (4, [.int 1500, .int 1900])) := by
  unfold zY3
  rw [List.getElem?_append_left (by rw [zY2_len]; omega)]
  unfold zY2
  rw [List.getElem?_append_right (by rw [zLs_len]; omega), zLs_len, show 60 + i - 3 * 20 = i by omega, List.getElem?_replicate, if_pos hi]
theorem zY3_B {w : wD} {b i c : Nat} (hi : i < 4) (hc : c < 2) : (zY3 w b 4)[68 + (2 * i + c)]? = (zX1 w (b + 150 + 2 * i))[c]? := by
  unfold zY3
  rw [List.getElem?_append_right (by rw [zY2_len]; omega), zY2_len, show 68 + (2 * i + c) - (60 + 1 * 8) = 2 * i + c by omega]
  exact zBs_at w (b + 150) c hc 4 i hi
theorem zP5_A {w : wD} {b k : Nat} (h : k < 79) : (zP5 w b 20 8 4)[k]? = (zA5 w b)[k]? := List.getElem?_append_left (by rw [zA5_len]; exact h)
theorem zA5_X {w : wD} {b k : Nat} (h : k < 75) : (zA5 w b)[1 + k]? = (zX3 w (b + 1))[k]? := by
  show (_ :: (zX3 w (b + 1) ++ zX0 w (b + 76)))[1 + k]? = _
  rw [Nat.add_comm 1 k, List.getElem?_cons_succ]
  exact List.getElem?_append_left (by rw [zX3_len]; exact h)
theorem zX3_R {w : wD} {b i : Nat} (hi : i < 64) : (zX3 w b)[5 + i]? = some (.inl (w.2.2.1 0, 6, .inl (fun _ => 0))) := by
  unfold zX3
  rw [List.getElem?_append_left (by rw [zP3_len]; omega)]
  unfold zP3
  rw [gx_at (n := 5) i rfl, List.getElem?_replicate, if_pos hi]
theorem zX3_Y {w : wD} {b i : Nat} (hi : i < 6) : (zX3 w b)[69 + i]? = some (.inr (4, [.int 1500, .int 1900])) := by
  unfold zX3
  rw [gx_at i (zP3_len w b 6), List.getElem?_replicate, if_pos hi]
/-- an array of references, by its first n -/
theorem qA_at {D : va_G} {cl : List vw_C} {q : Nat} {c : ClassId} {n a d : Nat} {f : Nat → Nat} {H : Heap} (h : va_at D cl (q, qA c n a d n) H) (hf : ∀ j, j < n → f j = a + d * j) : va_at D cl (q, .inl (c, n, .inr (.inr (.inr (.inr (fun j => some (f j))))))) H := by
  have h1 : H[q]? = some (vp_cell c (n, .inr (.inr (.inr (.inr (fun j => if j < n then some (a + d * j) else none)))))) := h
  show H[q]? = some (vp_cell c (n, .inr (.inr (.inr (.inr (fun j => some (f j)))))))
  rw [h1, vp_cell_q, vp_cell_q]
  have h2 : (fun j : Fin n => va_rf (if j.val < n then some (a + d * j.val) else none)) = (fun j : Fin n => va_rf (some (f j.val))) := by
    funext j
    rw [if_pos j.isLt, hf j.val j.isLt]
  show some ({ cls := c, slots := Array.ofFn (n := n) fun j => va_rf (if j.val < n then some (a + d * j.val) else none), vm := .none } : Cell) = some { cls := c, slots := Array.ofFn (n := n) fun j => va_rf (some (f j.val)), vm := .none }
  rw [h2]
section ZI
variable {l : Launch} {D : va_G} {cy : Nat → ClassId} {b : Nat} {H : Heap}
theorem zInvOf (hI : cI (l, D, cy, zE b, fun q => b ≤ q) b (zZ (l, D, cy, zE b, fun q => b ≤ q) b) H) : wInv (l, D, cy, zE b, fun q => b ≤ q) z0 H := by
  intro g i hi
  have hg := wN_lt hi
  match g, hg, hi with
  | 0, _, hi =>
    obtain rfl : i = 0 := Nat.lt_one_iff.mp hi
    exact hI.2 0 (wCt cy (zE b) z0 0 0) ((zZ_5 (by omega)).trans ((zX5_P (by omega)).trans rfl))
  | 1, _, hi =>
    obtain rfl : i = 0 := Nat.lt_one_iff.mp hi
    exact hI.2 1 (wCt cy (zE b) z0 1 0) ((zZ_5 (by omega)).trans ((zX5_P (by omega)).trans ((zP5_A (by omega)).trans ((zA5_X (k := 0) (by omega)).trans rfl))))
  | 2, _, hi =>
    obtain rfl : i = 0 := Nat.lt_one_iff.mp hi
    exact hI.2 76 (wCt cy (zE b) z0 2 0) ((zZ_5 (by omega)).trans ((zX5_P (by omega)).trans rfl))
  | 3, _, hi =>
    obtain rfl : i = 0 := Nat.lt_one_iff.mp hi
    have h := hI.2 79 _ ((zZ_5 (by omega)).trans ((zX5_P (by omega)).trans rfl) : _ = some (qA (cy 1) 20 (b + 82) 3 20))
    exact qA_at h (fun j _ => by show b + zOff 14 j = _; show b + (82 + 3 * j) = _; omega)
  | 4, _, hi =>
    obtain rfl : i = 0 := Nat.lt_one_iff.mp hi
    have h := hI.2 80 _ ((zZ_5 (by omega)).trans ((zX5_P (by omega)).trans rfl) : _ = some (qA (cy 2) 8 (b + 142) 1 8))
    exact qA_at h (fun j _ => by show b + zOff 17 j = _; show b + (142 + j) = _; omega)
  | 5, _, hi =>
    obtain rfl : i = 0 := Nat.lt_one_iff.mp hi
    have h := hI.2 81 _ ((zZ_5 (by omega)).trans ((zX5_P (by omega)).trans rfl) : _ = some (qA (cy 3) 4 (b + 150) 2 4))
    exact qA_at h (fun j _ => by show b + zOff 18 j = _; show b + (150 + 2 * j) = _; omega)
  | 6, _, hi =>
    obtain rfl : i = 0 := Nat.lt_one_iff.mp hi
    exact hI.2 2 (wCt cy (zE b) z0 6 0) ((zZ_5 (by omega)).trans ((zX5_P (by omega)).trans ((zP5_A (by omega)).trans ((zA5_X (k := 1) (by omega)).trans rfl))))
  | 7, _, hi =>
    obtain rfl : i = 0 := Nat.lt_one_iff.mp hi
    have h := hI.2 3 _ ((zZ_5 (by omega)).trans ((zX5_P (by omega)).trans ((zP5_A (by omega)).trans ((zA5_X (k := 2) (by omega)).trans rfl))) : _ = some (qA (cy 2) 6 (b + 1 + 69) 1 6))
    exact qA_at h (fun j _ => by show b + zOff 11 j = _; show b + (70 + j) = _; omega)
  | 8, _, hi =>
    obtain rfl : i = 0 := Nat.lt_one_iff.mp hi
    exact hI.2 4 (wCt cy (zE b) z0 8 0) ((zZ_5 (by omega)).trans ((zX5_P (by omega)).trans ((zP5_A (by omega)).trans ((zA5_X (k := 3) (by omega)).trans rfl))))
  | 9, _, hi =>
    obtain rfl : i = 0 := Nat.lt_one_iff.mp hi
    have h := hI.2 5 _ ((zZ_5 (by omega)).trans ((zX5_P (by omega)).trans ((zP5_A (by omega)).trans ((zA5_X (k := 4) (by omega)).trans rfl))) : _ = some (qA (cy 4) 64 (b + 1 + 5) 1 64))
    exact qA_at h (fun j _ => by show b + zOff 10 j = _; show b + (6 + j) = _; omega)
  | 10, _, hi =>
    have hi : i < 64 := hi
    exact hI.2 (6 + i) (wCt cy (zE b) z0 10 i) ((zZ_5 (by omega)).trans ((zX5_P (by omega)).trans ((zP5_A (by omega)).trans ((congrArg (fun k => (zA5 (l, D, cy, zE b, fun q => b ≤ q) b)[k]?) (by omega : 6 + i = 1 + (5 + i))).trans ((zA5_X (by omega)).trans (zX3_R hi))))))
  | 11, _, hi =>
    have hi : i < 6 := hi
    exact hI.2 (70 + i) (wCt cy (zE b) z0 11 i) ((zZ_5 (by omega)).trans ((zX5_P (by omega)).trans ((zP5_A (by omega)).trans ((congrArg (fun k => (zA5 (l, D, cy, zE b, fun q => b ≤ q) b)[k]?) (by omega : 70 + i = 1 + (69 + i))).trans ((zA5_X (by omega)).trans (zX3_Y hi))))))
  | 12, _, hi =>
    obtain rfl : i = 0 := Nat.lt_one_iff.mp hi
    exact hI.2 77 (wCt cy (zE b) z0 12 0) ((zZ_5 (by omega)).trans ((zX5_P (by omega)).trans rfl))
  | 13, _, hi =>
    obtain rfl : i = 0 := Nat.lt_one_iff.mp hi
    exact hI.2 78 (wCt cy (zE b) z0 13 0) ((zZ_5 (by omega)).trans ((zX5_P (by omega)).trans rfl))
  | 14, _, hi =>
    have hi : i < 20 := hi
    have h := hI.2 _ _ ((zZ_5 (by omega)).trans ((congrArg (fun k => (zX5 (l, D, cy, zE b, fun q => b ≤ q) b)[k]?) (by omega : 82 + 3 * i = 82 + (3 * i + 0))).trans ((zX5_Y _).trans ((zY3_L hi (by omega)).trans rfl))) : (zZ (l, D, cy, zE b, fun q => b ≤ q) b)[82 + 3 * i]? = some (.inr (2, [.int 0, .int 0, .int 0, .int 0, .int (-9), .int (-9), .ref (b + 82 + 3 * i + 1)])))
    rw [show b + 82 + 3 * i + 1 = b + (83 + 3 * i) by omega] at h
    exact h
  | 15, _, hi =>
    have hi : i < 20 := hi
    have h := hI.2 _ _ ((zZ_5 (by omega)).trans ((congrArg (fun k => (zX5 (l, D, cy, zE b, fun q => b ≤ q) b)[k]?) (by omega : 83 + 3 * i = 82 + (3 * i + 1))).trans ((zX5_Y _).trans ((zY3_L hi (by omega)).trans rfl))) : (zZ (l, D, cy, zE b, fun q => b ≤ q) b)[83 + 3 * i]? = some (.inr (1, [.ref (b + 82 + 3 * i + 1 + 1), .int 0])))
    rw [show b + 82 + 3 * i + 1 + 1 = b + (84 + 3 * i) by omega] at h
    exact h
  | 16, _, hi =>
    have hi : i < 20 := hi
    exact hI.2 _ _ ((zZ_5 (by omega)).trans ((congrArg (fun k => (zX5 (l, D, cy, zE b, fun q => b ≤ q) b)[k]?) (by omega : 84 + 3 * i = 82 + (3 * i + 2))).trans ((zX5_Y _).trans ((zY3_L hi (by omega)).trans rfl))) : (zZ (l, D, cy, zE b, fun q => b ≤ q) b)[84 + 3 * i]? = some (.inl (cy 0, 6, .inl (fun _ => 0))))
  | 17, _, hi =>
    have hi : i < 8 := hi
    exact hI.2 (142 + i) (wCt cy (zE b) z0 17 i) ((zZ_5 (by omega)).trans ((congrArg (fun k => (zX5 (l, D, cy, zE b, fun q => b ≤ q) b)[k]?) (by omega : 142 + i = 82 + (60 + i))).trans ((zX5_Y _).trans (zY3_M hi))))
  | 18, _, hi =>
    have hi : i < 4 := hi
    have h := hI.2 _ _ ((zZ_5 (by omega)).trans ((congrArg (fun k => (zX5 (l, D, cy, zE b, fun q => b ≤ q) b)[k]?) (by omega : 150 + 2 * i = 82 + (68 + (2 * i + 0)))).trans ((zX5_Y _).trans ((zY3_B hi (by omega)).trans rfl))) : (zZ (l, D, cy, zE b, fun q => b ≤ q) b)[150 + 2 * i]? = some (.inr (1, [.ref (b + 150 + 2 * i + 1), .int 0])))
    rw [show b + 150 + 2 * i + 1 = b + (151 + 2 * i) by omega] at h
    exact h
  | 19, _, hi =>
    have hi : i < 4 := hi
    exact hI.2 (151 + 2 * i) (wCt cy (zE b) z0 19 i) ((zZ_5 (by omega)).trans ((congrArg (fun k => (zX5 (l, D, cy, zE b, fun q => b ≤ q) b)[k]?) (by omega : 151 + 2 * i = 82 + (68 + (2 * i + 1)))).trans ((zX5_Y _).trans ((zY3_B hi (by omega)).trans rfl))))
  | 20, _, hi =>
    obtain rfl : i = 0 := Nat.lt_one_iff.mp hi
    exact hI.2 158 (wCt cy (zE b) z0 20 0) ((zZ_6 0).trans rfl)
  | 21, _, hi =>
    obtain rfl : i = 0 := Nat.lt_one_iff.mp hi
    exact hI.2 159 (wCt cy (zE b) z0 21 0) ((zZ_6 1).trans rfl)
  | 22, _, hi =>
    obtain rfl : i = 0 := Nat.lt_one_iff.mp hi
    exact hI.2 160 (wCt cy (zE b) z0 22 0) ((zZ_6 2).trans rfl)
  | 23, _, hi =>
    obtain rfl : i = 0 := Nat.lt_one_iff.mp hi
    exact hI.2 161 (wCt cy (zE b) z0 23 0) ((zZ_6 3).trans rfl)
  | 24, _, hi =>
    obtain rfl : i = 0 := Nat.lt_one_iff.mp hi
    exact hI.2 162 (wCt cy (zE b) z0 24 0) ((zZ_6 4).trans rfl)
  | 25, _, hi =>
    obtain rfl : i = 0 := Nat.lt_one_iff.mp hi
    exact hI.2 163 (wCt cy (zE b) z0 25 0) ((zZ_6 5).trans rfl)
  | 26, _, hi =>
    obtain rfl : i = 0 := Nat.lt_one_iff.mp hi
    exact hI.2 164 (wCt cy (zE b) z0 26 0) ((zZ_6 6).trans rfl)
  | 27, _, hi =>
    obtain rfl : i = 0 := Nat.lt_one_iff.mp hi
    exact hI.2 165 (wCt cy (zE b) z0 27 0) ((zZ_6 7).trans rfl)
  | 28, _, hi =>
    obtain rfl : i = 0 := Nat.lt_one_iff.mp hi
    exact hI.2 166 (wCt cy (zE b) z0 28 0) ((zZ_6 8).trans rfl)
  | 29, _, hi =>
    obtain rfl : i = 0 := Nat.lt_one_iff.mp hi
    exact hI.2 167 (wCt cy (zE b) z0 29 0) ((zZ_6 9).trans rfl)
  | 30, _, hi =>
    obtain rfl : i = 0 := Nat.lt_one_iff.mp hi
    exact hI.2 168 (wCt cy (zE b) z0 30 0) ((zZ_6 10).trans rfl)
  | 31, _, hi =>
    obtain rfl : i = 0 := Nat.lt_one_iff.mp hi
    exact hI.2 169 (wCt cy (zE b) z0 31 0) ((zZ_6 11).trans rfl)
  | 32, _, hi =>
    obtain rfl : i = 0 := Nat.lt_one_iff.mp hi
    exact hI.2 170 (wCt cy (zE b) z0 32 0) ((zZ_6 12).trans rfl)
  | 33, _, hi =>
    obtain rfl : i = 0 := Nat.lt_one_iff.mp hi
    exact hI.2 171 (wCt cy (zE b) z0 33 0) ((zZ_6 13).trans rfl)
  | 34, _, hi =>
    obtain rfl : i = 0 := Nat.lt_one_iff.mp hi
    exact hI.2 172 (wCt cy (zE b) z0 34 0) ((zZ_6 14).trans rfl)
  | 35, _, hi =>
    obtain rfl : i = 0 := Nat.lt_one_iff.mp hi
    exact hI.2 173 (wCt cy (zE b) z0 35 0) ((zZ_6 15).trans rfl)
  | 36, _, hi =>
    obtain rfl : i = 0 := Nat.lt_one_iff.mp hi
    exact hI.2 174 (wCt cy (zE b) z0 36 0) ((zZ_6 16).trans rfl)
  | 37, _, hi =>
    obtain rfl : i = 0 := Nat.lt_one_iff.mp hi
    exact hI.2 175 (wCt cy (zE b) z0 37 0) ((zZ_6 17).trans rfl)
  | g + 38, hg, _ => exact absurd hg (by omega)
end ZI
