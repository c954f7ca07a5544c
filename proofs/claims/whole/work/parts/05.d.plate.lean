/-! PART 05.d: rows of rows; the plate's constructor -/
theorem sMM : ("[" ++ (FieldType.array .int).toString) = "[[I" := by decide +kernel
theorem xr_outer (c : ClassId) (N h0 : Nat) : ∀ i : Nat, Jvm.Free.Multi.outerC c N h0 i = arrV c N (fun j => va_rf (if j < i then some (h0 + 1 + j) else none))
  | 0 => by
    show ({ cls := c, slots := Array.replicate N .null, vm := .none } : Cell) = _
    rw [arrV_new]
    refine congrArg (arrV c N) (funext fun j => ?_)
    simp [va_rf]
  | i + 1 => by
    show (Jvm.Free.Multi.outerC c N h0 i).setSlot i (.ref (h0 + 1 + i)) = _
    rw [xr_outer c N h0 i, arrV_store]
    refine congrArg (arrV c N) (funext fun j => ?_)
    by_cases e : j = i
    · subst e
      simp [updV, va_rf]
    · by_cases h : j < i
      · simp [updV, e, h, Nat.lt_succ_of_lt h]
      · simp [updV, e, h, show ¬ j < i + 1 by omega]
theorem xr_inner (c : ClassId) (n : Nat) : Jvm.Free.Multi.innerC c n (defaultValue .int) = vp_cell c (n, .inl (fun _ => 0)) := by
  rw [vp_cell_i, ← arrV_new]
  rfl
section NMNA
variable {w : wD} {b : Nat} {x : wX} {cc : ByteArray} {nL : Nat} {own : String} {fr lo : Nat} {Q : State → Prop} {pc : Nat} {L : List (Nat × Value)} {S : List Value} {ys : List va_E} {nc ns : Nat}
theorem N.mna (C : Cg w x cc nL own fr lo) {n k : Int32} {n1 k1 a index : Nat} (hdg : decode cc pc = .ok (.multianewarray index 2, 4)) (hcl : Cond.classLink own index "[[I" ∈ wsU) (hn : ¬ n < 0) (hk : ¬ k < 0) (hN : n.toNatClampNeg = n1) (hM : k.toNatClampNeg = k1) (hb1 : n1 * 4 ≤ 536870912) (hb2 : k1 * 4 ≤ 536870912) (hb3 : k1 ≤ 536870912) (ha : b + ys.length = a) {mc ms : Nat} (hm : Cm x mc ms) (h1 : nc + (1 + n1) ≤ mc) (h2 : ns + (n1 + n1 * k1) ≤ ms) (kk : N w b x nL Q (pc + 4) L (.ref a :: S) (ys ++ (.inl (w.2.2.1 4, n1, .inr (.inr (.inr (.inr (fun i => if i < n1 then some (a + 1 + i) else none))))) :: List.replicate n1 (.inl (w.2.2.1 0, k1, .inl (fun _ => 0))))) (nc + 1 + n1) (ns + n1 + n1 * k1)) : N w b x nL Q pc L (.int k :: .int n :: S) ys nc ns := by
  obtain ⟨p, e, R, s, m, args, below, meth, c, kc, ks⟩ := x
  obtain ⟨hx, hb, -, hown, hts, hK, -⟩ := C
  subst hN
  subst hM
  intro H locs ls hI hS hl
  have hA0 : s.vm.findClass ("[" ++ (FieldType.int).toString) = some (w.2.2.1 0) := (hK.1.1.2 0 _ rfl).2
  have hA4 : s.vm.findClass ("[" ++ (FieldType.array .int).toString) = some (w.2.2.1 4) := (hK.1.1.2 4 _ rfl).2
  intro T hT Xs
  obtain ⟨vm₁, cA, comp, -, fA, fC, -, -, X', step⟩ := Xs.multianewarray2F (ty := .int) hx hown (by rw [sMM]; exact hts _ hcl) hK.2.2.2.2 (hts _ ua_int) (g := F0 m pc ls (.int k :: .int n :: S)) rfl (by rw [hb]; exact hdg) rfl hn hk hb1 hb2 hb3 rfl rfl (Nat.le_trans h1 hm.1) (Nat.le_trans h2 hm.2)
  have ec : some comp = some (w.2.2.1 0) := fC.symm.trans hA0
  cases ec
  have ec : some cA = some (w.2.2.1 4) := fA.symm.trans hA4
  cases ec
  generalize hF : Jvm.Free.Multi.fill (T.setVm vm₁) (w.2.2.1 4) (w.2.2.1 0) n.toNatClampNeg k.toNatClampNeg (defaultValue .int) n.toNatClampNeg = F at X' step
  have hTh : (T.setVm vm₁).heap = H := hT
  obtain ⟨f1, f2, -, -⟩ := Jvm.Free.Multi.fill_facts (T.setVm vm₁) (w.2.2.1 4) (w.2.2.1 0) n.toNatClampNeg k.toNatClampNeg (defaultValue .int) n.toNatClampNeg
  rw [hF, hTh] at f1 f2
  have hold : ∀ q : Nat, q < H.size → F.heap[q]? = H[q]? := fun q hq => by
    have := Jvm.Free.Multi.fill_old (T.setVm vm₁) (w.2.2.1 4) (w.2.2.1 0) n.toNatClampNeg k.toNatClampNeg (defaultValue .int) (a := q) (by rw [hTh]; exact hq) n.toNatClampNeg
    rw [hF, hTh] at this
    exact this
  have hrow : ∀ j : Nat, j < n.toNatClampNeg → F.heap[H.size + 1 + j]? = some (vp_cell (w.2.2.1 0) (k.toNatClampNeg, .inl (fun _ => 0))) := fun j hj => by
    have := Jvm.Free.Multi.fill_inner (T.setVm vm₁) (w.2.2.1 4) (w.2.2.1 0) n.toNatClampNeg k.toNatClampNeg (defaultValue .int) n.toNatClampNeg j hj
    rw [hF, hTh, xr_inner] at this
    exact this
  have hout : Jvm.Free.Multi.outerC (w.2.2.1 4) n.toNatClampNeg H.size n.toNatClampNeg = vp_cell (w.2.2.1 4) (n.toNatClampNeg, .inr (.inr (.inr (.inr (fun i => if i < n.toNatClampNeg then some (H.size + 1 + i) else none))))) := by
    rw [vp_cell_q]
    exact xr_outer (w.2.2.1 4) n.toNatClampNeg H.size n.toNatClampNeg
  rw [hout] at f2
  have ea : H.size = a := by rw [hI.1, ha]
  have hcI : cI w (b + ys.length) (.inl (w.2.2.1 4, n.toNatClampNeg, .inr (.inr (.inr (.inr (fun i => if i < n.toNatClampNeg then some (a + 1 + i) else none))))) :: List.replicate n.toNatClampNeg (.inl (w.2.2.1 0, k.toNatClampNeg, .inl (fun _ => 0)))) F.heap := by
    refine ⟨by rw [f1, hI.1, List.length_cons, List.length_replicate]; omega, fun j e1 hj => ?_⟩
    rw [← hI.1]
    cases j with
    | zero =>
      cases hj
      rw [← ea]
      exact f2
    | succ j =>
      rw [List.getElem?_cons_succ] at hj
      have hjl : j < n.toNatClampNeg := by
        have := (List.getElem?_eq_some_iff.mp hj).1
        rw [List.length_replicate] at this
        exact this
      rw [List.getElem?_replicate, if_pos hjl] at hj
      cases hj
      have h9 := hrow j hjl
      rw [show H.size + 1 + j = H.size + (j + 1) by omega] at h9
      exact h9
  obtain ⟨t, a1, b1⟩ := kk F.heap locs ls (hI.app hcI hold) ⟨by rw [f1]; have := hS.1; omega, fun q h3 h4 => (hold q (Nat.lt_of_lt_of_le h3 hS.1)).trans (hS.2.1 q h3 h4), hS.2.2⟩ hl F rfl X'
  refine ⟨t, step t ?_, b1⟩
  have e : T.heap.size = a := by rw [hT, ea]
  rw [e]
  exact a1
end NMNA
/-- an array of references whose first i are set: to a, a + d, a + 2 d .. -/
def qA (c : ClassId) (n a d i : Nat) : va_E := .inl (c, n, .inr (.inr (.inr (.inr (fun j => if j < i then some (a + d * j) else none)))))
theorem qA_0 {c : ClassId} {n a d : Nat} : (.inl (c, n, .inr (.inr (.inr (.inr (fun _ => none))))) : va_E) = qA c n a d 0 := by
  unfold qA
  simp
theorem qA_up {c : ClassId} {n a d i v : Nat} (h : v = a + d * i) (hi : i < 2 ^ 31) : (.inl (c, n, .inr (.inr (.inr (.inr (va_up (fun j => if j < i then some (a + d * j) else none) (nI i).toNatClampNeg (some v)))))) : va_E) = qA c n a d (i + 1) := by
  unfold qA
  congr 7
  funext j
  rw [nI_clamp hi, h]
  by_cases e : j = i
  · subst e
    rw [va_up_self, if_pos (Nat.lt_succ_self j)]
  · rw [va_up_ne _ _ e]
    by_cases h2 : j < i
    · rw [if_pos h2, if_pos (by omega)]
    · rw [if_neg h2, if_neg (by omega)]
theorem gx_at {A B : List va_E} {n : Nat} (k : Nat) (hA : A.length = n) : (A ++ B)[n + k]? = B[k]? := by
  subst hA
  rw [List.getElem?_append_right (Nat.le_add_right _ _), Nat.add_sub_cancel_left]
theorem gx_set {A B : List va_E} {n : Nat} (k : Nat) {e : va_E} (hA : A.length = n) : (A ++ B).set (n + k) e = A ++ B.set k e := by
  subst hA
  rw [List.set_append_right _ _ (Nat.le_add_right _ _), Nat.add_sub_cancel_left]
def zP3 (w : wD) (b i : Nat) : List va_E := [.inr (3, [.int 1, .int 2, .int 10, .ref (b + 1), .ref (b + 2), .int 0, .ref (b + 3), .ref (b + 4)]), .inl (w.2.2.1 0, 6, .inl (fun _ => 0)), qA (w.2.2.1 2) 6 (b + 69) 1 i, .inl (w.2.2.1 0, 6, .inl (fun _ => 0)), qA (w.2.2.1 4) 64 (b + 5) 1 64] ++ List.replicate 64 (.inl (w.2.2.1 0, 6, .inl (fun _ => 0)))
def zX3 (w : wD) (b : Nat) : List va_E := zP3 w b 6 ++ List.replicate 6 (.inr (4, [.int 1500, .int 1900]))
theorem zP3_len (w : wD) (b i : Nat) : (zP3 w b i).length = 69 := rfl
theorem zX3_len (w : wD) (b : Nat) : (zX3 w b).length = 75 := rfl
theorem X3_loop (w : wD) (b : Nat) {x : wX} (C : Cg w x cX3_init 2 yX3_init.cls 2 32) (hr : Rt x none) (hm : Cm x 74 478) : ∀ (n i : Nat), i + n = 6 → N w b x 2 (QN w b x 74 478 (zX3 w b)) 64 [(1, .int (nI i)), (0, .ref b)] [] (zP3 w b i ++ List.replicate i (.inr (4, [.int 1500, .int 1900]))) (68 + i) (466 + 2 * i) := by
  intro n
  induction n with
  | zero =>
    intro i hi
    have hi6 : i = 6 := by omega
    subst hi6
    refine N.iload_n C 0 dX3_init_64 rfl rfl ?_
    refine N.bipush C (v := 6) dX3_init_65 rfl ?_
    refine N.icmp_ge C dX3_init_67 rfl (fun _ => ?_) (fun c1 => absurd (show (6 : Int32) ≤ nI 6 by decide +kernel) c1)
    exact N.vret C hr dX3_init_89 (Nat.le_of_ble_eq_true rfl) (Nat.le_of_ble_eq_true rfl)
  | succ n ih =>
    intro i hi
    refine N.iload_n C 0 dX3_init_64 rfl rfl ?_
    refine N.bipush C (v := 6) dX3_init_65 rfl ?_
    refine N.icmp_ge C dX3_init_67 rfl (fun c1 => absurd c1 (nI_ge (b := 6) (by omega) (by decide))) (fun _ => ?_)
    refine N.aload_n C 1 dX3_init_70 rfl rfl ?_
    refine N.get C (i := 0) (fs := [.int 1, .int 2, .int 10, .ref (b + 1), .ref (b + 2), .int 0, .ref (b + 3), .ref (b + 4)]) (v := .ref (b + 2)) 4 dX3_init_71 rfl rfl rfl uX_X3 (by decide) uf_RX3_27 rfl rfl ?_
    refine N.iload_n C 0 dX3_init_74 rfl rfl ?_
    have hlen : b + (zP3 w b i ++ List.replicate i (.inr (4, [.int 1500, .int 1900]) : va_E)).length = b + 69 + 1 * i := by
      rw [List.length_append, zP3_len, List.length_replicate]
      omega
    refine N.new C (ci := 4) (fs := [.int 0, .int 0]) (a := b + 69 + 1 * i) dX3_init_75 uX_X4 tyX4 tyX4_ok uj_RX3_25 un_RX4 ui_RX4 rfl (fun j hj => by rcases (show j = 0 ∨ j = 1 by omega) with rfl | rfl <;> rfl) hlen hm (by omega) (by omega) ?_
    refine N.dup C dX3_init_78 rfl ?_
    refine N.callI C (e0 := .inr (4, [.int 0, .int 0])) (zs := zX4) (ys1 := zP3 w b i ++ List.replicate i (.inr (4, [.int 1500, .int 1900]))) (some "PlateRoom") (cKX4_init w (b + 69 + 1 * i)) dX3_init_79 uy_X4 unm_RX3_42 rfl hlen ⟨by decide, by decide⟩ (Nat.le_of_ble_eq_true rfl) hm (by omega) (by omega) ?_
    refine N.astq C (i := 2) (i2 := 69 + i) (n := 6) (ci := 4) (t0 := 2) (r := (RX4, TX4, 2)) (vs := [.int 1500, .int 1900]) (f := fun j => if j < i then some (b + 69 + 1 * j) else none) (cA0 := w.2.2.1 2) (ys1 := zP3 w b (i + 1) ++ List.replicate (i + 1) (.inr (4, [.int 1500, .int 1900]))) dX3_init_82 rfl rfl rfl (by omega) ?_ rfl (nI_in (by omega) (by decide)) ?_ ?_
    · rw [List.append_assoc, gx_at i (zP3_len w b i), List.getElem?_append_right (by rw [List.length_replicate]; omega), List.length_replicate, Nat.sub_self]
      rfl
    · rw [qA_up rfl (by omega), List.append_assoc, List.replicate_succ']
      rfl
    · refine N.iinc C 0 (v := nI (i + 1)) dX3_init_83 rfl (by rw [nI_succ]; rfl) (by decide) rfl ?_
      refine N.goto C dX3_init_86 (tgt := 64) rfl ?_
      refine N.eq (ys1 := zP3 w b (i + 1) ++ List.replicate (i + 1) (.inr (4, [.int 1500, .int 1900]))) (nc1 := 68 + (i + 1)) (ns1 := 466 + 2 * (i + 1)) rfl (by omega) (by omega) ?_
      exact ih (i + 1) (by omega)
theorem Ca4 {w : wD} {x : wX} {cc : ByteArray} {nL : Nat} {own : String} {fr lo : Nat} (C : Cg w x cc nL own fr lo) : Ca x RX4 := by
  obtain ⟨p, e, R, s, m, args, below, meth, c, kc, ks⟩ := x
  exact C.2.2.2.2.2.1.2.1
theorem Ca2 {w : wD} {x : wX} {cc : ByteArray} {nL : Nat} {own : String} {fr lo : Nat} (C : Cg w x cc nL own fr lo) : Ca x RX2 := by
  obtain ⟨p, e, R, s, m, args, below, meth, c, kc, ks⟩ := x
  exact C.2.2.2.2.2.1.2.2.1
theorem Ca1 {w : wD} {x : wX} {cc : ByteArray} {nL : Nat} {own : String} {fr lo : Nat} (C : Cg w x cc nL own fr lo) : Ca x RX1 := by
  obtain ⟨p, e, R, s, m, args, below, meth, c, kc, ks⟩ := x
  exact C.2.2.2.2.2.1.2.2.2.1
theorem cKX3_init (w : wD) (b : Nat) : MC w b yX3_init cX3_init 2 2 32 74 478 (.inr (3, [.int 0, .int 0, .int 0, .null, .null, .int 0, .null, .null])) (zX3 w b) := by
  refine MC.of (by decide) (by decide) rfl (fun x C Cx hr hm => ?_)
  refine N.aload_n C 0 dX3_init_0 rfl rfl ?_
  refine N.obj C dX3_init_1 ul_RX3_o (by decide) (by decide) ?_
  refine N.aload_n C 0 dX3_init_4 rfl rfl ?_
  refine N.iconst C (v := 1) dX3_init_5 rfl ?_
  refine N.put C (i := 0) (fs := [.int 0, .int 0, .int 0, .null, .null, .int 0, .null, .null]) (ty := tyX3 0) (ys1 := [.inr (3, [.int 1, .int 0, .int 0, .null, .null, .int 0, .null, .null])]) 0 dX3_init_6 rfl rfl rfl uX_X3 tyX3 tyX3_ok nmX3 (by decide) uf_RX3_9 rfl rfl (by decide +kernel) rfl rfl (Nat.le_of_ble_eq_true rfl) rfl ?_
  refine N.aload_n C 0 dX3_init_9 rfl rfl ?_
  refine N.iconst C (v := 2) dX3_init_10 rfl ?_
  refine N.put C (i := 0) (fs := [.int 1, .int 0, .int 0, .null, .null, .int 0, .null, .null]) (ty := tyX3 1) (ys1 := [.inr (3, [.int 1, .int 2, .int 0, .null, .null, .int 0, .null, .null])]) 1 dX3_init_11 rfl rfl rfl uX_X3 tyX3 tyX3_ok nmX3 (by decide) uf_RX3_15 rfl rfl (by decide +kernel) rfl rfl (Nat.le_of_ble_eq_true rfl) rfl ?_
  refine N.aload_n C 0 dX3_init_14 rfl rfl ?_
  refine N.bipush C (v := 10) dX3_init_15 rfl ?_
  refine N.put C (i := 0) (fs := [.int 1, .int 2, .int 0, .null, .null, .int 0, .null, .null]) (ty := tyX3 2) (ys1 := [.inr (3, [.int 1, .int 2, .int 10, .null, .null, .int 0, .null, .null])]) 2 dX3_init_17 rfl rfl rfl uX_X3 tyX3 tyX3_ok nmX3 (by decide) uf_RX3_18 rfl rfl (by decide +kernel) rfl rfl (Nat.le_of_ble_eq_true rfl) rfl ?_
  refine N.aload_n C 0 dX3_init_20 rfl rfl ?_
  refine N.bipush C (v := 6) dX3_init_21 rfl ?_
  refine N.newa C (a := b + 1) (n1 := 6) dX3_init_23 (by decide) rfl (Nat.le_of_ble_eq_true rfl) rfl hm (Nat.le_of_ble_eq_true rfl) (Nat.le_of_ble_eq_true rfl) ?_
  refine N.eq (ys1 := [.inr (3, [.int 1, .int 2, .int 10, .null, .null, .int 0, .null, .null]), .inl (w.2.2.1 0, 6, .inl (fun _ => 0))]) (nc1 := 1) (ns1 := 6) rfl rfl rfl ?_
  refine N.putF C Cx (i := 0) (fs := [.int 1, .int 2, .int 10, .null, .null, .int 0, .null, .null]) (ty := tyX3 3) (ys1 := [.inr (3, [.int 1, .int 2, .int 10, .ref (b + 1), .null, .int 0, .null, .null]), .inl (w.2.2.1 0, 6, .inl (fun _ => 0))]) 3 dX3_init_25 rfl rfl rfl uX_X3 tyX3 tyX3_ok nmX3 (by decide) uf_RX3_21 rfl rfl rfl (by decide +kernel) rfl rfl (Nat.le_of_ble_eq_true rfl) rfl ?_
  refine N.aload_n C 0 dX3_init_28 rfl rfl ?_
  refine N.bipush C (v := 6) dX3_init_29 rfl ?_
  refine N.newq C (a := b + 2) (n1 := 6) (t0 := 2) (cA0 := w.2.2.1 2) dX3_init_31 uj_RX3_25 (Ca4 C) rfl (by decide) rfl (Nat.le_of_ble_eq_true rfl) rfl hm (Nat.le_of_ble_eq_true rfl) (Nat.le_of_ble_eq_true rfl) ?_
  refine N.eq (ys1 := [.inr (3, [.int 1, .int 2, .int 10, .ref (b + 1), .null, .int 0, .null, .null]), .inl (w.2.2.1 0, 6, .inl (fun _ => 0)), qA (w.2.2.1 2) 6 (b + 69) 1 0]) (nc1 := 2) (ns1 := 12) (by rw [qA_0 (a := b + 69) (d := 1)]; rfl) rfl rfl ?_
  refine N.putF C Cx (i := 0) (fs := [.int 1, .int 2, .int 10, .ref (b + 1), .null, .int 0, .null, .null]) (ty := tyX3 4) (ys1 := [.inr (3, [.int 1, .int 2, .int 10, .ref (b + 1), .ref (b + 2), .int 0, .null, .null]), .inl (w.2.2.1 0, 6, .inl (fun _ => 0)), qA (w.2.2.1 2) 6 (b + 69) 1 0]) 4 dX3_init_34 rfl rfl rfl uX_X3 tyX3 tyX3_ok nmX3 (by decide) uf_RX3_27 rfl rfl rfl (by decide +kernel) rfl rfl (Nat.le_of_ble_eq_true rfl) rfl ?_
  refine N.aload_n C 0 dX3_init_37 rfl rfl ?_
  refine N.iconst C (v := 0) dX3_init_38 rfl ?_
  refine N.put C (i := 0) (fs := [.int 1, .int 2, .int 10, .ref (b + 1), .ref (b + 2), .int 0, .null, .null]) (ty := tyX3 5) (ys1 := [.inr (3, [.int 1, .int 2, .int 10, .ref (b + 1), .ref (b + 2), .int 0, .null, .null]), .inl (w.2.2.1 0, 6, .inl (fun _ => 0)), qA (w.2.2.1 2) 6 (b + 69) 1 0]) 5 dX3_init_39 rfl rfl rfl uX_X3 tyX3 tyX3_ok nmX3 (by decide) uf_RX3_31 rfl rfl (by decide +kernel) rfl rfl (Nat.le_of_ble_eq_true rfl) rfl ?_
  refine N.aload_n C 0 dX3_init_42 rfl rfl ?_
  refine N.bipush C (v := 6) dX3_init_43 rfl ?_
  refine N.newa C (a := b + 3) (n1 := 6) dX3_init_45 (by decide) rfl (Nat.le_of_ble_eq_true rfl) rfl hm (Nat.le_of_ble_eq_true rfl) (Nat.le_of_ble_eq_true rfl) ?_
  refine N.eq (ys1 := [.inr (3, [.int 1, .int 2, .int 10, .ref (b + 1), .ref (b + 2), .int 0, .null, .null]), .inl (w.2.2.1 0, 6, .inl (fun _ => 0)), qA (w.2.2.1 2) 6 (b + 69) 1 0, .inl (w.2.2.1 0, 6, .inl (fun _ => 0))]) (nc1 := 3) (ns1 := 18) rfl rfl rfl ?_
  refine N.putF C Cx (i := 0) (fs := [.int 1, .int 2, .int 10, .ref (b + 1), .ref (b + 2), .int 0, .null, .null]) (ty := tyX3 6) (ys1 := [.inr (3, [.int 1, .int 2, .int 10, .ref (b + 1), .ref (b + 2), .int 0, .ref (b + 3), .null]), .inl (w.2.2.1 0, 6, .inl (fun _ => 0)), qA (w.2.2.1 2) 6 (b + 69) 1 0, .inl (w.2.2.1 0, 6, .inl (fun _ => 0))]) 6 dX3_init_47 rfl rfl rfl uX_X3 tyX3 tyX3_ok nmX3 (by decide) uf_RX3_34 rfl rfl rfl (by decide +kernel) rfl rfl (Nat.le_of_ble_eq_true rfl) rfl ?_
  refine N.aload_n C 0 dX3_init_50 rfl rfl ?_
  refine N.bipush C (v := 64) dX3_init_51 rfl ?_
  refine N.bipush C (v := 6) dX3_init_53 rfl ?_
  refine N.mna C (a := b + 4) (n1 := 64) (k1 := 6) dX3_init_55 uj_RX3_37 (by decide) (by decide) rfl rfl (Nat.le_of_ble_eq_true rfl) (Nat.le_of_ble_eq_true rfl) (Nat.le_of_ble_eq_true rfl) rfl hm (Nat.le_of_ble_eq_true rfl) (Nat.le_of_ble_eq_true rfl) ?_
  refine N.eq (ys1 := [.inr (3, [.int 1, .int 2, .int 10, .ref (b + 1), .ref (b + 2), .int 0, .ref (b + 3), .null]), .inl (w.2.2.1 0, 6, .inl (fun _ => 0)), qA (w.2.2.1 2) 6 (b + 69) 1 0, .inl (w.2.2.1 0, 6, .inl (fun _ => 0)), qA (w.2.2.1 4) 64 (b + 5) 1 64] ++ List.replicate 64 (.inl (w.2.2.1 0, 6, .inl (fun _ => 0)))) (nc1 := 68) (ns1 := 466) (by unfold qA; simp only [Nat.one_mul]; rfl) rfl rfl ?_
  refine N.putF C Cx (i := 0) (fs := [.int 1, .int 2, .int 10, .ref (b + 1), .ref (b + 2), .int 0, .ref (b + 3), .null]) (ty := tyX3 7) (ys1 := zP3 w b 0) 7 dX3_init_59 rfl rfl rfl uX_X3 tyX3 tyX3_ok nmX3 (by decide) uf_RX3_39 rfl rfl rfl (by decide +kernel) rfl rfl (Nat.le_of_ble_eq_true rfl) rfl ?_
  refine N.iconst C (v := 0) dX3_init_62 rfl ?_
  refine N.istore_n C dX3_init_63 rfl (by decide) rfl ?_
  refine N.eq (ys1 := zP3 w b 0 ++ List.replicate 0 (.inr (4, [.int 1500, .int 1900]))) (nc1 := 68 + 0) (ns1 := 466 + 2 * 0) rfl rfl rfl ?_
  exact X3_loop w b C hr hm 6 0 rfl
