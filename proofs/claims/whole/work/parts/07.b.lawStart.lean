/-! PART 07.b: the law's start, its rows -/
/-! THE CLAIM OUT OF ONE WALK OF THE LAW'S BODY. Your part is whole_start (and what it stands on); all else here is the same for every law, but numbers. -/
def R_law : String := "PlateRoomLaw"
def lw_P (b : Addr) (xs : List Int32) (args : Array Value) (s : State) : Prop := args = #[.ref b] ∧ s.IntsAt b xs ∧ xs.length ≤ 2560 ∧ (Jvm.Cond.and given_1 narrow_1).before args s = true
def lw_Q (_ : Array Value) (s : State) (o : Outcome) (t : State) : Prop := o = .returned (some (.int 1)) ∧ Framed s o t [] 630291 7211376
def lw_Z (below : List Frame) (a : Array Value) (s : State) : State → Prop := fun t => ∃ o, t.status = .running ∧ Ended t below o ∧ lw_Q a s o t
/-- the law's own end, with 1 on the stack, nothing written that was there before, its room as the claim has it -/
theorem lw_ret {p : Program} {l : Launch} {e : Env} {s : State} {m : MethodId} {below : List Frame} {meth : Method} {c : Code} {b : Nat} (hx : p.tables.exec = Jvm.exec) (hb : c.code = code) (hr : meth.sig.returnType = ret) (hlocks : meth.locks = false) {pc : Nat} {H : Heap} {ls : Array Slot} (hdg : decode code pc = .ok (.ireturn, 1)) : W p l e room_1 s m #[Value.ref b] below meth c H [] 630291 7211376 (lw_Z below #[Value.ref b] s) (F0 m pc ls [.int 1]) := by
  intro T hT X
  obtain ⟨fs, hret, hrun, hended, hW, hframe⟩ := X.leave (v := some (.int 1)) (hlocks := hlocks) (fun h => by rw [hr] at h; cases h)
  have hmeth' : T.vm.method? m = some meth := X.method'
  refine ⟨T.setFrames fs, ?_, .returned (some (.int 1)), hrun, hended, rfl, ⟨_, rfl⟩, hW, hframe⟩
  jvm_step X.here [X.here.top, hx, hb, hdg, hmeth', hr, ret, narrow_b1]
  (try refine ⟨rfl, ?_⟩); (try refine ⟨rfl, ?_⟩)
  first | (intro acts; rw [hret _ acts rfl rfl rfl]) | rw [hret _ _ rfl rfl rfl]
  exact Steps.refl _
/-- what holds at the law's entry: the machine, the code, the tables' words (any of lw_tbl by 'hts w (by decide +kernel)'), the script of L ints xs at the cell b, what the Statement gives of the start (any of its parts by flat_of_before) -/
def lw_At (p : Program) (s : State) (m : MethodId) (meth : Method) (c : Code) (b L : Nat) (xs : Nat → Int32) : Prop :=
  p.tables.exec = Jvm.exec ∧ c.code = code ∧ meth.sig.returnType = ret ∧ c.maxLocals = 4 ∧ s.vm.findClass R_law = some m.cls ∧ (∀ w ∈ lw_tbl, w.before #[Value.ref b] s = true) ∧ va_X b L xs s s.heap ∧ b < s.heap.size ∧ meth.locks = false ∧ (Jvm.Cond.and given_1 narrow_1).before #[Value.ref b] s = true
theorem nf_in : ∀ q ∈ wNF, Cond.fieldLinkNest q.1 q.2.1 q.2.2.1 q.2.2.2.1 q.2.2.2.2.1 q.2.2.2.2.2 ∈ lw_tbl := by
  intro q hq
  have h : wNF.map (fun q => Cond.fieldLinkNest q.1 q.2.1 q.2.2.1 q.2.2.2.1 q.2.2.2.2.1 q.2.2.2.2.2) = ([86, 88, 96, 98, 100, 102, 104, 106, 133, 135, 138, 140, 170, 177, 179, 181, 183, 185, 187, 189] : List Nat).filterMap (fun i => lw_tbl[i]?) := by decide +kernel
  have hm : Cond.fieldLinkNest q.1 q.2.1 q.2.2.1 q.2.2.2.1 q.2.2.2.2.1 q.2.2.2.2.2 ∈ wNF.map (fun q => Cond.fieldLinkNest q.1 q.2.1 q.2.2.1 q.2.2.2.1 q.2.2.2.2.1 q.2.2.2.2.2) := List.mem_map.mpr ⟨q, hq, rfl⟩
  rw [h] at hm
  obtain ⟨i, -, hi⟩ := List.mem_filterMap.mp hm
  exact List.mem_of_getElem? hi
theorem nm_in : ∀ q ∈ wNM, Cond.methodLinkNest q.1 q.2.1 q.2.2.1 q.2.2.2 ∈ lw_tbl := by
  intro q hq
  have h : wNM.map (fun q => Cond.methodLinkNest q.1 q.2.1 q.2.2.1 q.2.2.2) = ([72, 81, 128, 158, 164, 205, 206, 245, 249, 257, 280, 289, 309, 333, 348, 352, 353, 365, 373, 428, 436, 444, 453, 454, 464, 473, 481, 486, 489, 507, 510, 518, 531] : List Nat).filterMap (fun i => lw_tbl[i]?) := by decide +kernel
  have hm : Cond.methodLinkNest q.1 q.2.1 q.2.2.1 q.2.2.2 ∈ wNM.map (fun q => Cond.methodLinkNest q.1 q.2.1 q.2.2.1 q.2.2.2) := List.mem_map.mpr ⟨q, hq, rfl⟩
  rw [h] at hm
  obtain ⟨i, -, hi⟩ := List.mem_filterMap.mp hm
  exact List.mem_of_getElem? hi
theorem start_K {s : State} {b : Nat} (hts : ∀ w ∈ lw_tbl, w.before #[Value.ref b] s = true) : ∃ (D : va_G) (cy : Nat → ClassId), ∀ (l : Launch) (E : Nat → Nat → Nat) (A : Nat → Prop), wKo (l, D, cy, E, A) s := by
  obtain ⟨c0, i0, k0⟩ := u_known (C := RX0) (T := TX0) (N := 5) (n := 5) hts (fun q hq => wsU_in q (uX_X0 q hq)) (hts _ (wsU_in _ un_RX0))
  obtain ⟨c1, i1, k1⟩ := u_known (C := RX1) (T := TX1) (N := 2) (n := 2) hts (fun q hq => wsU_in q (uX_X1 q hq)) (hts _ (wsU_in _ un_RX1))
  obtain ⟨c2, i2, k2⟩ := u_known (C := RX2) (T := TX2) (N := 7) (n := 7) hts (fun q hq => wsU_in q (uX_X2 q hq)) (hts _ (wsU_in _ un_RX2))
  obtain ⟨c3, i3, k3⟩ := u_known (C := RX3) (T := TX3) (N := 8) (n := 8) hts (fun q hq => wsU_in q (uX_X3 q hq)) (hts _ (wsU_in _ un_RX3))
  obtain ⟨c4, i4, k4⟩ := u_known (C := RX4) (T := TX4) (N := 2) (n := 2) hts (fun q hq => wsU_in q (uX_X4 q hq)) (hts _ (wsU_in _ un_RX4))
  obtain ⟨c5, i5, k5⟩ := u_known (C := RX5) (T := TX5) (N := 8) (n := 8) hts (fun q hq => wsU_in q (uX_X5 q hq)) (hts _ (wsU_in _ un_RX5))
  obtain ⟨c6, i6, k6⟩ := u_known (C := RX6) (T := TX6) (N := 23) (n := 23) hts (fun q hq => wsU_in q (uX_X6 q hq)) (hts _ (wsU_in _ un_RX6))
  obtain ⟨a0, p0⟩ : ∃ cA, ArrOfT s cA .int ∧ va_RA s cA .int := by
    obtain ⟨c, k, comp, h1, h2, h3⟩ := Cond.arrayClass_spec (hts _ (wsU_in _ ua_int))
    exact ⟨c, fun n z => ⟨fun k h => (by cases h), k, h2, comp, h3⟩, h1⟩
  obtain ⟨a1, p1⟩ : ∃ cA, ArrOfT s cA (.object RX2) ∧ va_RA s cA (.object RX2) := by
    obtain ⟨comp, c, k, h1, -, h3, h4, h5⟩ := Cond.arrayOver_spec (hts _ uo_RX2)
    exact ⟨c, fun n z => ⟨fun k h => (by cases h), k, h3, comp, h4⟩, k, comp, h3, h4, h1, h5⟩
  obtain ⟨a2, p2⟩ : ∃ cA, ArrOfT s cA (.object RX4) ∧ va_RA s cA (.object RX4) := by
    obtain ⟨comp, c, k, h1, -, h3, h4, h5⟩ := Cond.arrayOver_spec (hts _ uo_RX4)
    exact ⟨c, fun n z => ⟨fun k h => (by cases h), k, h3, comp, h4⟩, k, comp, h3, h4, h1, h5⟩
  obtain ⟨a3, p3⟩ : ∃ cA, ArrOfT s cA (.object RX1) ∧ va_RA s cA (.object RX1) := by
    obtain ⟨comp, c, k, h1, -, h3, h4, h5⟩ := Cond.arrayOver_spec (hts _ uo_RX1)
    exact ⟨c, fun n z => ⟨fun k h => (by cases h), k, h3, comp, h4⟩, k, comp, h3, h4, h1, h5⟩
  obtain ⟨a4, p4⟩ : ∃ cA, ArrOfT s cA (.array .int) ∧ va_RA s cA (.array .int) := by
    obtain ⟨comp, c, k, h1, -, h3, h4, h5⟩ := arrayOverA_spec (hts _ uo_int)
    exact ⟨c, fun n z => ⟨fun k h => (by cases h), k, h3, comp, h4⟩, h5⟩
  refine ⟨(fun k => match k with | 0 => c0 | 1 => c1 | 2 => c2 | 3 => c3 | 4 => c4 | 5 => c5 | _ => c6, fun k => match k with | 0 => i0 | 1 => i1 | 2 => i2 | 3 => i3 | 4 => i4 | 5 => i5 | _ => i6), fun k => match k with | 0 => a0 | 1 => a1 | 2 => a2 | 3 => a3 | _ => a4, fun l E A => ⟨⟨⟨fun c q hq => ?_, fun k q hk => ?_⟩, fun q hq => va_Nw.of rfl (hts _ (nf_in q hq)), fun q hq => va_Nw.of rfl (hts _ (nm_in q hq))⟩, va_AO.of (hts _ uo_RX4), va_AO.of (hts _ uo_RX2), va_AO.of (hts _ uo_RX1), hts _ uo_int⟩⟩
  · match c, hq with
    | 0, hq => cases hq; exact k0
    | 1, hq => cases hq; exact k1
    | 2, hq => cases hq; exact k2
    | 3, hq => cases hq; exact k3
    | 4, hq => cases hq; exact k4
    | 5, hq => cases hq; exact k5
    | 6, hq => cases hq; exact k6
    | c + 7, hq => simp [vwCl] at hq
  · match k, hk with
    | 0, hk => cases hk; exact p0
    | 1, hk => cases hk; exact p1
    | 2, hk => cases hk; exact p2
    | 3, hk => cases hk; exact p3
    | 4, hk => cases hk; exact p4
    | k + 5, hk => simp [wTys] at hk
theorem z0_sim : wSim z0 := by
  refine ⟨0, 0, 0, 0, fun _ => 0, ⟨⟨by decide, by decide, by decide, by decide⟩, ⟨by decide +kernel, by decide +kernel⟩, ⟨by decide +kernel, by decide +kernel⟩, ⟨by decide +kernel, by decide +kernel⟩, ⟨by decide +kernel, by decide +kernel⟩, by decide +kernel⟩, ⟨rfl, rfl, rfl⟩, ⟨⟨by decide +kernel, by decide +kernel, by decide +kernel, by decide +kernel, by decide +kernel⟩, by decide +kernel, by decide +kernel, by decide +kernel, by decide +kernel⟩, ⟨fun k => ?_, fun k => ?_⟩, fun k h => absurd h (Nat.not_lt_zero k), fun k h => absurd h (Nat.not_lt_zero k), ⟨fun k h => absurd h (Nat.not_lt_zero k), fun k _ => ⟨rfl, rfl⟩⟩, ⟨fun i _ => ⟨nI_0.symm, Nat.zero_le _⟩, fun i _ => nI_0.symm, fun i _ => nI_0.symm, fun i _ k h => absurd h (Nat.not_lt_zero k), fun i _ k h => absurd h (Nat.not_lt_zero k), fun i k _ h => absurd h (Nat.not_lt_zero k)⟩, ⟨fun k => rfl, fun k => rfl, fun k => rfl, fun k => rfl, fun k => ?_, fun k => ?_, fun k => ?_⟩, rfl⟩
  · show rng12 0
    decide
  · show rng12 0
    decide
  · show rng12 0
    decide
  · show rng12 0
    decide
  · show (0 : Int32) &&& 0 = 0
    decide
def Cx (w : wD) (x : wX) (b n : Nat) (xs : Nat → Int32) : Prop := match x with
  | (_, _, _, s, _, _, _, _, _, _, _) => va_X b n xs s s.heap ∧ b < s.heap.size ∧ ¬ w.2.2.2.2 b
section LROWS
variable {w : wD} {x : wX} {cc : ByteArray} {nL : Nat} {own : String} {fr lo : Nat} {Q : State → Prop} {pc : Nat} {L : List (Nat × Value)} {S : List Value} {σ : wSt} {b n : Nat} {xs : Nat → Int32}
theorem G.sld (C : Cf w x cc nL own fr lo) (X : Cx w x b n xs) {j : Int32} (hdg : decode cc pc = .ok (.iaload, 1)) (hin : vp_in j n) (kk : G w x nL Q (pc + 1) L (.int (xs j.toNatClampNeg) :: S) σ) : G w x nL Q pc L (.int j :: .ref b :: S) σ := by
  obtain ⟨p, e, R, s, m, args, below, meth, c, kc, ks⟩ := x
  obtain ⟨hx, hb, -⟩ := C
  obtain ⟨h1, h2, h3⟩ := X
  intro H locs ls hI hS hl
  exact va_sld hx hb h1 h2 h3 hS hin hdg (kk H locs ls hI hS hl)
theorem G.slen (C : Cf w x cc nL own fr lo) (X : Cx w x b n xs) (hdg : decode cc pc = .ok (.arraylength, 1)) (kk : G w x nL Q (pc + 1) L (.int (nI n) :: S) σ) : G w x nL Q pc L (.ref b :: S) σ := by
  obtain ⟨p, e, R, s, m, args, below, meth, c, kc, ks⟩ := x
  obtain ⟨hx, hb, -⟩ := C
  obtain ⟨h1, h2, h3⟩ := X
  intro H locs ls hI hS hl
  exact va_slen hx hb h1 h2 h3 hS hdg (kk H locs ls hI hS hl)
end LROWS
section NLAW
variable {w : wD} {b : Nat} {x : wX} {cc : ByteArray} {nL : Nat} {own : String} {fr lo : Nat} {Q : State → Prop} {pc : Nat} {L : List (Nat × Value)} {S : List Value} {ys : List va_E} {nc ns : Nat}
theorem N.astore_n (C : Cg w x cc nL own fr lo) {L1 : List (Nat × Value)} {k : Fin 4} {i v : Nat} (hdg : decode cc pc = .ok (.astore_n k, 1)) (hi : (k : Nat) = i) (hn : i < nL) (hL : (i, Value.ref v) :: L.filter (fun q => !(q.1 == i) && !(q.1 + 1 == i && q.2.category == 2)) = L1) (kk : N w b x nL Q (pc + 1) L1 S ys nc ns) : N w b x nL Q pc L (.ref v :: S) ys nc ns := by
  obtain ⟨p, e, R, s, m, args, below, meth, c, kc, ks⟩ := x
  obtain ⟨hx, hb, -⟩ := C
  intro H locs ls hI hS hl
  exact lv_astore_n hx hb hdg hi hl hn hL (fun ls2 hl2 => kk H locs ls2 hI hS hl2)
end NLAW
theorem sc_1 {i n : Nat} (h : i + 5 ≤ n) (hn : n ≤ 2560) : vp_in (nI i + 1) n := by
  rw [show (1 : Int32) = nI 1 from rfl, nI_add]
  exact vp_in_nI (by omega) (by omega)
theorem sc_2 {i n : Nat} (h : i + 5 ≤ n) (hn : n ≤ 2560) : vp_in (nI i + 2) n := by
  rw [show (2 : Int32) = nI 2 from rfl, nI_add]
  exact vp_in_nI (by omega) (by omega)
theorem sc_3 {i n : Nat} (h : i + 5 ≤ n) (hn : n ≤ 2560) : vp_in (nI i + 3) n := by
  rw [show (3 : Int32) = nI 3 from rfl, nI_add]
  exact vp_in_nI (by omega) (by omega)
theorem sc_4 {i n : Nat} (h : i + 5 ≤ n) (hn : n ≤ 2560) : vp_in (nI i + 4) n := by
  rw [show (4 : Int32) = nI 4 from rfl, nI_add]
  exact vp_in_nI (by omega) (by omega)
theorem lg_eq0 {u v : Int64} (h : u = v) : lg_cmp u v = 0 := by
  subst h
  unfold lg_cmp
  rw [if_neg (by simp), if_pos rfl]
