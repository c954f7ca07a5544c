/-! PART 07.d: the law's loop, its start, the claim -/
theorem law_loop {p : Program} {l : Launch} {e : Env} {s : State} {m : MethodId} {below : List Frame} {meth : Method} {c : Code} {D : va_G} {cy : Nat → ClassId} {b L : Nat} {xs : Nat → Int32} (hL : L ≤ 2560) (C0 : lw_At p s m meth c b L xs) (C : Cf (l, D, cy, zE s.heap.size, fun q => s.heap.size ≤ q) (p, e, room_1, s, m, #[Value.ref b], below, meth, c, 630291, 7211376) cL_law 4 RL 9 328) (X : Cx (l, D, cy, zE s.heap.size, fun q => s.heap.size ≤ q) (p, e, room_1, s, m, #[Value.ref b], below, meth, c, 630291, 7211376) b L xs) : ∀ (n i : Nat) (σ : wSt), i ≤ L → L + 1 ≤ i + n → wSim σ → G (l, D, cy, zE s.heap.size, fun q => s.heap.size ≤ q) (p, e, room_1, s, m, #[Value.ref b], below, meth, c, 630291, 7211376) 4 (lw_Z below #[Value.ref b] s) 18 [(0, .ref b), (1, .ref (zE s.heap.size 0 0)), (2, .ref (zE s.heap.size 20 0)), (3, .int (nI i))] [] σ := by
  have hw : wOK (l, D, cy, zE s.heap.size, fun q => s.heap.size ≤ q) := zOK
  intro n
  induction n with
  | zero =>
    intro i σ h1 h2
    exact absurd h2 (by omega)
  | succ n ih =>
    intro i σ h1 h2 h
    refine G.iload_n C 3 dL_law_18 rfl rfl ?_
    refine G.aload_n C 0 dL_law_19 rfl rfl ?_
    refine G.slen C X dL_law_20 ?_
    refine G.iconst C (v := 5) dL_law_21 rfl ?_
    refine G.isub C dL_law_22 ?_
    have e5 : (nI L - 5).toInt = (L : Int) - 5 := pk_sub_toInt (a := L) (b := 5) (by omega) (by omega)
    have ei : (nI i).toInt = (i : Int) := nI_toInt (by omega)
    refine G.icmp_gt C (tgt := 933) dL_law_23 (by decide) (fun _ => ?_) (fun c9 => ?_)
    · refine G.iconst C (v := 1) dL_law_933 rfl ?_
      obtain ⟨hx, hb, hr, hml, hown, hts, hX, hbl, hlocks, hgv⟩ := C0
      intro H locs ls hI hS hl
      refine va_forget (fun q hq => hS.2.2 q hq) ?_
      exact lw_ret hx hb hr hlocks dL_law_934
    · have hi5 : i + 5 ≤ L := by
        rw [Int32.lt_iff_toInt_lt, e5, ei] at c9
        omega
      refine G.aload_n C 0 dL_law_26 rfl rfl ?_
      refine G.iload_n C 3 dL_law_27 rfl rfl ?_
      refine G.sld C X dL_law_28 (vp_in_nI (by omega) (by omega)) ?_
      refine G.bipush C (v := 31) dL_law_29 rfl ?_
      refine G.iand C dL_law_31 ?_
      have kk : ∀ σ2 : wSt, wSim σ2 → G (l, D, cy, zE s.heap.size, fun q => s.heap.size ≤ q) (p, e, room_1, s, m, #[Value.ref b], below, meth, c, 630291, 7211376) 4 (lw_Z below #[Value.ref b] s) 927 [(0, .ref b), (1, .ref (zE s.heap.size 0 0)), (2, .ref (zE s.heap.size 20 0)), (3, .int (nI i))] [] σ2 := fun σ2 h9 => by
        refine G.iinc C 3 (v := nI (i + 5)) dL_law_927 rfl (by rw [← nI_add]; rfl) (by decide) rfl ?_
        refine G.goto C (tgt := 18) dL_law_930 (by decide) ?_
        refine G.sub (L1 := [(0, .ref b), (1, .ref (zE s.heap.size 0 0)), (2, .ref (zE s.heap.size 20 0)), (3, .int (nI (i + 5)))]) [1, 2, 3, 0] rfl ?_
        exact ih (i + 5) σ2 hi5 (by omega) h9
      refine G.table C dL_law_32 (fun j off hj hb ho => ?_) (by decide) (fun hj => ?_)
      · have hj9 : j < 24 := by have := (Array.getElem?_eq_some_iff.mp ho).1; simpa using this
        rcases (show j = 0 ∨ j = 1 ∨ j = 2 ∨ j = 3 ∨ j = 4 ∨ j = 5 ∨ j = 6 ∨ j = 7 ∨ j = 8 ∨ j = 9 ∨ j = 10 ∨ j = 11 ∨ j = 12 ∨ j = 13 ∨ j = 14 ∨ j = 15 ∨ j = 16 ∨ j = 17 ∨ j = 18 ∨ j = 19 ∨ j = 20 ∨ j = 21 ∨ j = 22 ∨ j = 23 by omega) with rfl | rfl | rfl | rfl | rfl | rfl | rfl | rfl | rfl | rfl | rfl | rfl | rfl | rfl | rfl | rfl | rfl | rfl | rfl | rfl | rfl | rfl | rfl | rfl
        · cases ho; exact ⟨144, by decide, law_state C hw X hL hi5 h kk⟩
        · cases ho; exact ⟨187, by decide, law_about C hw X hL hi5 h kk⟩
        · cases ho; exact ⟨220, by decide, law_set C hw X hL hi5 h kk⟩
        · cases ho; exact ⟨253, by decide, law_quarrel C hw X hL hi5 h kk⟩
        · cases ho; exact ⟨276, by decide, law_best C hw X hL hi5 h kk⟩
        · cases ho; exact ⟨299, by decide, law_leaf C hw X hL hi5 h kk⟩
        · cases ho; exact ⟨352, by decide, law_see C hw X hL hi5 h kk⟩
        · cases ho; exact ⟨395, by decide, law_candidates C hw X hL hi5 h kk⟩
        · cases ho; exact ⟨418, by decide, law_mould C hw X hL hi5 h kk⟩
        · cases ho; exact ⟨451, by decide, law_paper C hw X hL hi5 h kk⟩
        · cases ho; exact ⟨484, by decide, law_imprint C hw X hL hi5 h kk⟩
        · cases ho; exact ⟨517, by decide, law_span C hw X hL hi5 h kk⟩
        · cases ho; exact ⟨550, by decide, law_price C hw X hL hi5 h kk⟩
        · cases ho; exact ⟨583, by decide, law_map C hw X hL hi5 h kk⟩
        · cases ho; exact ⟨616, by decide, law_cost C hw X hL hi5 h kk⟩
        · cases ho; exact ⟨649, by decide, law_from C hw X hL hi5 h kk⟩
        · cases ho; exact ⟨672, by decide, law_rivals C hw X hL hi5 h kk⟩
        · cases ho; exact ⟨695, by decide, law_life C hw X hL hi5 h kk⟩
        · cases ho; exact ⟨728, by decide, law_hole C hw X hL hi5 h kk⟩
        · cases ho; exact ⟨771, by decide, law_fits C hw X hL hi5 h kk⟩
        · cases ho; exact ⟨814, by decide, law_shift C hw X hL hi5 h kk⟩
        · cases ho; exact ⟨857, by decide, law_home C hw X hL hi5 h kk⟩
        · cases ho; exact ⟨890, by decide, law_count C hw X hL hi5 h kk⟩
        · cases ho; exact ⟨913, by decide, law_trace C hw X hL hi5 h kk⟩
      · exact ⟨927, by decide, kk σ h⟩
theorem whole_start {p : Program} {e : Env} {s : State} {m : MethodId} {below : List Frame} {meth : Method} {c : Code} (l : Launch) (hflags : l.flags = flags0) {b L : Nat} {xs : Nat → Int32} (hL : L ≤ 2560) (C0 : lw_At p s m meth c b L xs) : W p l e room_1 s m #[Value.ref b] below meth c s.heap [] 0 0 (lw_Z below #[Value.ref b] s) (entryFrame m ([Value.ref b] : List Value).toArray 4) := by
  obtain ⟨hx, hb, hr, hml, hown, hts, hX, hbl, hlocks, hgv⟩ := id C0
  obtain ⟨D, cy, hKo⟩ := start_K hts
  have hK := hKo l (zE s.heap.size) (fun q => s.heap.size ≤ q)
  have hw : wOK (l, D, cy, zE s.heap.size, fun q => s.heap.size ≤ q) := zOK
  have C : Cf (l, D, cy, zE s.heap.size, fun q => s.heap.size ≤ q) (p, e, room_1, s, m, #[Value.ref b], below, meth, c, 630291, 7211376) cL_law 4 RL 9 328 := ⟨hx, hb, hml, hown, fun q hq => hts q (wsU_in q hq), hK.1, hlocks, Nat.le_refl _, Nat.le_refl _, Nat.le_refl _, Nat.le_refl _, hw⟩
  have Cc : Cg (l, D, cy, zE s.heap.size, fun q => s.heap.size ≤ q) (p, e, room_1, s, m, #[Value.ref b], below, meth, c, 630291, 7211376) cL_law 4 RL 9 328 := ⟨hx, hb, hml, hown, fun q hq => hts q (wsU_in q hq), hK, hlocks, Nat.le_refl _, Nat.le_refl _, Nat.le_refl _, Nat.le_refl _⟩
  have X : Cx (l, D, cy, zE s.heap.size, fun q => s.heap.size ≤ q) (p, e, room_1, s, m, #[Value.ref b], below, meth, c, 630291, 7211376) b L xs := ⟨hX, hbl, Nat.not_le.mpr hbl⟩
  have hm : Cm (p, e, room_1, s, m, #[Value.ref b], below, meth, c, 630291, 7211376) 630291 7211376 := ⟨Nat.le_refl _, Nat.le_refl _⟩
  have go : N (l, D, cy, zE s.heap.size, fun q => s.heap.size ≤ q) s.heap.size (p, e, room_1, s, m, #[Value.ref b], below, meth, c, 630291, 7211376) 4 (lw_Z below #[Value.ref b] s) 0 [(0, .ref b)] [] [] 0 0 := by
    refine N.new Cc (ci := 5) (fs := [.null, .null, .null, .int 0, .null, .int 0, .null, .long 0]) (a := s.heap.size) dL_law_0 uX_X5 tyX5 tyX5_ok uj_RL_7 un_RX5 ui_RX5 rfl (fun j hj => by rcases (show j = 0 ∨ j = 1 ∨ j = 2 ∨ j = 3 ∨ j = 4 ∨ j = 5 ∨ j = 6 ∨ j = 7 by omega) with rfl | rfl | rfl | rfl | rfl | rfl | rfl | rfl <;> rfl) rfl hm (Nat.le_of_ble_eq_true rfl) (Nat.le_of_ble_eq_true rfl) ?_
    refine N.dup Cc dL_law_3 rfl ?_
    refine N.callI Cc (e0 := .inr (5, [.null, .null, .null, .int 0, .null, .int 0, .null, .long 0])) (zs := zX5 (l, D, cy, zE s.heap.size, fun q => s.heap.size ≤ q) s.heap.size) (ys1 := []) none (cKX5_init (l, D, cy, zE s.heap.size, fun q => s.heap.size ≤ q) s.heap.size) dL_law_4 uy_X5 ul_RL_9 rfl rfl ⟨by decide, by decide⟩ (Nat.le_of_ble_eq_true rfl) hm (Nat.le_of_ble_eq_true rfl) (Nat.le_of_ble_eq_true rfl) ?_
    refine N.astore_n Cc dL_law_7 rfl (by decide) rfl ?_
    refine N.eq (ys1 := zX5 (l, D, cy, zE s.heap.size, fun q => s.heap.size ≤ q) s.heap.size) (nc1 := 158) (ns1 := 895) rfl rfl rfl ?_
    refine N.new Cc (ci := 6) (fs := [.int 0, .long 0, .int 0, .null, .null, .null, .null, .int 0, .null, .null, .null, .null, .null, .null, .int 0, .null, .null, .int 0, .null, .null, .null, .null, .null]) (a := s.heap.size + 158) dL_law_8 uX_X6 tyX6 tyX6_ok uj_RL_10 un_RX6 ui_RX6 rfl (fun j hj => by rcases (show j = 0 ∨ j = 1 ∨ j = 2 ∨ j = 3 ∨ j = 4 ∨ j = 5 ∨ j = 6 ∨ j = 7 ∨ j = 8 ∨ j = 9 ∨ j = 10 ∨ j = 11 ∨ j = 12 ∨ j = 13 ∨ j = 14 ∨ j = 15 ∨ j = 16 ∨ j = 17 ∨ j = 18 ∨ j = 19 ∨ j = 20 ∨ j = 21 ∨ j = 22 by omega) with rfl | rfl | rfl | rfl | rfl | rfl | rfl | rfl | rfl | rfl | rfl | rfl | rfl | rfl | rfl | rfl | rfl | rfl | rfl | rfl | rfl | rfl | rfl <;> rfl) (by rw [zX5_len]) hm (Nat.le_of_ble_eq_true rfl) (Nat.le_of_ble_eq_true rfl) ?_
    refine N.dup Cc dL_law_11 rfl ?_
    refine N.callI Cc (e0 := .inr (6, [.int 0, .long 0, .int 0, .null, .null, .null, .null, .int 0, .null, .null, .null, .null, .null, .null, .int 0, .null, .null, .int 0, .null, .null, .null, .null, .null])) (zs := zX6 (l, D, cy, zE s.heap.size, fun q => s.heap.size ≤ q) (s.heap.size + 158)) (ys1 := zX5 (l, D, cy, zE s.heap.size, fun q => s.heap.size ≤ q) s.heap.size) none (cKX6_init (l, D, cy, zE s.heap.size, fun q => s.heap.size ≤ q) (s.heap.size + 158)) dL_law_12 uy_X6 ul_RL_12 rfl (by rw [zX5_len]) ⟨by decide, by decide⟩ (Nat.le_of_ble_eq_true rfl) hm (Nat.le_of_ble_eq_true rfl) (Nat.le_of_ble_eq_true rfl) ?_
    refine N.astore_n Cc dL_law_15 rfl (by decide) rfl ?_
    refine N.iconst Cc (v := 0) dL_law_16 rfl ?_
    refine N.istore_n Cc dL_law_17 rfl (by decide) rfl ?_
    refine N.sub (L1 := [(0, .ref b), (1, .ref (s.heap.size + 0)), (2, .ref (s.heap.size + 158)), (3, .int 0)]) [3, 2, 1, 0] rfl ?_
    intro H locs ls hI hS hl
    refine W.widen (k := 630291) (n := 7211376) (Nat.le_of_ble_eq_true rfl) (Nat.le_of_ble_eq_true rfl) ?_
    exact law_loop hL C0 C X (L + 1) 0 z0 (Nat.zero_le L) (by omega) z0_sim H locs ls (zInvOf hI) hS hl
  rw [lg_entry_eq]
  exact go s.heap [] _ ⟨rfl, fun i e1 h1 => by simp at h1⟩ va_S.rf (lv_entry [.ref b] (Nat.le_of_ble_eq_true rfl))
set_option maxHeartbeats 4000000 in
theorem lw_walk (l : Launch) (hflags : l.flags = flags0) (b : Addr) (xs : List Int32) : MetFree l x (headSpec (Jvm.Cond.code x code maxLocals ret :: tables_1) room_1) (lw_P b xs) (fun _ _ _ _ _ => True) lw_Q := by
  refine MetFree.of_bodyS (code := code) (maxLocals := maxLocals) (ret := ret) (by decide) ?_ ?_
  · intro args s m h hn
    obtain ⟨meth, c, h1, h2, h3, h4, h5, h6, -, -⟩ := Cond.code_spec hn (atoms_spec (ws := Jvm.Cond.code x code maxLocals ret :: tables_1) h _ List.mem_cons_self)
    exact ⟨meth, c, h1, h2, h3, h4, h5, h6⟩
  · intro p e s m args below meth c s₁ B hml0 hP _
    obtain ⟨rfl, hx, hbd, hgv⟩ := hP
    obtain ⟨scr, harrAt, hlist, hof, hsmall⟩ := hx
    obtain ⟨hcb, hkn, -, -⟩ := State.arrayAt?_spec harrAt
    have hown : s.vm.findClass R_law = some m.cls := findClass_of_methodNamed B.named
    have hts0 : ∀ c ∈ (Jvm.Cond.code x code maxLocals ret :: tables_1), c.before #[Value.ref b] s = true := atoms_spec (ws := Jvm.Cond.code x code maxLocals ret :: tables_1) B.pre
    have hts : ∀ w ∈ lw_tbl, w.before #[Value.ref b] s = true := k2_hts_sels lw_privs (fun w hw => hts0 w (List.mem_cons_of_mem _ hw)) lw_privs_ok
    have hml : c.maxLocals = 4 := B.maxLocals_eq (hts0 _ List.mem_cons_self)
    have X₀ : Stand p l e room_1 s m #[Value.ref b] below meth c s₁ [] 0 0 := Stand.of_body B
    have hh0 : s₁.heap = s.heap := by rw [B.state]; rfl
    have hsz : scr.slots.size = xs.length := by rw [← Array.length_toList, hlist, List.length_map]
    have hval : ∀ j : Nat, j < xs.length → scr.slots[j]? = some (.int (xs.getD j 0)) := fun j hj => by
      rw [← Array.getElem?_toList, hlist]
      simp [hj]
    have hbl : b < s.heap.size := (Array.getElem?_eq_some_iff.mp hcb).1
    have hX : va_X b xs.length (fun j => xs.getD j 0) s s.heap := ⟨scr, hcb, hof, hkn, hsz, hval⟩
    have K : W p l e room_1 s m #[Value.ref b] below meth c s₁.heap [] 0 0 (lw_Z below #[Value.ref b] s) (entryFrame m ([Value.ref b] : List Value).toArray 4) := by
      rw [hh0]
      exact whole_start l hflags hbd ⟨B.exec, B.bytes, B.returns, hml, hown, hts, hX, hbl, B.notSynchronized, hgv⟩
    obtain ⟨t, a1, o, b1, b2, b3⟩ := K s₁ rfl X₀
    exact ⟨t, o, a1, b1, b2, b3⟩
theorem lw_pre_spec {args : Array Value} {s : State} (h : (Jvm.Cond.and given_1 narrow_1).before args s = true) (hr : rest_1_c.before args s = true) : ∃ (b : Addr) (xs : List Int32), lw_P b xs args s := by
  have hs := flat_of_before _ h
  have hq := flat_of_before _ hr
  have hc : (Cond.count 1).before args s = true := hs _ (by decide +kernel)
  have harr : (Cond.arrayOf (.arg 0) .int).before args s = true := hs _ (by decide +kernel)
  have hle : (Cond.le (.length (.arg 0)) (.int 2560)).before args s = true := hs _ (by decide +kernel)
  have hlen : (Cond.isInt (.length (.arg 0))).before args s = true := hq _ (by decide +kernel)
  have hall : (Cond.all (.arg 0) (.isInt (.elem (.arg 0) (.index 0)))).before args s = true := hq _ (by decide +kernel)
  obtain ⟨b, xs, hb, hx⟩ := State.ints_of_pre rfl harr hlen hall
  have hsm : xs.length < 2 ^ 31 := hx.choose_spec.2.2.2
  have hev : (Term.length (.arg 0)).eval args s none [] s = some (.int xs.length.toInt32) := hx.length_eval hb
  have hv := Cond.le_ints hev (show (Term.int 2560).eval args s none [] s = some (.int 2560) from rfl)
  have hd : xs.length.toInt32 ≤ 2560 := by
    simpa [Cond.before, Cond.holds, hv] using hle
  have hN : xs.length ≤ 2560 := (Int32.ofNat_le_ofNat hsm (by decide)).mp (show Int32.ofNat xs.length ≤ Int32.ofNat 2560 from hd)
  exact ⟨b, xs, Cond.one_arg hc (show args[0]? = some (.ref b) from hb), hx, hN, h⟩
theorem lw_comes (l : Launch) (hflags : l.flags = flags0) : Comes l x (Jvm.Cond.code x code maxLocals ret :: tables_1) room_1 (fun tb e args s => Calls_1 tb e args s ∧ rest_1 tb e args s ∧ Pre_1 tb e args s)
    (fun _ _ args s o t => lw_Q args s o t) := by
  intro p e ha hc hk s m args below hf hfit hheap happ hpre
  obtain ⟨b, xs, hP⟩ := lw_pre_spec hpre.2.2 hpre.2.1
  obtain ⟨k, o, h1, h2, h3, hQ⟩ := lw_walk l hflags b xs p e ha hc hk s m args below hf ((Spec.applies_iff_loose hf).mp happ).1 hP trivial
  exact ⟨k, o, h1, h2, h3, hQ⟩
theorem lw_frame {s t : State} {o : Outcome} {args : Array Value} (h : Framed s o t [] 630291 7211376) :
    Framed s o t (fieldLocs frame_1_writes args s ++ arrayLocs frame_1_arrays args s ++ staticLocs frame_1_statics s) 630291 7211376 := h
theorem lw_limb (L : Cond) (hL : ∀ (args : Array Value) (s t : State), L.after args s (.returned (some (.int 1))) t = true) :
    ArmFor flags0 classFile x code maxLocals ret World_1 tables_1 room_1 Calls_1 rest_1 Pre_1
      (fun tb e a s o t => postC L tb e a s o t ∧ Framed s o t (fieldLocs frame_1_writes a s ++ arrayLocs frame_1_arrays a s ++ staticLocs frame_1_statics s) 630291 7211376) := by
  intro l hflags _ _ p e ha hc hk s m args below hf hfit hheap happ hpre
  obtain ⟨k, o, h1, h2, h3, rfl, hF⟩ := lw_comes l hflags p e ha hc hk s m args below hf hfit hheap happ hpre
  exact ⟨k, _, h1, h2, h3, hL args s _, lw_frame hF⟩
theorem i_vc : Claimed_1_1 ∧ Claimed_1_2 := ⟨lw_limb limb_1_1 (fun args s t => by simp [limb_1_1, Cond.after, Cond.holds, Cond.value]), lw_limb limb_1_2 (fun args s t => Cond.after_iff.mpr (by
  first | (rw [show limb_1_2 = Cond.eq .result (.int 1) from rfl, Cond.eq_ints (x := 1) (y := 1) rfl rfl]; simp; done) | (simp [limb_1_2, Cond.value, Term.eval]; done)))⟩
