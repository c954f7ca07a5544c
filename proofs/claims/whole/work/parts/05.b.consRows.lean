/-! PART 05.b: the constructors' judgement: the heap's cells in a row from b on -/
def xAO (U : State) : Prop := (Cond.arrayOver (.array .int)).before #[] U = true
theorem xAO.moved {u U : State} (hvm : u.vm.Alike U.vm) (h : xAO u) : xAO U := by
  obtain ⟨comp, c, k, h1, h2, h3, h4, h5⟩ := arrayOverA_spec h
  obtain ⟨k', hk', he⟩ := hvm.2.2 _ _ h3
  have hi : (U.vm.classes.findIdx? fun (x : Class) => match x.kind with | .array component _ => component == comp | _ => false) = some c := by
    have e3 : U.vm.bare = u.vm.bare := by first | exact hvm.bare_eq | exact hvm.bare_eq.symm
    refine Eq.trans (va_idx_bare U.vm comp).symm ?_
    rw [e3]
    exact (va_idx_bare u.vm comp).trans h2
  have hkind : k'.kind = .array comp (.array .int) := by rw [he]; exact h4
  have f1 : U.vm.findClass (FieldType.array .int).toString = some comp := by rw [hvm.findClass]; exact h1
  have f2 : U.vm.findClass ("[" ++ (FieldType.array .int).toString) = some c := by rw [hvm.findClass]; exact h5
  unfold xAO Cond.before Cond.holds
  simp only [Cond.value]
  rw [f1, Option.bind_some]
  refine (congrArg (fun o : Option Nat => (o.bind (fun c => (U.vm.classes[c]?).map fun (k : Class) => match k.kind with | .array _ ty => decide (ty = FieldType.array .int) && decide (U.vm.findClass ("[" ++ (FieldType.array .int).toString) = some c) | _ => false) == some true)) hi).trans ?_
  simp [hk', hkind, f2]
/-- the tables' words, and the arrays that can be made -/
def wKo (w : wD) (U : State) : Prop := wK w U ∧ va_AO RX4 U ∧ va_AO RX2 U ∧ va_AO RX1 U ∧ xAO U
theorem wKo.warm {w : wD} {s U : State} (h : wKo w s) (hW : s.WarmedH U.vm) : wKo w U := ⟨h.1.warm hW, h.2.1.moved hW.alike, h.2.2.1.moved hW.alike, h.2.2.2.1.moved hW.alike, h.2.2.2.2.moved hW.alike⟩
theorem wKo.calling {w : wD} {s : State} {g : JFrame} {mk : MethodId} {a : Array Value} (h : wKo w s) : wKo w (s.calling g mk a) := ⟨h.1.calling, h.2.1.moved (Vm.Alike.refl s.vm), h.2.2.1.moved (Vm.Alike.refl s.vm), h.2.2.2.1.moved (Vm.Alike.refl s.vm), h.2.2.2.2.moved (Vm.Alike.refl s.vm)⟩
/-- the cells from b on are ys, and there are no more -/
def cI (w : wD) (b : Nat) (ys : List va_E) (H : Heap) : Prop := H.size = b + ys.length ∧ ∀ (i : Nat) (e : va_E), ys[i]? = some e → va_at w.2.1 vwCl (b + i, e) H
theorem cI.set {w : wD} {b i : Nat} {ys : List va_E} {e : va_E} {H H1 : Heap} (hI : cI w b ys H) (h1 : va_at w.2.1 vwCl (b + i, e) H1) (hz : H1.size = H.size) (hq : ∀ q, q ≠ b + i → H1[q]? = H[q]?) : cI w b (ys.set i e) H1 := by
  refine ⟨by rw [hz, hI.1, List.length_set], fun j e1 hj => ?_⟩
  by_cases hij : i = j
  · subst hij
    by_cases hl : i < ys.length
    · rw [List.getElem?_set_self hl] at hj
      cases hj
      exact h1
    · rw [List.getElem?_eq_none (by rw [List.length_set]; omega)] at hj
      cases hj
  · rw [List.getElem?_set_ne hij] at hj
    exact (hI.2 j e1 hj).kept (hq _ (by show b + j ≠ b + i; omega))
theorem cI.push {w : wD} {b : Nat} {ys : List va_E} {e : va_E} {H H1 : Heap} (hI : cI w b ys H) (h1 : va_at w.2.1 vwCl (b + ys.length, e) H1) (hz : H1.size = H.size + 1) (hq : ∀ q, q < H.size → H1[q]? = H[q]?) : cI w b (ys ++ [e]) H1 := by
  refine ⟨by rw [hz, hI.1, List.length_append]; rfl, fun j e1 hj => ?_⟩
  by_cases hl : j < ys.length
  · rw [List.getElem?_append_left hl] at hj
    exact (hI.2 j e1 hj).kept (hq _ (by rw [hI.1]; show b + j < _; omega))
  · rw [List.getElem?_append_right (by omega)] at hj
    have h0 : j - ys.length < 1 := (List.getElem?_eq_some_iff.mp hj).1
    have h2 : j = ys.length := by omega
    subst h2
    rw [Nat.sub_self] at hj
    cases hj
    exact h1
/-- some cells more at the end -/
theorem cI.app {w : wD} {b : Nat} {ys zs : List va_E} {H H1 : Heap} (hI : cI w b ys H) (h1 : cI w (b + ys.length) zs H1) (hq : ∀ q, q < H.size → H1[q]? = H[q]?) : cI w b (ys ++ zs) H1 := by
  refine ⟨by rw [h1.1, List.length_append]; omega, fun j e1 hj => ?_⟩
  by_cases hl : j < ys.length
  · rw [List.getElem?_append_left hl] at hj
    exact (hI.2 j e1 hj).kept (hq _ (by rw [hI.1]; show b + j < _; omega))
  · rw [List.getElem?_append_right (by omega)] at hj
    have h2 := h1.2 _ e1 hj
    rw [show b + ys.length + (j - ys.length) = b + j by omega] at h2
    exact h2
/-- cells that a callee changed, from some cell on -/
theorem cI.tail {w : wD} {b : Nat} {ys : List va_E} {e : va_E} {zs : List va_E} {H H1 : Heap} (hI : cI w b (ys ++ [e]) H) (h1 : cI w (b + ys.length) zs H1) (hq : ∀ q, q < b + ys.length → H1[q]? = H[q]?) : cI w b (ys ++ zs) H1 := by
  refine ⟨by rw [h1.1, List.length_append]; omega, fun j e1 hj => ?_⟩
  by_cases hl : j < ys.length
  · rw [List.getElem?_append_left hl] at hj
    have h3 := hI.2 j e1 (by rw [List.getElem?_append_left hl]; exact hj)
    exact h3.kept (hq _ (by show b + j < _; omega))
  · rw [List.getElem?_append_right (by omega)] at hj
    have h2 := h1.2 _ e1 hj
    rw [show b + ys.length + (j - ys.length) = b + j by omega] at h2
    exact h2
/-- a frame of a constructor, or of the law -/
def Cg (w : wD) (x : wX) (cc : ByteArray) (nL : Nat) (own : String) (fr lo : Nat) : Prop := match x with
  | (p, _, R, s, m, args, _, meth, c, kc, ks) => p.tables.exec = Jvm.exec ∧ c.code = cc ∧ c.maxLocals = nL ∧ s.vm.findClass own = some m.cls ∧ (∀ q ∈ wsU, q.before args s = true) ∧ wKo w s ∧ meth.locks = false ∧ fr ≤ R.frames ∧ lo ≤ R.locals ∧ kc ≤ R.cells ∧ ks ≤ R.slots
def Cm (x : wX) (mc ms : Nat) : Prop := match x with
  | (_, _, R, _, _, _, _, _, _, _, _) => mc ≤ R.cells ∧ ms ≤ R.slots
def Ca (x : wX) (Cc : String) : Prop := match x with
  | (_, _, _, s, _, _, _, _, _, _, _) => va_AO Cc s
def Cn (x : wX) : Prop := match x with
  | (_, _, _, _, _, _, _, meth, _, _, _) => meth.name = "<init>"
def N (w : wD) (b : Nat) (x : wX) (nL : Nat) (Q : State → Prop) (pc : Nat) (L : List (Nat × Value)) (S : List Value) (ys : List va_E) (nc ns : Nat) : Prop := match x with
  | (p, e, R, s, m, args, below, meth, c, _, _) => ∀ (H : Heap) (locs : List Loc) (ls : Array Slot), cI w b ys H → va_S (fun q => b ≤ q) s.heap H locs → lv_has ls nL L → W p w.1 e R s m args below meth c H locs nc ns Q (F0 m pc ls S)
def QN (w : wD) (b : Nat) (x : wX) (mc ms : Nat) (zs : List va_E) : State → Prop := match x with
  | (_, _, _, s, _, args, below, _, _, _, _) => MQ below (va_Qv (fun _ : Unit => True) (fun _ t => cI w b zs t.heap) (fun q => b ≤ q)) args s mc ms (fun q => b ≤ q)
/-- the contract of a constructor of the object at b, with nothing behind it: the cells become zs; mc cells of ms slots are new -/
def MC (w : wD) (b : Nat) (y : MethodName) (cc : ByteArray) (nL fr lo mc ms : Nat) (e0 : va_E) (zs : List va_E) : Prop :=
  Met w.1 y (.code y cc nL none :: wsU) { frames := fr, cells := mc, slots := ms, locals := lo } (va_Pc [.ref b] (fun U => cI w b [e0] U.heap ∧ wKo w U)) (va_Qv (fun _ : Unit => True) (fun _ t => cI w b zs t.heap) (fun q => b ≤ q)) mc ms (fun q => b ≤ q)
theorem MC.of {w : wD} {b : Nat} {y : MethodName} {cc : ByteArray} {nL fr lo mc ms : Nat} {e0 : va_E} {zs : List va_E} (hy : plainName y.cls = true) (hn : 1 ≤ nL) (hi : y.name = "<init>") (k : ∀ x : wX, Cg w x cc nL y.cls fr lo → Cn x → Rt x none → Cm x mc ms → N w b x nL (QN w b x mc ms zs) 0 [(0, .ref b)] [] [e0] 0 0) : MC w b y cc nL fr lo mc ms e0 zs := by
  refine Met.ofW (cc := cc) (maxL := nL) (ret := none) hy rfl ?_
  intro p e s m args below meth c s₁ B hml hv
  obtain ⟨rfl, hI, hK⟩ := hv
  have hts := atoms_spec (ws := .code y cc nL none :: wsU) B.pre
  have hin : meth.name = y.name := (name_of_methodNamed B.named B.method).1
  have h := k (p, e, (headSpec (.code y cc nL none :: wsU) { frames := fr, cells := mc, slots := ms, locals := lo }).room, s, m, [Value.ref b].toArray, below, meth, c, mc, ms) ⟨B.exec, B.bytes, hml, findClass_of_methodNamed B.named, fun q hq => hts q (List.mem_cons_of_mem _ hq), hK, B.notSynchronized, Nat.le_refl _, Nat.le_refl _, Nat.le_refl _, Nat.le_refl _⟩ (hin.trans hi) B.returns ⟨Nat.le_refl _, Nat.le_refl _⟩
  rw [lg_entry_eq]
  exact h s.heap [] _ hI va_S.rf (lv_entry [.ref b] hn)
section NROWS
variable {w : wD} {b : Nat} {x : wX} {cc : ByteArray} {nL : Nat} {own : String} {fr lo : Nat} {Q : State → Prop} {pc : Nat} {L : List (Nat × Value)} {S : List Value} {ys : List va_E} {nc ns : Nat}
theorem N.iconst (C : Cg w x cc nL own fr lo) {n : Int} {v : Int32} (hdg : decode cc pc = .ok (.iconst n, 1)) (hv : Int32.ofInt n = v) (kk : N w b x nL Q (pc + 1) L (.int v :: S) ys nc ns) : N w b x nL Q pc L (S) ys nc ns := by
  obtain ⟨p, e, R, s, m, args, below, meth, c, kc, ks⟩ := x
  obtain ⟨hx, hb, -⟩ := C
  intro H locs ls hI hS hl
  exact lv_iconst hx hb hdg hv (kk H locs ls hI hS hl)
theorem N.bipush (C : Cg w x cc nL own fr lo) {n : Int} {v : Int32} (hdg : decode cc pc = .ok (.bipush n, 2)) (hv : (Int8.ofInt n).toInt32 = v) (kk : N w b x nL Q (pc + 2) L (.int v :: S) ys nc ns) : N w b x nL Q pc L (S) ys nc ns := by
  obtain ⟨p, e, R, s, m, args, below, meth, c, kc, ks⟩ := x
  obtain ⟨hx, hb, -⟩ := C
  intro H locs ls hI hS hl
  exact lv_bipush hx hb hdg hv (kk H locs ls hI hS hl)
theorem N.sipush (C : Cg w x cc nL own fr lo) {n : Int} {v : Int32} (hdg : decode cc pc = .ok (.sipush n, 3)) (hv : (Int16.ofInt n).toInt32 = v) (kk : N w b x nL Q (pc + 3) L (.int v :: S) ys nc ns) : N w b x nL Q pc L (S) ys nc ns := by
  obtain ⟨p, e, R, s, m, args, below, meth, c, kc, ks⟩ := x
  obtain ⟨hx, hb, -⟩ := C
  intro H locs ls hI hS hl
  exact lv_sipush hx hb hdg hv (kk H locs ls hI hS hl)
theorem N.lconst (C : Cg w x cc nL own fr lo) {n : Fin 2} {v : Int64} (hdg : decode cc pc = .ok (.lconst n, 1)) (hv : Int64.ofNat (n : Nat) = v) (kk : N w b x nL Q (pc + 1) L (.long v :: S) ys nc ns) : N w b x nL Q pc L (S) ys nc ns := by
  obtain ⟨p, e, R, s, m, args, below, meth, c, kc, ks⟩ := x
  obtain ⟨hx, hb, -⟩ := C
  intro H locs ls hI hS hl
  exact lv_lconst hx hb hdg hv (kk H locs ls hI hS hl)
theorem N.iload_n (C : Cg w x cc nL own fr lo) (q : Nat) {k : Fin 4} {i : Nat} {v : Int32} (hdg : decode cc pc = .ok (.iload_n k, 1)) (hi : (k : Nat) = i) (hq : L[q]? = some (i, .int v)) (kk : N w b x nL Q (pc + 1) L (.int v :: S) ys nc ns) : N w b x nL Q pc L (S) ys nc ns := by
  obtain ⟨p, e, R, s, m, args, below, meth, c, kc, ks⟩ := x
  obtain ⟨hx, hb, -⟩ := C
  intro H locs ls hI hS hl
  exact lv_iload_n hx hb hdg hi (lv_at hl q hq) (kk H locs ls hI hS hl)
theorem N.aload_n (C : Cg w x cc nL own fr lo) (q : Nat) {k : Fin 4} {i v : Nat} (hdg : decode cc pc = .ok (.aload_n k, 1)) (hi : (k : Nat) = i) (hq : L[q]? = some (i, .ref v)) (kk : N w b x nL Q (pc + 1) L (.ref v :: S) ys nc ns) : N w b x nL Q pc L (S) ys nc ns := by
  obtain ⟨p, e, R, s, m, args, below, meth, c, kc, ks⟩ := x
  obtain ⟨hx, hb, -⟩ := C
  intro H locs ls hI hS hl
  exact lv_aload_n hx hb hdg hi (lv_at hl q hq) (kk H locs ls hI hS hl)
theorem N.dup (C : Cg w x cc nL own fr lo) {va : Value} (hdg : decode cc pc = .ok (.dup, 1)) (hva : va.category = 1) (kk : N w b x nL Q (pc + 1) L (va :: va :: S) ys nc ns) : N w b x nL Q pc L (va :: S) ys nc ns := by
  obtain ⟨p, e, R, s, m, args, below, meth, c, kc, ks⟩ := x
  obtain ⟨hx, hb, -⟩ := C
  intro H locs ls hI hS hl
  exact lv_dup hx hb hdg hva (kk H locs ls hI hS hl)
theorem N.goto (C : Cg w x cc nL own fr lo) {off : Int} {tgt : Nat} (hdg : decode cc pc = .ok (.goto off, 3)) (ht : (pc : Int) + off = (tgt : Int)) (kk : N w b x nL Q tgt L (S) ys nc ns) : N w b x nL Q pc L (S) ys nc ns := by
  obtain ⟨p, e, R, s, m, args, below, meth, c, kc, ks⟩ := x
  obtain ⟨hx, hb, -⟩ := C
  intro H locs ls hI hS hl
  exact lv_goto hx hb hdg ht (kk H locs ls hI hS hl)
theorem N.icmp_ge (C : Cg w x cc nL own fr lo) {u v : Int32} {off : Int} {tgt : Nat} (hdg : decode cc pc = .ok (.if_icmp .ge off, 3)) (ht : (pc : Int) + off = (tgt : Int)) (kt : v ≤ u → N w b x nL Q tgt L S ys nc ns) (kf : ¬ (v ≤ u) → N w b x nL Q (pc + 3) L S ys nc ns) : N w b x nL Q pc L (.int v :: .int u :: S) ys nc ns := by
  obtain ⟨p, e, R, s, m, args, below, meth, c, kc, ks⟩ := x
  obtain ⟨hx, hb, -⟩ := C
  intro H locs ls hI hS hl
  exact lv_icmp_ge hx hb hdg ht (fun h => kt h H locs ls hI hS hl) (fun h => kf (h) H locs ls hI hS hl)
theorem N.istore_n (C : Cg w x cc nL own fr lo) {L1 : List (Nat × Value)} {k : Fin 4} {i : Nat} {v : Int32} (hdg : decode cc pc = .ok (.istore_n k, 1)) (hi : (k : Nat) = i) (hn : i < nL) (hL : (i, Value.int v) :: L.filter (fun q => !(q.1 == i) && !(q.1 + 1 == i && q.2.category == 2)) = L1) (kk : N w b x nL Q (pc + 1) L1 S ys nc ns) : N w b x nL Q pc L (.int v :: S) ys nc ns := by
  obtain ⟨p, e, R, s, m, args, below, meth, c, kc, ks⟩ := x
  obtain ⟨hx, hb, -⟩ := C
  intro H locs ls hI hS hl
  exact lv_istore_n hx hb hdg hi hl hn hL (fun ls2 hl2 => kk H locs ls2 hI hS hl2)
theorem N.iinc (C : Cg w x cc nL own fr lo) {L1 : List (Nat × Value)} (q : Nat) {i : Nat} {n : Int} {u v : Int32} (hdg : decode cc pc = .ok (.iinc i n, 3)) (hq : L[q]? = some (i, .int u)) (hv : u + Int32.ofInt n = v) (hn : i < nL) (hL : (i, Value.int v) :: L.filter (fun q => !(q.1 == i) && !(q.1 + 1 == i && q.2.category == 2)) = L1) (kk : N w b x nL Q (pc + 3) L1 S ys nc ns) : N w b x nL Q pc L S ys nc ns := by
  obtain ⟨p, e, R, s, m, args, below, meth, c, kc, ks⟩ := x
  obtain ⟨hx, hb, -⟩ := C
  intro H locs ls hI hS hl
  exact lv_iinc hx hb hdg hl hq hv hn hL (fun ls2 hl2 => kk H locs ls2 hI hS hl2)
theorem N.sub {L1 : List (Nat × Value)} (ks : List Nat) (hL : lv_pick L ks = L1) (kk : N w b x nL Q pc L1 S ys nc ns) : N w b x nL Q pc L S ys nc ns := by
  obtain ⟨p, e, R, s, m, args, below, meth, c, kc, kt⟩ := x
  intro H locs ls hI hS hl
  exact kk H locs ls hI hS (lv_sub hl ks hL)
theorem N.vret (C : Cg w x cc nL own fr lo) {mc ms : Nat} (hr : Rt x none) (hdg : decode cc pc = .ok (.return_, 1)) (h1 : nc ≤ mc) (h2 : ns ≤ ms) : N w b x nL (QN w b x mc ms ys) pc L [] ys nc ns := by
  obtain ⟨p, e, R, s, m, args, below, meth, c, kc, ks⟩ := x
  obtain ⟨hx, hb, -, -, -, -, hlocks, -⟩ := C
  intro H locs ls hI hS hl
  refine W.widen h1 h2 ?_
  exact W.vret hx hb hr (fun t ht hW => ⟨⟨(), rfl, trivial, show cI w b ys t.heap by rw [ht]; exact hI⟩, hS.F ht⟩) hS.2.2 hdg hlocks
theorem N.obj (C : Cg w x cc nL own fr lo) {idx a : Nat} (hdg : decode cc pc = .ok (.invokespecial idx, 3)) (hlink : Cond.methodLink own idx Lib.objectInit ∈ wsU) (hf : 1 ≤ fr) (hlo : 12 ≤ lo) (kk : N w b x nL Q (pc + 3) L [] ys nc ns) : N w b x nL Q pc L [.ref a] ys nc ns := by
  obtain ⟨p, e, R, s, m, args, below, meth, c, kc, ks⟩ := x
  obtain ⟨hx, hb, hml, hown, hts, hK, hlocks, hfr, hlr, hkc, hks⟩ := C
  intro H locs ls hI hS hl
  refine W.objInit hx hb hown (hts _ hlink) (hts _ ui_obj) (hts _ uc_obj) rfl (by rw [hml]; exact hl.1) rfl hdg (Nat.le_trans hf hfr) (Nat.le_trans (show 2 * (F0 m pc ls [.ref a]).monitorRoom + (([] : List Value).map fun v => v.category).sum + 12 ≤ 12 from Nat.le_of_ble_eq_true rfl) (Nat.le_trans hlo hlr)) ?_
  exact kk H locs ls hI hS hl
theorem xw_putF {p : Program} {l : Launch} {e : Env} {R : Room} {s : State} {m : MethodId} {args : Array Value} {below : List Frame} {meth : Method} {c : Code} {H : Heap} {locs : List Loc} {cells slots : Nat} {Q : State → Prop} {cc : ByteArray} {pc : Nat} {ls : Array Slot} {rest : List Value} {D : va_G} {cl : List vw_C} {a : Nat} {tys : List (ClassId × FieldType)} (hexec : p.tables.exec = Jvm.exec) (hb : c.code = cc) {own ref C : String} {T : u_T} {N ci index : Nat} (hin : ∀ w ∈ u_ws C T N, w.before args s = true) (ty0 : Nat → FieldType) (hty : ∀ k, k < N → parseFieldDescriptor (T k).2.2.1 = some (ty0 k)) (hnm : ∀ a, a < N → ∀ b, b < N → a ≠ b → (T a).2.1 ≠ (T b).2.1) (hown : s.vm.findClass own = some m.cls) (hK : va_K D cl tys s) {fs : List Value} (hP : va_at D cl (a, .inr (ci, fs)) H) (hc : cl[ci]? = some (C, T, N)) (k : Nat) (hk : k < N) (hlink : (Cond.fieldLink own index ref (T k).2.1 (T k).2.2.1).before args s = true) (hsame : (T k).1 = ref) (hfin : (T k).2.2.2 = true) (hin2 : meth.name = "<init>") (hdecl : (T k).1 = own) {ty : FieldType} {v : Value} (hd : parseFieldDescriptor (T k).2.2.1 = some ty) (hn : narrow ty v = v) (hfit : fits ty v = true) (hl : k < fs.length)
    (hdg : decode cc pc = .ok (.putfield index, 3)) (kk : ∀ (H1 : Heap) (i : Nat), va_at D cl (a, .inr (ci, fs.set k v)) H1 → H1.size = H.size → (∀ q, q ≠ a → H1[q]? = H[q]?) → W p l e R s m args below meth c H1 (locs ++ [⟨a, i⟩]) cells slots Q (F0 m (pc + 3) ls rest)) : W p l e R s m args below meth c H locs cells slots Q (F0 m pc ls (v :: .ref a :: rest)) := by
  have hap := va_apart (own := own) (args := args) (Ts := u_ws C T N) hin (fun _ h => h) ty0 hty hnm hK hc
  obtain ⟨r, h1, cell, q1, q2, q3, q4⟩ := hP
  have hr : r = (C, T, N) := Option.some.inj (h1.symm.trans hc)
  subst hr
  obtain ⟨hS, hfc, kC, hkC, hkind⟩ := hK.1 ci _ hc
  obtain ⟨cf, kf, fi, f, hi, hsl⟩ := hS k hk
  have hlay := hin _ (u_in_lay hk)
  unfold u_lay at hlay
  rw [if_pos hfin] at hlay
  have hst := (u_facts hfc hkC (u_lays (ws := u_ws C T N) hin (fun _ h => h) hk) hi).1
  have hcf : m.cls = cf := by
    obtain ⟨_, _, c', _, _, _, -, -, hf', -, -, -, hown2, -⟩ := Cond.laysFinal_spec hlay
    have e1 : c' = cf := by have := hi.symm.trans hf'; simp at this; exact this.1.symm
    rw [hdecl] at hown2
    rw [← e1]; exact Option.some.inj (hown.symm.trans hown2)
  have h6 := u_fits hfc hkC hkind (Or.inr hlay) hi hd hn hfit
  have hi2 : s.fieldFound? ref (T k).2.1 (T k).2.2.1 = some (cf, kf, fi, f) := by rw [← hsame]; exact hi
  refine W.putFinK hexec hb hown hlink hi2 hst hcf hin2 (by rw [q2]; exact h6) q1 q3 (by rw [hsl]; exact k2_hasslot (q4 k hk)) rfl rfl hdg fun H' e1 e2 e3 => ?_
  rw [hsl] at e1 ⊢
  exact kk H' _ ⟨_, hc, t_OB.to (V := updV (vp_V fs) k v) ⟨_, e1, q2, q3, t_set q4 hap hk v⟩ (fun j _ => vp_updV_set hl v j)⟩ e2 e3
theorem N.put (C : Cg w x cc nL own fr lo) {i a ci index N0 : Nat} {Cc ref : String} {T : u_T} {fs : List Value} {v : Value} {ty : FieldType} {ys1 : List va_E} (k : Nat) (hdg : decode cc pc = .ok (.putfield index, 3)) (ha : a = b + i) (he : ys[i]? = some (.inr (ci, fs))) (hc : vwCl[ci]? = some (Cc, T, N0)) (hin : ∀ q ∈ u_ws Cc T N0, q ∈ wsU) (ty0 : Nat → FieldType) (hty : ∀ k, k < N0 → parseFieldDescriptor (T k).2.2.1 = some (ty0 k)) (hnm : ∀ a, a < N0 → ∀ b, b < N0 → a ≠ b → (T a).2.1 ≠ (T b).2.1) (hk : k < N0) (hlink : Cond.fieldLink own index ref (T k).2.1 (T k).2.2.1 ∈ wsU) (hsame : (T k).1 = ref) (hfin : (T k).2.2.2 = false) (hd : parseFieldDescriptor (T k).2.2.1 = some ty) (hnr : narrow ty v = v) (hfit : fits ty v = true) (hl : k < fs.length) (hys : ys.set i (.inr (ci, fs.set k v)) = ys1) (kk : N w b x nL Q (pc + 3) L S ys1 nc ns) : N w b x nL Q pc L (v :: .ref a :: S) ys nc ns := by
  obtain ⟨p, e, R, s, m, args, below, meth, c, kc, ks⟩ := x
  obtain ⟨hx, hb, -, hown, hts, hK, -⟩ := C
  subst ha
  subst hys
  intro H locs ls hI hS hl2
  refine xw_put hx hb (fun q hq => hts q (hin q hq)) ty0 hty hnm hown hK.1.1 (hI.2 i _ he) hc k hk none (hts _ hlink) hsame hfin hd hnr hfit hl hdg (fun H1 j h1 z oq => ?_)
  exact kk H1 _ ls (hI.set h1 z oq) (hS.put z oq (Nat.le_add_right b i)) hl2
theorem N.putF (C : Cg w x cc nL own fr lo) (Cx : Cn x) {i a ci index N0 : Nat} {Cc ref : String} {T : u_T} {fs : List Value} {v : Value} {ty : FieldType} {ys1 : List va_E} (k : Nat) (hdg : decode cc pc = .ok (.putfield index, 3)) (ha : a = b + i) (he : ys[i]? = some (.inr (ci, fs))) (hc : vwCl[ci]? = some (Cc, T, N0)) (hin : ∀ q ∈ u_ws Cc T N0, q ∈ wsU) (ty0 : Nat → FieldType) (hty : ∀ k, k < N0 → parseFieldDescriptor (T k).2.2.1 = some (ty0 k)) (hnm : ∀ a, a < N0 → ∀ b, b < N0 → a ≠ b → (T a).2.1 ≠ (T b).2.1) (hk : k < N0) (hlink : Cond.fieldLink own index ref (T k).2.1 (T k).2.2.1 ∈ wsU) (hsame : (T k).1 = ref) (hfin : (T k).2.2.2 = true) (hdecl : (T k).1 = own) (hd : parseFieldDescriptor (T k).2.2.1 = some ty) (hnr : narrow ty v = v) (hfit : fits ty v = true) (hl : k < fs.length) (hys : ys.set i (.inr (ci, fs.set k v)) = ys1) (kk : N w b x nL Q (pc + 3) L S ys1 nc ns) : N w b x nL Q pc L (v :: .ref a :: S) ys nc ns := by
  obtain ⟨p, e, R, s, m, args, below, meth, c, kc, ks⟩ := x
  obtain ⟨hx, hb, -, hown, hts, hK, -⟩ := C
  subst ha
  subst hys
  intro H locs ls hI hS hl2
  refine xw_putF hx hb (fun q hq => hts q (hin q hq)) ty0 hty hnm hown hK.1.1 (hI.2 i _ he) hc k hk (hts _ hlink) hsame hfin Cx hdecl hd hnr hfit hl hdg (fun H1 j h1 z oq => ?_)
  exact kk H1 _ ls (hI.set h1 z oq) (hS.put z oq (Nat.le_add_right b i)) hl2
theorem N.get (C : Cg w x cc nL own fr lo) {i a ci index N0 : Nat} {Cc ref : String} {T : u_T} {fs : List Value} {v : Value} (k : Nat) (hdg : decode cc pc = .ok (.getfield index, 3)) (ha : a = b + i) (he : ys[i]? = some (.inr (ci, fs))) (hc : vwCl[ci]? = some (Cc, T, N0)) (hin : ∀ q ∈ u_ws Cc T N0, q ∈ wsU) (hk : k < N0) (hlink : Cond.fieldLink own index ref (T k).2.1 (T k).2.2.1 ∈ wsU) (hsame : (T k).1 = ref) (hv : fs[k]? = some v) (kk : N w b x nL Q (pc + 3) L (v :: S) ys nc ns) : N w b x nL Q pc L (.ref a :: S) ys nc ns := by
  obtain ⟨p, e, R, s, m, args, below, meth, c, kc, ks⟩ := x
  obtain ⟨hx, hb, -, hown, hts, hK, -⟩ := C
  subst ha
  intro H locs ls hI hS hl
  exact xw_get hx hb (fun q hq => hts q (hin q hq)) hown hK.1.1 (hI.2 i _ he) hc k hk none (hts _ hlink) hsame hv hdg (kk H locs ls hI hS hl)
theorem N.iast (C : Cg w x cc nL own fr lo) {i a n : Nat} {f : Nat → Int32} {j v : Int32} {ys1 : List va_E} (hdg : decode cc pc = .ok (.iastore, 1)) (ha : a = b + i) (he : ys[i]? = some (.inl (w.2.2.1 0, n, .inl f))) (hj : vp_in j n) (hys : ys.set i (.inl (w.2.2.1 0, n, .inl (upd f j.toNatClampNeg v))) = ys1) (kk : N w b x nL Q (pc + 1) L S ys1 nc ns) : N w b x nL Q pc L (.int v :: .int j :: .ref a :: S) ys nc ns := by
  obtain ⟨p, e, R, s, m, args, below, meth, c, kc, ks⟩ := x
  obtain ⟨hx, hb, -, hown, hts, hK, -⟩ := C
  subst ha
  subst hys
  intro H locs ls hI hS hl
  refine xw_iast hx hb hK.1.1 0 (hI.2 i _ he) rfl hj hdg (fun H1 h1 z oq => ?_)
  exact kk H1 _ ls (hI.set h1 z oq) (hS.put z oq (Nat.le_add_right b i)) hl
theorem N.new (C : Cg w x cc nL own fr lo) {ci index N0 a : Nat} {Cc : String} {T : u_T} {fs : List Value} (hdg : decode cc pc = .ok (.new index, 3)) (hin : ∀ q ∈ u_ws Cc T N0, q ∈ wsU) (ty0 : Nat → FieldType) (hty : ∀ k, k < N0 → parseFieldDescriptor (T k).2.2.1 = some (ty0 k)) (hcl : Cond.classLink own index Cc ∈ wsU) (hinst : Cond.instantiable Cc N0 ∈ wsU) (hini : Cond.initialized Cc ∈ wsU) (hc : vwCl[ci]? = some (Cc, T, N0)) (hfs : ∀ j, j < N0 → defaultValue (ty0 j) = vp_V fs j) (ha : b + ys.length = a) {mc ms : Nat} (hm : Cm x mc ms) (h1 : nc + 1 ≤ mc) (h2 : ns + N0 ≤ ms) (kk : N w b x nL Q (pc + 3) L (.ref a :: S) (ys ++ [.inr (ci, fs)]) (nc + 1) (ns + N0)) : N w b x nL Q pc L S ys nc ns := by
  obtain ⟨p, e, R, s, m, args, below, meth, c, kc, ks⟩ := x
  obtain ⟨hx, hb, -, hown, hts, hK, -⟩ := C
  intro H locs ls hI hS hl
  have hKn := hK.1.1.1 ci _ hc
  refine W.newcK hx hb hown (hts _ hcl) (hts _ hinst) (hts _ hini) rfl hdg (Nat.le_trans h1 hm.1) (Nat.le_trans h2 hm.2) hKn.2.1 rfl fun H1 kC hkC e1 z1 o1 => ?_
  have ea : H.size = a := by rw [hI.1, ha]
  have hat : va_at w.2.1 vwCl (b + ys.length, .inr (ci, fs)) H1 := by
    rw [← hI.1]
    exact ⟨_, hc, (u_born (ws := u_ws Cc T N0) ty0 (fun q hq => hts q (hin q hq)) (fun _ h => h) hKn hkC e1 hty).to hfs⟩
  have hk := kk H1 locs ls (hI.push hat z1 o1) ⟨Nat.le_trans hS.1 (by omega), fun q h3 h4 => (o1 q (Nat.lt_of_lt_of_le h3 hS.1)).trans (hS.2.1 q h3 h4), hS.2.2⟩ hl
  rw [← ea] at hk
  exact hk
theorem N.newa (C : Cg w x cc nL own fr lo) {n : Int32} {n1 a : Nat} (hdg : decode cc pc = .ok (.newarray .int, 2)) (hn : ¬ n < 0) (hN : n.toNatClampNeg = n1) (hb4 : n1 * 4 ≤ 536870912) (ha : b + ys.length = a) {mc ms : Nat} (hm : Cm x mc ms) (h1 : nc + 1 ≤ mc) (h2 : ns + n1 ≤ ms) (kk : N w b x nL Q (pc + 2) L (.ref a :: S) (ys ++ [.inl (w.2.2.1 0, n1, .inl (fun _ => 0))]) (nc + 1) (ns + n1)) : N w b x nL Q pc L (.int n :: S) ys nc ns := by
  obtain ⟨p, e, R, s, m, args, below, meth, c, kc, ks⟩ := x
  obtain ⟨hx, hb, -, hown, hts, hK, -⟩ := C
  intro H locs ls hI hS hl
  have hA := (hK.1.1.2 0 _ rfl).2
  have hA0 : s.vm.findClass ("[" ++ (FieldType.int).toString) = some (w.2.2.1 0) := hA
  refine va_newaK (atype := .int) hx hb (hts _ ua_int) rfl hdg rfl hn hN hb4 (Nat.le_trans h1 hm.1) (Nat.le_trans h2 hm.2) rfl fun H1 cA e1 z1 o1 _ hNm => ?_
  have ec : some cA = some (w.2.2.1 0) := hNm.symm.trans hA0
  cases ec
  have ea : H.size = a := by rw [hI.1, ha]
  have hat : va_at w.2.1 vwCl (b + ys.length, .inl (w.2.2.1 0, n1, .inl (fun _ => 0))) H1 := by
    rw [← hI.1]
    show H1[H.size]? = some (vp_cell _ _)
    rw [vp_cell_i]
    exact e1
  have hk := kk H1 locs ls (hI.push hat z1 o1) ⟨Nat.le_trans hS.1 (by omega), fun q h3 h4 => (o1 q (Nat.lt_of_lt_of_le h3 hS.1)).trans (hS.2.1 q h3 h4), hS.2.2⟩ hl
  rw [← ea] at hk
  exact hk
theorem N.newq (C : Cg w x cc nL own fr lo) {n : Int32} {n1 a index t0 : Nat} {Cc : String} (hdg : decode cc pc = .ok (.anewarray index, 3)) (hcl : Cond.classLink own index Cc ∈ wsU) (hao : Ca x Cc) {cA0 : ClassId} (ht : (wTys w)[t0]? = some (cA0, .object Cc)) (hn : ¬ n < 0) (hN : n.toNatClampNeg = n1) (hb4 : n1 * 4 ≤ 536870912) (ha : b + ys.length = a) {mc ms : Nat} (hm : Cm x mc ms) (h1 : nc + 1 ≤ mc) (h2 : ns + n1 ≤ ms) (kk : N w b x nL Q (pc + 3) L (.ref a :: S) (ys ++ [.inl (cA0, n1, .inr (.inr (.inr (.inr (fun _ => none)))))]) (nc + 1) (ns + n1)) : N w b x nL Q pc L (.int n :: S) ys nc ns := by
  obtain ⟨p, e, R, s, m, args, below, meth, c, kc, ks⟩ := x
  obtain ⟨hx, hb, -, hown, hts, hK, -⟩ := C
  subst hN
  intro H locs ls hI hS hl
  obtain ⟨kA, comp, g1, g2, g3, hA0⟩ := (hK.1.1.2 t0 _ ht).2
  refine W.anew hx hb hown (hts _ hcl) (va_AO.use hao) rfl hdg rfl hn hb4 (Nat.le_trans h1 hm.1) (Nat.le_trans h2 hm.2) fun cA kA' comp' f1 f2 f3 f4 => ?_
  generalize hH1 : H.push ({ cls := cA, slots := Array.replicate n.toNatClampNeg .null, vm := .none } : Cell) = H1
  have z1 : H1.size = H.size + 1 := by rw [← hH1, Array.size_push]
  have e1 : H1[H.size]? = some (arrV cA n.toNatClampNeg (fun _ => .null)) := by rw [← hH1, Array.getElem?_push_size, ← arrV_new]
  have o1 : ∀ q : Nat, q < H.size → H1[q]? = H[q]? := fun q hq => by rw [← hH1, Array.getElem?_push, if_neg (Nat.ne_of_lt hq)]
  have ec : some cA = some cA0 := f1.symm.trans hA0
  cases ec
  have ea : H.size = a := by rw [hI.1, ha]
  have hat : va_at w.2.1 vwCl (b + ys.length, .inl (cA0, n.toNatClampNeg, .inr (.inr (.inr (.inr (fun _ => none)))))) H1 := by
    rw [← hI.1]
    show H1[H.size]? = some (vp_cell _ _)
    rw [vp_cell_q]
    exact e1
  have hk := kk H1 locs ls (hI.push hat z1 o1) ⟨Nat.le_trans hS.1 (by omega), fun q h3 h4 => (o1 q (Nat.lt_of_lt_of_le h3 hS.1)).trans (hS.2.1 q h3 h4), hS.2.2⟩ hl
  rw [← ea] at hk
  exact hk
theorem N.astq (C : Cg w x cc nL own fr lo) {i a i2 v n ci t0 : Nat} {r : vw_C} {vs : List Value} {f : Nat → Option Nat} {cA0 : ClassId} {j : Int32} {ys1 : List va_E} (hdg : decode cc pc = .ok (.aastore, 1)) (ha : a = b + i) (he : ys[i]? = some (.inl (cA0, n, .inr (.inr (.inr (.inr f)))))) (ht : (wTys w)[t0]? = some (cA0, .object r.1)) (hv : v = b + i2) (hv2 : ys[i2]? = some (.inr (ci, vs))) (hc : vwCl[ci]? = some r) (hj : vp_in j n) (hys : ys.set i (.inl (cA0, n, .inr (.inr (.inr (.inr (va_up f j.toNatClampNeg (some v))))))) = ys1) (kk : N w b x nL Q (pc + 1) L S ys1 nc ns) : N w b x nL Q pc L (.ref v :: .int j :: .ref a :: S) ys nc ns := by
  obtain ⟨p, e, R, s, m, args, below, meth, c, kc, ks⟩ := x
  obtain ⟨hx, hb, -, hown, hts, hK, -⟩ := C
  subst ha
  subst hys
  intro H locs ls hI hS hl
  have hK := hK.1.1
  have hlt : j.toNatClampNeg < n := Nat.not_le.mp fun q => hj (Or.inr q)
  have h0 : ¬ j < 0 := fun q => hj (Or.inl q)
  have hcell := hI.2 i2 _ hv2
  rw [← hv] at hcell
  obtain ⟨r', hr', cellV, g1, g2, g3, -⟩ := hcell
  have hcls := (hK.1 ci r hc).2
  obtain ⟨kA, comp, k1, k2, k3, -⟩ := (hK.2 t0 _ ht).2
  have hcomp : comp = w.2.1.1 ci := Option.some.inj (k3.symm.trans hcls.1)
  subst hcomp
  obtain ⟨kC, hkC, -⟩ := hcls.2
  refine W.aast hx hb (hI.2 i _ he) (fun q h => by cases h) (fun h => by cases h) k1 k2 rfl hkC ⟨h0, by show _ < (arrV _ _ _).slots.size; rw [arrV_size]; exact hlt⟩ g1 (fun q h => by rw [g3] at h; cases h) (by rw [g2]; exact hkC) (by rw [g2]; exact va_assign hcls) rfl rfl hdg fun H1 e1 z oq => ?_
  refine kk H1 _ ls (hI.set ?_ z oq) (hS.put z oq (Nat.le_add_right b i)) hl
  show H1[b + i]? = some (vp_cell _ _)
  rw [e1]
  rw [vp_cell_q, vp_cell_q, arrV_store]
  congr 2
  funext q
  by_cases hq : q = j.toNatClampNeg
  · subst hq
    simp [updV, va_up, va_rf]
  · simp [updV, va_up, hq]
theorem wMC_blind {w : wD} {b : Nat} {av : List Value} {ys : List va_E} : FrameBlind (va_Pc av (fun U => cI w b ys U.heap ∧ wKo w U)) := fun a U g mk q => ⟨q.1, q.2.1, q.2.2.calling⟩
/-- a call of the constructor of the object that was made last -/
theorem N.callI (C : Cg w x cc nL own fr lo) {y : MethodName} {cc2 : ByteArray} {nL2 fr2 lo2 mc ms index a : Nat} {e0 : va_E} {zs ys1 : List va_E} (host : Option String) (hM : MC w a y cc2 nL2 fr2 lo2 mc ms e0 zs) (hdg : decode cc pc = .ok (.invokespecial index, 3)) (hv : wIni y cc2 nL2) (hlink : wLinkM own index y host) (hys : ys = ys1 ++ [e0]) (ha : b + ys1.length = a) (hR : fr2 + 1 ≤ fr ∧ 8 + (nL2 + 11) + lo2 ≤ lo) (hcat : (S.map fun v => v.category).sum ≤ 8) {mc9 ms9 : Nat} (hm : Cm x mc9 ms9) (hm1 : nc + mc ≤ mc9) (hm2 : ns + ms ≤ ms9) (kk : N w b x nL Q (pc + 3) L S (ys1 ++ zs) (nc + mc) (ns + ms)) : N w b x nL Q pc L (.ref a :: S) ys nc ns := by
  obtain ⟨p, e, R, s, m, args, below, meth, c, kc, ks⟩ := x
  obtain ⟨hx, hb, hml, hown, hts, hK, -, hfr, hlo, -, -⟩ := C
  obtain ⟨h1, h2, h3, h4, h5⟩ := hv
  subst ha
  subst hys
  intro H locs ls hI hS hl
  have hz : H.size = b + ys1.length + 1 := by rw [hI.1, List.length_append]; rfl
  have hIc : cI w (b + ys1.length) [e0] H := by
    refine ⟨hz, fun j e1 hj => ?_⟩
    have hj0 : j < 1 := (List.getElem?_eq_some_iff.mp hj).1
    have hj1 : j = 0 := by omega
    subst hj1
    cases hj
    have := hI.2 ys1.length e0 (by rw [List.getElem?_append_right (Nat.le_refl _), Nat.sub_self]; rfl)
    exact this
  have hPre : ∀ U : State, U.heap = H → s.WarmedH U.vm → va_Pc [.ref (b + ys1.length)] (fun U => cI w (b + ys1.length) [e0] U.heap ∧ wKo w U) [Value.ref (b + ys1.length)].toArray U := fun U hU hW => ⟨rfl, by rw [hU]; exact hIc, hK.warm hW⟩
  have hRR : ({ frames := fr2, cells := mc, slots := ms, locals := lo2 } : Room).frames + 1 ≤ R.frames ∧ 8 + (nL2 + 11) + ({ frames := fr2, cells := mc, slots := ms, locals := lo2 } : Room).locals ≤ R.locals := ⟨Nat.le_trans hR.1 hfr, Nat.le_trans hR.2 hlo⟩
  have hmm : nc + mc ≤ R.cells ∧ ns + ms ≤ R.slots := ⟨Nat.le_trans hm1 hm.1, Nat.le_trans hm2 hm.2⟩
  have fin : va_Run p w.1 e R s m args below meth c H locs nc ns mc ms (F0 m pc ls (.ref (b + ys1.length) :: S)) S (va_Qv (fun _ : Unit => True) (fun _ t => cI w (b + ys1.length) zs t.heap) (fun q => b + ys1.length ≤ q) (Value.ref (b + ys1.length) :: []).toArray) (fun q => b + ys1.length ≤ q) := by
    cases host with
    | none => exact va_runI (As := []) (rest := S) ⟨hx, hb, hml, hown, hts⟩ hM (cwI 0 hts (wU_call h3) rfl rfl rfl (hts _ h2) (hts _ hlink) (hts _ h1) h4 h5 hRR) ⟨wMC_blind, hPre⟩ rfl rfl hl.1 rfl (lv_room hcat) hdg hmm
    | some k => exact va_runIN (As := []) (rest := S) ⟨hx, hb, hml, hown, hts⟩ hM ⟨va_cnB 0 hts (wU_call h3) rfl rfl rfl (hK.1.2.2 _ hlink) (hts _ h2) h5 hRR, h4, hts _ h1⟩ ⟨wMC_blind, hPre⟩ rfl rfl hl.1 rfl (lv_room hcat) hdg hmm
  exact va_callv fin hS (fun q _ h => Nat.le_trans (Nat.le_add_right b _) h) (fun q h => Nat.le_trans (Nat.le_add_right b _) h) (fun _ t H1 locs1 ht _ _ hB _ hk1 hS1 => kk H1 locs1 ls (hI.tail (by rw [← ht]; exact hB) (fun q hq => hk1 q (by rw [hz]; omega) (by omega))) hS1 hl)
end NROWS
