/-! PART 02.b: the walk over the world: one judgement G, a row an instruction -/
/-- what the tables say, in any state that stands behind the start -/
def wK (w : wD) (U : State) : Prop := va_K w.2.1 vwCl (wTys w) U ∧ (∀ q ∈ wNF, va_Nw (.fieldLinkNest q.1 q.2.1 q.2.2.1 q.2.2.2.1 q.2.2.2.2.1 q.2.2.2.2.2) U) ∧ ∀ q ∈ wNM, va_Nw (.methodLinkNest q.1 q.2.1 q.2.2.1 q.2.2.2) U
theorem wK.warm {w : wD} {s U : State} (h : wK w s) (hW : s.WarmedH U.vm) : wK w U := ⟨va_K.moved hW.alike h.1, fun q hq => va_Nw.warmF hW (h.2.1 q hq), fun q hq => va_Nw.warmM hW (h.2.2 q hq)⟩
theorem wK.calling {w : wD} {s : State} {g : JFrame} {mk : MethodId} {a : Array Value} (h : wK w s) : wK w (s.calling g mk a) := ⟨va_K.moved (u := s) (U := s.calling g mk a) (Vm.Alike.refl s.vm) h.1, fun q hq => va_Nw.same rfl (rfl : s.vm = (s.calling g mk a).vm) (h.2.1 q hq), fun q hq => va_Nw.same rfl (rfl : s.vm = (s.calling g mk a).vm) (h.2.2 q hq)⟩
/-- a frame of a method of the bytes cc, nL locals, the class own, room for fr frames below it and lo locals -/
def Cf (w : wD) (x : wX) (cc : ByteArray) (nL : Nat) (own : String) (fr lo : Nat) : Prop := match x with
  | (p, _, R, s, m, args, _, meth, c, kc, ks) => p.tables.exec = Jvm.exec ∧ c.code = cc ∧ c.maxLocals = nL ∧ s.vm.findClass own = some m.cls ∧ (∀ q ∈ wsU, q.before args s = true) ∧ wK w s ∧ meth.locks = false ∧ fr ≤ R.frames ∧ lo ≤ R.locals ∧ kc ≤ R.cells ∧ ks ≤ R.slots ∧ wOK w
def G (w : wD) (x : wX) (nL : Nat) (Q : State → Prop) (pc : Nat) (L : List (Nat × Value)) (S : List Value) (σ : wSt) : Prop := match x with
  | (p, e, R, s, m, args, below, meth, c, kc, ks) => ∀ (H : Heap) (locs : List Loc) (ls : Array Slot), wInv w σ H → va_S w.2.2.2.2 s.heap H locs → lv_has ls nL L → W p w.1 e R s m args below meth c H locs kc ks Q (F0 m pc ls S)
def Rt (x : wX) (ty : Option FieldType) : Prop := match x with
  | (_, _, _, _, _, _, _, meth, _, _, _) => meth.sig.returnType = ty
def QI (w : wD) (x : wX) (Post : Int32 → wSt → Prop) : State → Prop := match x with
  | (_, _, _, s, _, args, below, _, _, kc, ks) => MQ below (va_Qi Post (fun σ t => wInv w σ t.heap) w.2.2.2.2) args s kc ks w.2.2.2.2
def QL (w : wD) (x : wX) (Post : Int64 → wSt → Prop) : State → Prop := match x with
  | (_, _, _, s, _, args, below, _, _, kc, ks) => MQ below (va_Ql Post (fun σ t => wInv w σ t.heap) w.2.2.2.2) args s kc ks w.2.2.2.2
def QV (w : wD) (x : wX) (Post : wSt → Prop) : State → Prop := match x with
  | (_, _, _, s, _, args, below, _, _, kc, ks) => MQ below (va_Qv Post (fun σ t => wInv w σ t.heap) w.2.2.2.2) args s kc ks w.2.2.2.2
/-- the contracts: from the numbers σ, with the arguments av, the method returns, and Post holds of its answer and the numbers behind it -/
def MI (w : wD) (y : MethodName) (cc : ByteArray) (nL : Nat) (ret : Option FieldType) (fr lo : Nat) (av : List Value) (σ : wSt) (Post : Int32 → wSt → Prop) : Prop :=
  Met w.1 y (.code y cc nL ret :: wsU) { frames := fr, cells := 0, slots := 0, locals := lo } (va_Pc av (fun U => wInv w σ U.heap ∧ wK w U)) (va_Qi Post (fun σ t => wInv w σ t.heap) w.2.2.2.2) 0 0 w.2.2.2.2
def ML (w : wD) (y : MethodName) (cc : ByteArray) (nL : Nat) (ret : Option FieldType) (fr lo : Nat) (av : List Value) (σ : wSt) (Post : Int64 → wSt → Prop) : Prop :=
  Met w.1 y (.code y cc nL ret :: wsU) { frames := fr, cells := 0, slots := 0, locals := lo } (va_Pc av (fun U => wInv w σ U.heap ∧ wK w U)) (va_Ql Post (fun σ t => wInv w σ t.heap) w.2.2.2.2) 0 0 w.2.2.2.2
def MV (w : wD) (y : MethodName) (cc : ByteArray) (nL : Nat) (ret : Option FieldType) (fr lo : Nat) (av : List Value) (σ : wSt) (Post : wSt → Prop) : Prop :=
  Met w.1 y (.code y cc nL ret :: wsU) { frames := fr, cells := 0, slots := 0, locals := lo } (va_Pc av (fun U => wInv w σ U.heap ∧ wK w U)) (va_Qv Post (fun σ t => wInv w σ t.heap) w.2.2.2.2) 0 0 w.2.2.2.2
section MOF
variable {w : wD} {y : MethodName} {cc : ByteArray} {nL : Nat} {ret : Option FieldType} {fr lo : Nat} {av : List Value} {σ : wSt}
theorem MI.of {Post : Int32 → wSt → Prop} (hw : wOK w) (hy : plainName y.cls = true) (hn : (lg_sl av).length ≤ nL) (k : ∀ x : wX, Cf w x cc nL y.cls fr lo → Rt x ret → G w x nL (QI w x Post) 0 (lv_args 0 av) [] σ) : MI w y cc nL ret fr lo av σ Post := by
  refine Met.ofW (cc := cc) (maxL := nL) (ret := ret) hy rfl ?_
  intro p e s m args below meth c s₁ B hml hv
  obtain ⟨rfl, hI, hK⟩ := hv
  have hts := atoms_spec (ws := .code y cc nL ret :: wsU) B.pre
  have h := k (p, e, (headSpec (.code y cc nL ret :: wsU) { frames := fr, cells := 0, slots := 0, locals := lo }).room, s, m, av.toArray, below, meth, c, 0, 0) ⟨B.exec, B.bytes, hml, findClass_of_methodNamed B.named, fun q hq => hts q (List.mem_cons_of_mem _ hq), hK, B.notSynchronized, Nat.le_refl _, Nat.le_refl _, Nat.le_refl _, Nat.le_refl _, hw⟩ B.returns
  rw [lg_entry_eq]
  exact h s.heap [] _ hI va_S.rf (lv_entry av hn)
theorem ML.of {Post : Int64 → wSt → Prop} (hw : wOK w) (hy : plainName y.cls = true) (hn : (lg_sl av).length ≤ nL) (k : ∀ x : wX, Cf w x cc nL y.cls fr lo → Rt x ret → G w x nL (QL w x Post) 0 (lv_args 0 av) [] σ) : ML w y cc nL ret fr lo av σ Post := by
  refine Met.ofW (cc := cc) (maxL := nL) (ret := ret) hy rfl ?_
  intro p e s m args below meth c s₁ B hml hv
  obtain ⟨rfl, hI, hK⟩ := hv
  have hts := atoms_spec (ws := .code y cc nL ret :: wsU) B.pre
  have h := k (p, e, (headSpec (.code y cc nL ret :: wsU) { frames := fr, cells := 0, slots := 0, locals := lo }).room, s, m, av.toArray, below, meth, c, 0, 0) ⟨B.exec, B.bytes, hml, findClass_of_methodNamed B.named, fun q hq => hts q (List.mem_cons_of_mem _ hq), hK, B.notSynchronized, Nat.le_refl _, Nat.le_refl _, Nat.le_refl _, Nat.le_refl _, hw⟩ B.returns
  rw [lg_entry_eq]
  exact h s.heap [] _ hI va_S.rf (lv_entry av hn)
theorem MV.of {Post : wSt → Prop} (hw : wOK w) (hy : plainName y.cls = true) (hn : (lg_sl av).length ≤ nL) (k : ∀ x : wX, Cf w x cc nL y.cls fr lo → Rt x ret → G w x nL (QV w x Post) 0 (lv_args 0 av) [] σ) : MV w y cc nL ret fr lo av σ Post := by
  refine Met.ofW (cc := cc) (maxL := nL) (ret := ret) hy rfl ?_
  intro p e s m args below meth c s₁ B hml hv
  obtain ⟨rfl, hI, hK⟩ := hv
  have hts := atoms_spec (ws := .code y cc nL ret :: wsU) B.pre
  have h := k (p, e, (headSpec (.code y cc nL ret :: wsU) { frames := fr, cells := 0, slots := 0, locals := lo }).room, s, m, av.toArray, below, meth, c, 0, 0) ⟨B.exec, B.bytes, hml, findClass_of_methodNamed B.named, fun q hq => hts q (List.mem_cons_of_mem _ hq), hK, B.notSynchronized, Nat.le_refl _, Nat.le_refl _, Nat.le_refl _, Nat.le_refl _, hw⟩ B.returns
  rw [lg_entry_eq]
  exact h s.heap [] _ hI va_S.rf (lv_entry av hn)
end MOF
/-! the plain rows -/
section GROWS
variable {w : wD} {x : wX} {cc : ByteArray} {nL : Nat} {own : String} {fr lo : Nat} {Q : State → Prop} {pc : Nat} {L : List (Nat × Value)} {S : List Value} {σ : wSt}
theorem G.iconst (C : Cf w x cc nL own fr lo) {n : Int} {v : Int32} (hdg : decode cc pc = .ok (.iconst n, 1)) (hv : Int32.ofInt n = v) (kk : G w x nL Q (pc + 1) L (.int v :: S) σ) : G w x nL Q pc L (S) σ := by
  obtain ⟨p, e, R, s, m, args, below, meth, c, kc, ks⟩ := x
  obtain ⟨hx, hb, -⟩ := C
  intro H locs ls hI hS hl
  exact lv_iconst hx hb hdg hv (kk H locs ls hI hS hl)
theorem G.bipush (C : Cf w x cc nL own fr lo) {n : Int} {v : Int32} (hdg : decode cc pc = .ok (.bipush n, 2)) (hv : (Int8.ofInt n).toInt32 = v) (kk : G w x nL Q (pc + 2) L (.int v :: S) σ) : G w x nL Q pc L (S) σ := by
  obtain ⟨p, e, R, s, m, args, below, meth, c, kc, ks⟩ := x
  obtain ⟨hx, hb, -⟩ := C
  intro H locs ls hI hS hl
  exact lv_bipush hx hb hdg hv (kk H locs ls hI hS hl)
theorem G.sipush (C : Cf w x cc nL own fr lo) {n : Int} {v : Int32} (hdg : decode cc pc = .ok (.sipush n, 3)) (hv : (Int16.ofInt n).toInt32 = v) (kk : G w x nL Q (pc + 3) L (.int v :: S) σ) : G w x nL Q pc L (S) σ := by
  obtain ⟨p, e, R, s, m, args, below, meth, c, kc, ks⟩ := x
  obtain ⟨hx, hb, -⟩ := C
  intro H locs ls hI hS hl
  exact lv_sipush hx hb hdg hv (kk H locs ls hI hS hl)
theorem G.lconst (C : Cf w x cc nL own fr lo) {n : Fin 2} {v : Int64} (hdg : decode cc pc = .ok (.lconst n, 1)) (hv : Int64.ofNat (n : Nat) = v) (kk : G w x nL Q (pc + 1) L (.long v :: S) σ) : G w x nL Q pc L (S) σ := by
  obtain ⟨p, e, R, s, m, args, below, meth, c, kc, ks⟩ := x
  obtain ⟨hx, hb, -⟩ := C
  intro H locs ls hI hS hl
  exact lv_lconst hx hb hdg hv (kk H locs ls hI hS hl)
theorem G.iload_n (C : Cf w x cc nL own fr lo) (q : Nat) {k : Fin 4} {i : Nat} {v : Int32} (hdg : decode cc pc = .ok (.iload_n k, 1)) (hi : (k : Nat) = i) (hq : L[q]? = some (i, .int v)) (kk : G w x nL Q (pc + 1) L (.int v :: S) σ) : G w x nL Q pc L (S) σ := by
  obtain ⟨p, e, R, s, m, args, below, meth, c, kc, ks⟩ := x
  obtain ⟨hx, hb, -⟩ := C
  intro H locs ls hI hS hl
  exact lv_iload_n hx hb hdg hi (lv_at hl q hq) (kk H locs ls hI hS hl)
theorem G.iload (C : Cf w x cc nL own fr lo) (q : Nat) {i : Nat} {v : Int32} (hdg : decode cc pc = .ok (.iload i, 2)) (hq : L[q]? = some (i, .int v)) (kk : G w x nL Q (pc + 2) L (.int v :: S) σ) : G w x nL Q pc L (S) σ := by
  obtain ⟨p, e, R, s, m, args, below, meth, c, kc, ks⟩ := x
  obtain ⟨hx, hb, -⟩ := C
  intro H locs ls hI hS hl
  exact lv_iload hx hb hdg (lv_at hl q hq) (kk H locs ls hI hS hl)
theorem G.aload_n (C : Cf w x cc nL own fr lo) (q : Nat) {k : Fin 4} {i v : Nat} (hdg : decode cc pc = .ok (.aload_n k, 1)) (hi : (k : Nat) = i) (hq : L[q]? = some (i, .ref v)) (kk : G w x nL Q (pc + 1) L (.ref v :: S) σ) : G w x nL Q pc L (S) σ := by
  obtain ⟨p, e, R, s, m, args, below, meth, c, kc, ks⟩ := x
  obtain ⟨hx, hb, -⟩ := C
  intro H locs ls hI hS hl
  exact lv_aload_n hx hb hdg hi (lv_at hl q hq) (kk H locs ls hI hS hl)
theorem G.aload (C : Cf w x cc nL own fr lo) (q : Nat) {i v : Nat} (hdg : decode cc pc = .ok (.aload i, 2)) (hq : L[q]? = some (i, .ref v)) (kk : G w x nL Q (pc + 2) L (.ref v :: S) σ) : G w x nL Q pc L (S) σ := by
  obtain ⟨p, e, R, s, m, args, below, meth, c, kc, ks⟩ := x
  obtain ⟨hx, hb, -⟩ := C
  intro H locs ls hI hS hl
  exact lv_aload hx hb hdg (lv_at hl q hq) (kk H locs ls hI hS hl)
theorem G.iadd (C : Cf w x cc nL own fr lo) {u v : Int32} (hdg : decode cc pc = .ok (.iadd, 1)) (kk : G w x nL Q (pc + 1) L (.int (u + v) :: S) σ) : G w x nL Q pc L (.int v :: .int u :: S) σ := by
  obtain ⟨p, e, R, s, m, args, below, meth, c, kc, ks⟩ := x
  obtain ⟨hx, hb, -⟩ := C
  intro H locs ls hI hS hl
  exact lv_iadd hx hb hdg (kk H locs ls hI hS hl)
theorem G.isub (C : Cf w x cc nL own fr lo) {u v : Int32} (hdg : decode cc pc = .ok (.isub, 1)) (kk : G w x nL Q (pc + 1) L (.int (u - v) :: S) σ) : G w x nL Q pc L (.int v :: .int u :: S) σ := by
  obtain ⟨p, e, R, s, m, args, below, meth, c, kc, ks⟩ := x
  obtain ⟨hx, hb, -⟩ := C
  intro H locs ls hI hS hl
  exact lv_isub hx hb hdg (kk H locs ls hI hS hl)
theorem G.imul (C : Cf w x cc nL own fr lo) {u v : Int32} (hdg : decode cc pc = .ok (.imul, 1)) (kk : G w x nL Q (pc + 1) L (.int (u * v) :: S) σ) : G w x nL Q pc L (.int v :: .int u :: S) σ := by
  obtain ⟨p, e, R, s, m, args, below, meth, c, kc, ks⟩ := x
  obtain ⟨hx, hb, -⟩ := C
  intro H locs ls hI hS hl
  exact lv_imul hx hb hdg (kk H locs ls hI hS hl)
theorem G.iand (C : Cf w x cc nL own fr lo) {u v : Int32} (hdg : decode cc pc = .ok (.iand, 1)) (kk : G w x nL Q (pc + 1) L (.int (u &&& v) :: S) σ) : G w x nL Q pc L (.int v :: .int u :: S) σ := by
  obtain ⟨p, e, R, s, m, args, below, meth, c, kc, ks⟩ := x
  obtain ⟨hx, hb, -⟩ := C
  intro H locs ls hI hS hl
  exact lv_iand hx hb hdg (kk H locs ls hI hS hl)
theorem G.ior (C : Cf w x cc nL own fr lo) {u v : Int32} (hdg : decode cc pc = .ok (.ior, 1)) (kk : G w x nL Q (pc + 1) L (.int (u ||| v) :: S) σ) : G w x nL Q pc L (.int v :: .int u :: S) σ := by
  obtain ⟨p, e, R, s, m, args, below, meth, c, kc, ks⟩ := x
  obtain ⟨hx, hb, -⟩ := C
  intro H locs ls hI hS hl
  exact lv_ior hx hb hdg (kk H locs ls hI hS hl)
theorem G.ixor (C : Cf w x cc nL own fr lo) {u v : Int32} (hdg : decode cc pc = .ok (.ixor, 1)) (kk : G w x nL Q (pc + 1) L (.int (u ^^^ v) :: S) σ) : G w x nL Q pc L (.int v :: .int u :: S) σ := by
  obtain ⟨p, e, R, s, m, args, below, meth, c, kc, ks⟩ := x
  obtain ⟨hx, hb, -⟩ := C
  intro H locs ls hI hS hl
  exact lv_ixor hx hb hdg (kk H locs ls hI hS hl)
theorem G.ishl (C : Cf w x cc nL own fr lo) {u v : Int32} (hdg : decode cc pc = .ok (.ishl, 1)) (kk : G w x nL Q (pc + 1) L (.int (u <<< (v &&& 31)) :: S) σ) : G w x nL Q pc L (.int v :: .int u :: S) σ := by
  obtain ⟨p, e, R, s, m, args, below, meth, c, kc, ks⟩ := x
  obtain ⟨hx, hb, -⟩ := C
  intro H locs ls hI hS hl
  exact lv_ishl hx hb hdg (kk H locs ls hI hS hl)
theorem G.ishr (C : Cf w x cc nL own fr lo) {u v : Int32} (hdg : decode cc pc = .ok (.ishr, 1)) (kk : G w x nL Q (pc + 1) L (.int (u >>> (v &&& 31)) :: S) σ) : G w x nL Q pc L (.int v :: .int u :: S) σ := by
  obtain ⟨p, e, R, s, m, args, below, meth, c, kc, ks⟩ := x
  obtain ⟨hx, hb, -⟩ := C
  intro H locs ls hI hS hl
  exact lv_ishr hx hb hdg (kk H locs ls hI hS hl)
theorem G.idiv (C : Cf w x cc nL own fr lo) {u v : Int32} (hdg : decode cc pc = .ok (.idiv, 1)) (hne : ¬ v = 0) (kk : G w x nL Q (pc + 1) L (.int (u / v) :: S) σ) : G w x nL Q pc L (.int v :: .int u :: S) σ := by
  obtain ⟨p, e, R, s, m, args, below, meth, c, kc, ks⟩ := x
  obtain ⟨hx, hb, -⟩ := C
  intro H locs ls hI hS hl
  exact lv_idiv hx hb hdg hne (kk H locs ls hI hS hl)
theorem G.irem (C : Cf w x cc nL own fr lo) {u v : Int32} (hdg : decode cc pc = .ok (.irem, 1)) (hne : ¬ v = 0) (kk : G w x nL Q (pc + 1) L (.int (u - u / v * v) :: S) σ) : G w x nL Q pc L (.int v :: .int u :: S) σ := by
  obtain ⟨p, e, R, s, m, args, below, meth, c, kc, ks⟩ := x
  obtain ⟨hx, hb, -⟩ := C
  intro H locs ls hI hS hl
  exact lv_irem hx hb hdg hne (kk H locs ls hI hS hl)
theorem G.ineg (C : Cf w x cc nL own fr lo) {u : Int32} (hdg : decode cc pc = .ok (.ineg, 1)) (kk : G w x nL Q (pc + 1) L (.int (-u) :: S) σ) : G w x nL Q pc L (.int u :: S) σ := by
  obtain ⟨p, e, R, s, m, args, below, meth, c, kc, ks⟩ := x
  obtain ⟨hx, hb, -⟩ := C
  intro H locs ls hI hS hl
  exact lv_ineg hx hb hdg (kk H locs ls hI hS hl)
theorem G.ladd (C : Cf w x cc nL own fr lo) {u v : Int64} (hdg : decode cc pc = .ok (.ladd, 1)) (kk : G w x nL Q (pc + 1) L (.long (u + v) :: S) σ) : G w x nL Q pc L (.long v :: .long u :: S) σ := by
  obtain ⟨p, e, R, s, m, args, below, meth, c, kc, ks⟩ := x
  obtain ⟨hx, hb, -⟩ := C
  intro H locs ls hI hS hl
  exact lv_ladd hx hb hdg (kk H locs ls hI hS hl)
theorem G.lcmp (C : Cf w x cc nL own fr lo) {u v : Int64} (hdg : decode cc pc = .ok (.lcmp, 1)) (kk : G w x nL Q (pc + 1) L (.int (lg_cmp u v) :: S) σ) : G w x nL Q pc L (.long v :: .long u :: S) σ := by
  obtain ⟨p, e, R, s, m, args, below, meth, c, kc, ks⟩ := x
  obtain ⟨hx, hb, -⟩ := C
  intro H locs ls hI hS hl
  exact W.lcmp hx hb hdg (kk H locs ls hI hS hl)
theorem G.iushr (C : Cf w x cc nL own fr lo) {u v r : Int32} (hdg : decode cc pc = .ok (.iushr, 1)) (hv : (u.toUInt32 >>> (v.toUInt32 &&& Int32.toUInt32 31)).toInt32 = r) (kk : G w x nL Q (pc + 1) L (.int r :: S) σ) : G w x nL Q pc L (.int v :: .int u :: S) σ := by
  obtain ⟨p, e, R, s, m, args, below, meth, c, kc, ks⟩ := x
  obtain ⟨hx, hb, -⟩ := C
  intro H locs ls hI hS hl
  exact lv_iushr hx hb hdg hv (kk H locs ls hI hS hl)
theorem G.dup (C : Cf w x cc nL own fr lo) {va : Value} (hdg : decode cc pc = .ok (.dup, 1)) (hva : va.category = 1) (kk : G w x nL Q (pc + 1) L (va :: va :: S) σ) : G w x nL Q pc L (va :: S) σ := by
  obtain ⟨p, e, R, s, m, args, below, meth, c, kc, ks⟩ := x
  obtain ⟨hx, hb, -⟩ := C
  intro H locs ls hI hS hl
  exact lv_dup hx hb hdg hva (kk H locs ls hI hS hl)
theorem G.pop (C : Cf w x cc nL own fr lo) {va : Value} (hdg : decode cc pc = .ok (.pop, 1)) (hva : va.category = 1) (kk : G w x nL Q (pc + 1) L (S) σ) : G w x nL Q pc L (va :: S) σ := by
  obtain ⟨p, e, R, s, m, args, below, meth, c, kc, ks⟩ := x
  obtain ⟨hx, hb, -⟩ := C
  intro H locs ls hI hS hl
  exact lv_pop hx hb hdg hva (kk H locs ls hI hS hl)
theorem G.dup_x1 (C : Cf w x cc nL own fr lo) {va vb : Value} (hdg : decode cc pc = .ok (.dup_x1, 1)) (hva : va.category = 1) (hvb : vb.category = 1) (kk : G w x nL Q (pc + 1) L (va :: vb :: va :: S) σ) : G w x nL Q pc L (va :: vb :: S) σ := by
  obtain ⟨p, e, R, s, m, args, below, meth, c, kc, ks⟩ := x
  obtain ⟨hx, hb, -⟩ := C
  intro H locs ls hI hS hl
  exact lv_dup_x1 hx hb hdg hva hvb (kk H locs ls hI hS hl)
theorem G.dup_x2 (C : Cf w x cc nL own fr lo) {va vb vd : Value} (hdg : decode cc pc = .ok (.dup_x2, 1)) (hva : va.category = 1) (hvb : vb.category = 1) (hvd : vd.category = 1) (kk : G w x nL Q (pc + 1) L (va :: vb :: vd :: va :: S) σ) : G w x nL Q pc L (va :: vb :: vd :: S) σ := by
  obtain ⟨p, e, R, s, m, args, below, meth, c, kc, ks⟩ := x
  obtain ⟨hx, hb, -⟩ := C
  intro H locs ls hI hS hl
  exact lv_dup_x2 hx hb hdg hva hvb hvd (kk H locs ls hI hS hl)
theorem G.dup2 (C : Cf w x cc nL own fr lo) {va vb : Value} (hdg : decode cc pc = .ok (.dup2, 1)) (hva : va.category = 1) (hvb : vb.category = 1) (kk : G w x nL Q (pc + 1) L (va :: vb :: va :: vb :: S) σ) : G w x nL Q pc L (va :: vb :: S) σ := by
  obtain ⟨p, e, R, s, m, args, below, meth, c, kc, ks⟩ := x
  obtain ⟨hx, hb, -⟩ := C
  intro H locs ls hI hS hl
  exact lv_dup2_11 hx hb hdg hva hvb (kk H locs ls hI hS hl)
theorem G.goto (C : Cf w x cc nL own fr lo) {off : Int} {tgt : Nat} (hdg : decode cc pc = .ok (.goto off, 3)) (ht : (pc : Int) + off = (tgt : Int)) (kk : G w x nL Q tgt L (S) σ) : G w x nL Q pc L (S) σ := by
  obtain ⟨p, e, R, s, m, args, below, meth, c, kc, ks⟩ := x
  obtain ⟨hx, hb, -⟩ := C
  intro H locs ls hI hS hl
  exact lv_goto hx hb hdg ht (kk H locs ls hI hS hl)
theorem G.if_eq (C : Cf w x cc nL own fr lo) {u : Int32} {off : Int} {tgt : Nat} (hdg : decode cc pc = .ok (.ifCond .eq off, 3)) (ht : (pc : Int) + off = (tgt : Int)) (kt : u = 0 → G w x nL Q tgt L S σ) (kf : ¬ (u = 0) → G w x nL Q (pc + 3) L S σ) : G w x nL Q pc L (.int u :: S) σ := by
  obtain ⟨p, e, R, s, m, args, below, meth, c, kc, ks⟩ := x
  obtain ⟨hx, hb, -⟩ := C
  intro H locs ls hI hS hl
  exact lv_if_eq hx hb hdg ht (fun h => kt h H locs ls hI hS hl) (fun h => kf (h) H locs ls hI hS hl)
theorem G.icmp_eq (C : Cf w x cc nL own fr lo) {u v : Int32} {off : Int} {tgt : Nat} (hdg : decode cc pc = .ok (.if_icmp .eq off, 3)) (ht : (pc : Int) + off = (tgt : Int)) (kt : u = v → G w x nL Q tgt L S σ) (kf : ¬ (u = v) → G w x nL Q (pc + 3) L S σ) : G w x nL Q pc L (.int v :: .int u :: S) σ := by
  obtain ⟨p, e, R, s, m, args, below, meth, c, kc, ks⟩ := x
  obtain ⟨hx, hb, -⟩ := C
  intro H locs ls hI hS hl
  exact lv_icmp_eq hx hb hdg ht (fun h => kt h H locs ls hI hS hl) (fun h => kf (h) H locs ls hI hS hl)
theorem G.if_ne (C : Cf w x cc nL own fr lo) {u : Int32} {off : Int} {tgt : Nat} (hdg : decode cc pc = .ok (.ifCond .ne off, 3)) (ht : (pc : Int) + off = (tgt : Int)) (kt : ¬ u = 0 → G w x nL Q tgt L S σ) (kf : u = 0 → G w x nL Q (pc + 3) L S σ) : G w x nL Q pc L (.int u :: S) σ := by
  obtain ⟨p, e, R, s, m, args, below, meth, c, kc, ks⟩ := x
  obtain ⟨hx, hb, -⟩ := C
  intro H locs ls hI hS hl
  exact lv_if_ne hx hb hdg ht (fun h => kt h H locs ls hI hS hl) (fun h => kf (h) H locs ls hI hS hl)
theorem G.icmp_ne (C : Cf w x cc nL own fr lo) {u v : Int32} {off : Int} {tgt : Nat} (hdg : decode cc pc = .ok (.if_icmp .ne off, 3)) (ht : (pc : Int) + off = (tgt : Int)) (kt : ¬ u = v → G w x nL Q tgt L S σ) (kf : u = v → G w x nL Q (pc + 3) L S σ) : G w x nL Q pc L (.int v :: .int u :: S) σ := by
  obtain ⟨p, e, R, s, m, args, below, meth, c, kc, ks⟩ := x
  obtain ⟨hx, hb, -⟩ := C
  intro H locs ls hI hS hl
  exact lv_icmp_ne hx hb hdg ht (fun h => kt h H locs ls hI hS hl) (fun h => kf (h) H locs ls hI hS hl)
theorem G.if_lt (C : Cf w x cc nL own fr lo) {u : Int32} {off : Int} {tgt : Nat} (hdg : decode cc pc = .ok (.ifCond .lt off, 3)) (ht : (pc : Int) + off = (tgt : Int)) (kt : u < 0 → G w x nL Q tgt L S σ) (kf : ¬ (u < 0) → G w x nL Q (pc + 3) L S σ) : G w x nL Q pc L (.int u :: S) σ := by
  obtain ⟨p, e, R, s, m, args, below, meth, c, kc, ks⟩ := x
  obtain ⟨hx, hb, -⟩ := C
  intro H locs ls hI hS hl
  exact lv_if_lt hx hb hdg ht (fun h => kt h H locs ls hI hS hl) (fun h => kf (h) H locs ls hI hS hl)
theorem G.icmp_lt (C : Cf w x cc nL own fr lo) {u v : Int32} {off : Int} {tgt : Nat} (hdg : decode cc pc = .ok (.if_icmp .lt off, 3)) (ht : (pc : Int) + off = (tgt : Int)) (kt : u < v → G w x nL Q tgt L S σ) (kf : ¬ (u < v) → G w x nL Q (pc + 3) L S σ) : G w x nL Q pc L (.int v :: .int u :: S) σ := by
  obtain ⟨p, e, R, s, m, args, below, meth, c, kc, ks⟩ := x
  obtain ⟨hx, hb, -⟩ := C
  intro H locs ls hI hS hl
  exact lv_icmp_lt hx hb hdg ht (fun h => kt h H locs ls hI hS hl) (fun h => kf (h) H locs ls hI hS hl)
theorem G.if_ge (C : Cf w x cc nL own fr lo) {u : Int32} {off : Int} {tgt : Nat} (hdg : decode cc pc = .ok (.ifCond .ge off, 3)) (ht : (pc : Int) + off = (tgt : Int)) (kt : 0 ≤ u → G w x nL Q tgt L S σ) (kf : ¬ (0 ≤ u) → G w x nL Q (pc + 3) L S σ) : G w x nL Q pc L (.int u :: S) σ := by
  obtain ⟨p, e, R, s, m, args, below, meth, c, kc, ks⟩ := x
  obtain ⟨hx, hb, -⟩ := C
  intro H locs ls hI hS hl
  exact lv_if_ge hx hb hdg ht (fun h => kt h H locs ls hI hS hl) (fun h => kf (h) H locs ls hI hS hl)
theorem G.icmp_ge (C : Cf w x cc nL own fr lo) {u v : Int32} {off : Int} {tgt : Nat} (hdg : decode cc pc = .ok (.if_icmp .ge off, 3)) (ht : (pc : Int) + off = (tgt : Int)) (kt : v ≤ u → G w x nL Q tgt L S σ) (kf : ¬ (v ≤ u) → G w x nL Q (pc + 3) L S σ) : G w x nL Q pc L (.int v :: .int u :: S) σ := by
  obtain ⟨p, e, R, s, m, args, below, meth, c, kc, ks⟩ := x
  obtain ⟨hx, hb, -⟩ := C
  intro H locs ls hI hS hl
  exact lv_icmp_ge hx hb hdg ht (fun h => kt h H locs ls hI hS hl) (fun h => kf (h) H locs ls hI hS hl)
theorem G.if_gt (C : Cf w x cc nL own fr lo) {u : Int32} {off : Int} {tgt : Nat} (hdg : decode cc pc = .ok (.ifCond .gt off, 3)) (ht : (pc : Int) + off = (tgt : Int)) (kt : 0 < u → G w x nL Q tgt L S σ) (kf : ¬ (0 < u) → G w x nL Q (pc + 3) L S σ) : G w x nL Q pc L (.int u :: S) σ := by
  obtain ⟨p, e, R, s, m, args, below, meth, c, kc, ks⟩ := x
  obtain ⟨hx, hb, -⟩ := C
  intro H locs ls hI hS hl
  exact lv_if_gt hx hb hdg ht (fun h => kt h H locs ls hI hS hl) (fun h => kf (h) H locs ls hI hS hl)
theorem G.icmp_gt (C : Cf w x cc nL own fr lo) {u v : Int32} {off : Int} {tgt : Nat} (hdg : decode cc pc = .ok (.if_icmp .gt off, 3)) (ht : (pc : Int) + off = (tgt : Int)) (kt : v < u → G w x nL Q tgt L S σ) (kf : ¬ (v < u) → G w x nL Q (pc + 3) L S σ) : G w x nL Q pc L (.int v :: .int u :: S) σ := by
  obtain ⟨p, e, R, s, m, args, below, meth, c, kc, ks⟩ := x
  obtain ⟨hx, hb, -⟩ := C
  intro H locs ls hI hS hl
  exact lv_icmp_gt hx hb hdg ht (fun h => kt h H locs ls hI hS hl) (fun h => kf (h) H locs ls hI hS hl)
theorem G.if_le (C : Cf w x cc nL own fr lo) {u : Int32} {off : Int} {tgt : Nat} (hdg : decode cc pc = .ok (.ifCond .le off, 3)) (ht : (pc : Int) + off = (tgt : Int)) (kt : u ≤ 0 → G w x nL Q tgt L S σ) (kf : ¬ (u ≤ 0) → G w x nL Q (pc + 3) L S σ) : G w x nL Q pc L (.int u :: S) σ := by
  obtain ⟨p, e, R, s, m, args, below, meth, c, kc, ks⟩ := x
  obtain ⟨hx, hb, -⟩ := C
  intro H locs ls hI hS hl
  exact lv_if_le hx hb hdg ht (fun h => kt h H locs ls hI hS hl) (fun h => kf (h) H locs ls hI hS hl)
theorem G.icmp_le (C : Cf w x cc nL own fr lo) {u v : Int32} {off : Int} {tgt : Nat} (hdg : decode cc pc = .ok (.if_icmp .le off, 3)) (ht : (pc : Int) + off = (tgt : Int)) (kt : u ≤ v → G w x nL Q tgt L S σ) (kf : ¬ (u ≤ v) → G w x nL Q (pc + 3) L S σ) : G w x nL Q pc L (.int v :: .int u :: S) σ := by
  obtain ⟨p, e, R, s, m, args, below, meth, c, kc, ks⟩ := x
  obtain ⟨hx, hb, -⟩ := C
  intro H locs ls hI hS hl
  exact lv_icmp_le hx hb hdg ht (fun h => kt h H locs ls hI hS hl) (fun h => kf (h) H locs ls hI hS hl)
theorem G.istore_n (C : Cf w x cc nL own fr lo) {L1 : List (Nat × Value)} {k : Fin 4} {i : Nat} {v : Int32} (hdg : decode cc pc = .ok (.istore_n k, 1)) (hi : (k : Nat) = i) (hn : i < nL) (hL : (i, Value.int v) :: L.filter (fun q => !(q.1 == i) && !(q.1 + 1 == i && q.2.category == 2)) = L1) (kk : G w x nL Q (pc + 1) L1 S σ) : G w x nL Q pc L (.int v :: S) σ := by
  obtain ⟨p, e, R, s, m, args, below, meth, c, kc, ks⟩ := x
  obtain ⟨hx, hb, -⟩ := C
  intro H locs ls hI hS hl
  exact lv_istore_n hx hb hdg hi hl hn hL (fun ls2 hl2 => kk H locs ls2 hI hS hl2)
theorem G.istore (C : Cf w x cc nL own fr lo) {L1 : List (Nat × Value)} {i : Nat} {v : Int32} (hdg : decode cc pc = .ok (.istore i, 2)) (hn : i < nL) (hL : (i, Value.int v) :: L.filter (fun q => !(q.1 == i) && !(q.1 + 1 == i && q.2.category == 2)) = L1) (kk : G w x nL Q (pc + 2) L1 S σ) : G w x nL Q pc L (.int v :: S) σ := by
  obtain ⟨p, e, R, s, m, args, below, meth, c, kc, ks⟩ := x
  obtain ⟨hx, hb, -⟩ := C
  intro H locs ls hI hS hl
  exact lv_istore hx hb hdg hl hn hL (fun ls2 hl2 => kk H locs ls2 hI hS hl2)
theorem G.astore_n (C : Cf w x cc nL own fr lo) {L1 : List (Nat × Value)} {k : Fin 4} {i v : Nat} (hdg : decode cc pc = .ok (.astore_n k, 1)) (hi : (k : Nat) = i) (hn : i < nL) (hL : (i, Value.ref v) :: L.filter (fun q => !(q.1 == i) && !(q.1 + 1 == i && q.2.category == 2)) = L1) (kk : G w x nL Q (pc + 1) L1 S σ) : G w x nL Q pc L (.ref v :: S) σ := by
  obtain ⟨p, e, R, s, m, args, below, meth, c, kc, ks⟩ := x
  obtain ⟨hx, hb, -⟩ := C
  intro H locs ls hI hS hl
  exact lv_astore_n hx hb hdg hi hl hn hL (fun ls2 hl2 => kk H locs ls2 hI hS hl2)
theorem G.astore (C : Cf w x cc nL own fr lo) {L1 : List (Nat × Value)} {i v : Nat} (hdg : decode cc pc = .ok (.astore i, 2)) (hn : i < nL) (hL : (i, Value.ref v) :: L.filter (fun q => !(q.1 == i) && !(q.1 + 1 == i && q.2.category == 2)) = L1) (kk : G w x nL Q (pc + 2) L1 S σ) : G w x nL Q pc L (.ref v :: S) σ := by
  obtain ⟨p, e, R, s, m, args, below, meth, c, kc, ks⟩ := x
  obtain ⟨hx, hb, -⟩ := C
  intro H locs ls hI hS hl
  exact lv_astore hx hb hdg hl hn hL (fun ls2 hl2 => kk H locs ls2 hI hS hl2)
theorem G.iinc (C : Cf w x cc nL own fr lo) {L1 : List (Nat × Value)} (q : Nat) {i : Nat} {n : Int} {u v : Int32} (hdg : decode cc pc = .ok (.iinc i n, 3)) (hq : L[q]? = some (i, .int u)) (hv : u + Int32.ofInt n = v) (hn : i < nL) (hL : (i, Value.int v) :: L.filter (fun q => !(q.1 == i) && !(q.1 + 1 == i && q.2.category == 2)) = L1) (kk : G w x nL Q (pc + 3) L1 S σ) : G w x nL Q pc L S σ := by
  obtain ⟨p, e, R, s, m, args, below, meth, c, kc, ks⟩ := x
  obtain ⟨hx, hb, -⟩ := C
  intro H locs ls hI hS hl
  exact lv_iinc hx hb hdg hl hq hv hn hL (fun ls2 hl2 => kk H locs ls2 hI hS hl2)
/-- fewer locals, in another order -/
theorem G.sub {L1 : List (Nat × Value)} (ks : List Nat) (hL : lv_pick L ks = L1) (kk : G w x nL Q pc L1 S σ) : G w x nL Q pc L S σ := by
  obtain ⟨p, e, R, s, m, args, below, meth, c, kc, kt⟩ := x
  intro H locs ls hI hS hl
  exact kk H locs ls hI hS (lv_sub hl ks hL)
theorem G.ldc (C : Cf w x cc nL own fr lo) {index : Nat} {v : Int32} (hw : Cond.constant own index v ∈ wsU) (hdg : decode cc pc = .ok (.ldc index, 2)) (kk : G w x nL Q (pc + 2) L (.int v :: S) σ) : G w x nL Q pc L S σ := by
  obtain ⟨p, e, R, s, m, args, below, meth, c, kc, ks⟩ := x
  obtain ⟨hx, hb, -, hown, hts, -⟩ := C
  intro H locs ls hI hS hl
  exact lv_ldc hx hb hown (hts _ hw) hdg (kk H locs ls hI hS hl)
theorem G.ldc_w (C : Cf w x cc nL own fr lo) {index : Nat} {v : Int32} (hw : Cond.constant own index v ∈ wsU) (hdg : decode cc pc = .ok (.ldc_w index, 3)) (kk : G w x nL Q (pc + 3) L (.int v :: S) σ) : G w x nL Q pc L S σ := by
  obtain ⟨p, e, R, s, m, args, below, meth, c, kc, ks⟩ := x
  obtain ⟨hx, hb, -, hown, hts, -⟩ := C
  intro H locs ls hI hS hl
  exact lv_ldcw hx hb hown (hts _ hw) hdg (kk H locs ls hI hS hl)
theorem G.ldc2 (C : Cf w x cc nL own fr lo) {index : Nat} {v : Int64} (hw : Cond.constantLong own index v ∈ wsU) (hdg : decode cc pc = .ok (.ldc2_w index, 3)) (kk : G w x nL Q (pc + 3) L (.long v :: S) σ) : G w x nL Q pc L S σ := by
  obtain ⟨p, e, R, s, m, args, below, meth, c, kc, ks⟩ := x
  obtain ⟨hx, hb, -, hown, hts, -⟩ := C
  intro H locs ls hI hS hl
  exact lv_ldc2 hx hb hown (hts _ hw) hdg (kk H locs ls hI hS hl)
theorem G.iret (C : Cf w x cc nL own fr lo) {Post : Int32 → wSt → Prop} {v : Int32} (hr : Rt x (some .int)) (hdg : decode cc pc = .ok (.ireturn, 1)) (hp : Post v σ) : G w x nL (QI w x Post) pc L [.int v] σ := by
  obtain ⟨p, e, R, s, m, args, below, meth, c, kc, ks⟩ := x
  obtain ⟨hx, hb, -, -, -, -, hlocks, -⟩ := C
  intro H locs ls hI hS hl
  exact W.iret hx hb hr (fun t ht hW => ⟨⟨v, σ, rfl, hp, show wInv w σ t.heap by rw [ht]; exact hI⟩, hS.F ht⟩) hS.2.2 hdg hlocks
theorem G.lret (C : Cf w x cc nL own fr lo) {Post : Int64 → wSt → Prop} {v : Int64} (hr : Rt x (some .long)) (hdg : decode cc pc = .ok (.lreturn, 1)) (hp : Post v σ) : G w x nL (QL w x Post) pc L [.long v] σ := by
  obtain ⟨p, e, R, s, m, args, below, meth, c, kc, ks⟩ := x
  obtain ⟨hx, hb, -, -, -, -, hlocks, -⟩ := C
  intro H locs ls hI hS hl
  exact W.lret hx hb hr (fun t ht hW => ⟨⟨v, σ, rfl, hp, show wInv w σ t.heap by rw [ht]; exact hI⟩, hS.F ht⟩) hS.2.2 hdg hlocks
theorem G.zret (C : Cf w x cc nL own fr lo) {Post : Int32 → wSt → Prop} {v : Int32} (hr : Rt x (some .boolean)) (hn : narrow .boolean (.int v) = .int v) (hdg : decode cc pc = .ok (.ireturn, 1)) (hp : Post v σ) : G w x nL (QI w x Post) pc L [.int v] σ := by
  obtain ⟨p, e, R, s, m, args, below, meth, c, kc, ks⟩ := x
  obtain ⟨hx, hb, -, -, -, -, hlocks, -⟩ := C
  intro H locs ls hI hS hl
  exact W.zret hx hb hr hn (fun t ht hW => ⟨⟨v, σ, rfl, hp, show wInv w σ t.heap by rw [ht]; exact hI⟩, hS.F ht⟩) hS.2.2 hdg hlocks
theorem G.vret (C : Cf w x cc nL own fr lo) {Post : wSt → Prop} (hr : Rt x none) (hdg : decode cc pc = .ok (.return_, 1)) (hp : Post σ) : G w x nL (QV w x Post) pc L [] σ := by
  obtain ⟨p, e, R, s, m, args, below, meth, c, kc, ks⟩ := x
  obtain ⟨hx, hb, -, -, -, -, hlocks, -⟩ := C
  intro H locs ls hI hS hl
  exact W.vret hx hb hr (fun t ht hW => ⟨⟨σ, rfl, hp, show wInv w σ t.heap by rw [ht]; exact hI⟩, hS.F ht⟩) hS.2.2 hdg hlocks
end GROWS
