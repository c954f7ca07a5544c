/-! PART 02.c: the rows that read and write the heap, and the calls -/
/-- one number becomes v -/
def wUp (s : wSt) (g i k : Nat) (v : Int32) : wSt := (fun g1 i1 k1 => if g1 = g ∧ i1 = i ∧ k1 = k then v else s.1 g1 i1 k1, s.2)
def wUpL (s : wSt) (j : Nat) (v : Int64) : wSt := (s.1, fun j1 => if j1 = j then v else s.2 j1)
theorem wUp_eq {s : wSt} {g i k : Nat} {v : Int32} : (wUp s g i k v).1 g i k = v := by simp [wUp]
theorem wUp_ne {s : wSt} {g i k g1 i1 k1 : Nat} {v : Int32} (h : ¬ (g1 = g ∧ i1 = i ∧ k1 = k)) : (wUp s g i k v).1 g1 i1 k1 = s.1 g1 i1 k1 := by
  show (if g1 = g ∧ i1 = i ∧ k1 = k then v else s.1 g1 i1 k1) = _
  rw [if_neg h]
theorem wUp_2 {s : wSt} {g i k : Nat} {v : Int32} : (wUp s g i k v).2 = s.2 := rfl
theorem wUpL_1 {s : wSt} {j : Nat} {v : Int64} : (wUpL s j v).1 = s.1 := rfl
theorem wUpL_eq {s : wSt} {j : Nat} {v : Int64} : (wUpL s j v).2 j = v := by simp [wUpL]
theorem wUpL_ne {s : wSt} {j j1 : Nat} {v : Int64} (h : ¬ j1 = j) : (wUpL s j v).2 j1 = s.2 j1 := by simp [wUpL, h]
/-- a cell's picture speaks of its own numbers alone -/
theorem wCt_congr {cy : Nat → ClassId} {E : Nat → Nat → Nat} {s t : wSt} {g i : Nat} (h1 : t.1 g i = s.1 g i) (h2 : t.2 = s.2) : wCt cy E t g i = wCt cy E s g i := by
  unfold wCt
  split <;> first | (rw [h1, h2]; done) | (rw [h1]; done) | rfl
theorem wCt_congrL {cy : Nat → ClassId} {E : Nat → Nat → Nat} {s t : wSt} {g i : Nat} (h1 : t.1 g i = s.1 g i) (h2 : ¬ g = 0) (h3 : ¬ g = 20) : wCt cy E t g i = wCt cy E s g i := by
  unfold wCt
  split <;> first | exact absurd rfl h2 | exact absurd rfl h3 | (rw [h1]; done) | rfl
theorem wInv.up {w : wD} {σ : wSt} {H H1 : Heap} {g i k : Nat} {v : Int32} (hI : wInv w σ H) (hw : wOK w) (hi : i < wN g) (h1 : va_at w.2.1 vwCl (w.2.2.2.1 g i, wCt w.2.2.1 w.2.2.2.1 (wUp σ g i k v) g i) H1) (hq : ∀ q, q ≠ w.2.2.2.1 g i → H1[q]? = H[q]?) : wInv w (wUp σ g i k v) H1 := by
  intro g1 i1 hi1
  by_cases e : g1 = g ∧ i1 = i
  · obtain ⟨rfl, rfl⟩ := e
    exact h1
  · rw [wCt_congr (s := σ) (t := wUp σ g i k v) (funext fun k1 => wUp_ne fun z => e ⟨z.1, z.2.1⟩) rfl]
    exact (hI g1 i1 hi1).kept (hq _ fun z => e (hw.1 g1 i1 g i hi1 hi z))
theorem wInv.upL {w : wD} {σ : wSt} {H H1 : Heap} {g i j : Nat} {v : Int64} (hI : wInv w σ H) (hw : wOK w) (hi : i < wN g) (hg : (j = 0 ∧ g = 0) ∨ (j = 1 ∧ g = 20)) (h1 : va_at w.2.1 vwCl (w.2.2.2.1 g i, wCt w.2.2.1 w.2.2.2.1 (wUpL σ j v) g i) H1) (hq : ∀ q, q ≠ w.2.2.2.1 g i → H1[q]? = H[q]?) : wInv w (wUpL σ j v) H1 := by
  have hi0 : i = 0 := by
    rcases hg with ⟨-, rfl⟩ | ⟨-, rfl⟩
    · exact Nat.lt_one_iff.mp hi
    · exact Nat.lt_one_iff.mp hi
  subst hi0
  intro g1 i1 hi1
  by_cases e : g1 = g ∧ i1 = 0
  · obtain ⟨rfl, rfl⟩ := e
    exact h1
  · have hc : wCt w.2.2.1 w.2.2.2.1 (wUpL σ j v) g1 i1 = wCt w.2.2.1 w.2.2.2.1 σ g1 i1 := by
      by_cases e0 : g1 = 0
      · subst e0
        have e1 : i1 = 0 := Nat.lt_one_iff.mp hi1
        rcases hg with ⟨rfl, rfl⟩ | ⟨rfl, rfl⟩
        · exact absurd ⟨rfl, e1⟩ e
        · rfl
      · by_cases e2 : g1 = 20
        · subst e2
          have e1 : i1 = 0 := Nat.lt_one_iff.mp hi1
          rcases hg with ⟨rfl, rfl⟩ | ⟨rfl, rfl⟩
          · rfl
          · exact absurd ⟨rfl, e1⟩ e
        · exact wCt_congrL rfl e0 e2
    rw [hc]
    exact (hI g1 i1 hi1).kept (hq _ fun z => e (hw.1 g1 i1 g 0 hi1 hi z))
def wLkB (own : String) (index : Nat) (ref n d : String) (args : Array Value) (s : State) : Option String → Bool
  | none => (Cond.fieldLink own index ref n d).before args s
  | some h => (Cond.fieldLinkNest own index ref n d h).before args s
section HV
variable {p : Program} {l : Launch} {e : Env} {R : Room} {s : State} {m : MethodId} {args : Array Value} {below : List Frame} {meth : Method} {c : Code} {H : Heap} {locs : List Loc} {cells slots : Nat} {Q : State → Prop}
variable {cc : ByteArray} {pc : Nat} {ls : Array Slot} {rest : List Value} {D : va_G} {cl : List vw_C} {a : Nat} {tys : List (ClassId × FieldType)}
theorem xw_one {q : Nat × va_E} (h : va_at D cl q H) : va_P D cl [q] H := fun k q1 hq => by
  have h0 : k = 0 := by
    have := (List.getElem?_eq_some_iff.mp hq).1
    simp at this
    exact this
  subst h0
  cases hq
  exact h
theorem xw_put (hexec : p.tables.exec = Jvm.exec) (hb : c.code = cc) {own ref C : String} {T : u_T} {N ci index : Nat} (hin : ∀ w ∈ u_ws C T N, w.before args s = true) (ty0 : Nat → FieldType) (hty : ∀ k, k < N → parseFieldDescriptor (T k).2.2.1 = some (ty0 k)) (hnm : ∀ a, a < N → ∀ b, b < N → a ≠ b → (T a).2.1 ≠ (T b).2.1) (hown : s.vm.findClass own = some m.cls) (hK : va_K D cl tys s) {fs : List Value} (hP : va_at D cl (a, .inr (ci, fs)) H) (hc : cl[ci]? = some (C, T, N)) (k : Nat) (hk : k < N) (host : Option String) (hlink : wLkB own index ref (T k).2.1 (T k).2.2.1 args s host = true) (hsame : (T k).1 = ref) (hfin : (T k).2.2.2 = false) {ty : FieldType} {v : Value} (hd : parseFieldDescriptor (T k).2.2.1 = some ty) (hn : narrow ty v = v) (hfit : fits ty v = true) (hl : k < fs.length)
    (hdg : decode cc pc = .ok (.putfield index, 3)) (kk : ∀ (H1 : Heap) (i : Nat), va_at D cl (a, .inr (ci, fs.set k v)) H1 → H1.size = H.size → (∀ q, q ≠ a → H1[q]? = H[q]?) → W p l e R s m args below meth c H1 (locs ++ [⟨a, i⟩]) cells slots Q (F0 m (pc + 3) ls rest)) : W p l e R s m args below meth c H locs cells slots Q (F0 m pc ls (v :: .ref a :: rest)) := by
  have hap := va_apart (own := own) (args := args) (Ts := u_ws C T N) hin (fun _ h => h) ty0 hty hnm hK hc
  obtain ⟨r, h1, cell, q1, q2, q3, q4⟩ := hP
  have hr : r = (C, T, N) := Option.some.inj (h1.symm.trans hc)
  subst hr
  obtain ⟨hS, hfc, kC, hkC, hkind⟩ := hK.1 ci _ hc
  obtain ⟨cf, kf, fi, f, hi, hsl⟩ := hS k hk
  have hlay := hin _ (u_in_lay hk)
  unfold u_lay at hlay
  rw [if_neg (by rw [hfin]; decide)] at hlay
  have hst := (u_facts hfc hkC (u_lays (ws := u_ws C T N) hin (fun _ h => h) hk) hi).1
  have h6 := u_store hfc hkC hkind hlay hi hd hn hfit
  have hi2 : s.fieldFound? ref (T k).2.1 (T k).2.2.1 = some (cf, kf, fi, f) := by rw [← hsame]; exact hi
  have go : ∀ H' : Heap, H'[a]? = some (cell.setSlot f.slot v) → H'.size = H.size → (∀ q, q ≠ a → H'[q]? = H[q]?) → W p l e R s m args below meth c H' (locs ++ [⟨a, f.slot⟩]) cells slots Q (F0 m (pc + 3) ls rest) := fun H' e1 e2 e3 => by
    rw [hsl] at e1 ⊢
    exact kk H' _ ⟨_, hc, t_OB.to (V := updV (vp_V fs) k v) ⟨_, e1, q2, q3, t_set q4 hap hk v⟩ (fun j _ => vp_updV_set hl v j)⟩ e2 e3
  cases host with
  | none => exact W.putK hexec hb (f := f) ⟨hown, hlink, ⟨_, _, _, hi2⟩, hst⟩ (by rw [q2]; exact h6) q1 q3 (by rw [hsl]; exact k2_hasslot (q4 k hk)) rfl rfl hdg go
  | some h => exact va_WputK hexec hb (f := f) hown hlink hi2 hst (by rw [q2]; exact h6) q1 q3 (by rw [hsl]; exact k2_hasslot (q4 k hk)) rfl rfl hdg go
theorem xw_get (hexec : p.tables.exec = Jvm.exec) (hb : c.code = cc) {own ref C : String} {T : u_T} {N ci index : Nat} (hin : ∀ w ∈ u_ws C T N, w.before args s = true) (hown : s.vm.findClass own = some m.cls) (hK : va_K D cl tys s) {fs : List Value} (hP : va_at D cl (a, .inr (ci, fs)) H) (hc : cl[ci]? = some (C, T, N)) (k : Nat) (hk : k < N) (host : Option String) (hlink : wLkB own index ref (T k).2.1 (T k).2.2.1 args s host = true) (hsame : (T k).1 = ref) {v : Value} (hv : fs[k]? = some v) (hdg : decode cc pc = .ok (.getfield index, 3))
    (kk : W p l e R s m args below meth c H locs cells slots Q (F0 m (pc + 3) ls (v :: rest))) : W p l e R s m args below meth c H locs cells slots Q (F0 m pc ls (.ref a :: rest)) := by
  cases host with
  | none => exact va_get (D := D) (Ts := u_ws C T N) hexec hb hin (fun _ h => h) hown hK (xw_one hP) 0 rfl hc k hk hlink (fun x h => by rw [← hsame]; exact h) hv hdg kk
  | some h => exact va_getN (D := D) (Ts := u_ws C T N) hexec hb hin (fun _ h => h) hown hK (xw_one hP) 0 rfl hc k hk hlink (fun x h => by rw [← hsame]; exact h) hv hdg kk
theorem xw_iast (hexec : p.tables.exec = Jvm.exec) (hb : c.code = cc) (hK : va_K D cl tys s) (t0 : Nat) {cA : ClassId} {n : Nat} {f : Nat → Int32} (hP : va_at D cl (a, .inl (cA, n, .inl f)) H) (ht : tys[t0]? = some (cA, .int)) {i : Int32} {x : Int32} (hin : vp_in i n) (hdg : decode cc pc = .ok (.iastore, 1))
    (kk : ∀ H1 : Heap, va_at D cl (a, .inl (cA, n, .inl (upd f i.toNatClampNeg x))) H1 → H1.size = H.size → (∀ q, q ≠ a → H1[q]? = H[q]?) → W p l e R s m args below meth c H1 (locs ++ [⟨a, i.toNatClampNeg⟩]) cells slots Q (F0 m (pc + 1) ls rest)) : W p l e R s m args below meth c H locs cells slots Q (F0 m pc ls (.int x :: .int i :: .ref a :: rest)) := by
  refine W.iast hexec hb hP ((hK.2 t0 _ ht).1 n (fun j => .int (f j))) (fun q => by cases q) (by show ¬ (i < 0 ∨ (arrV _ _ _).slots.size ≤ _); rw [arrV_size]; exact hin) rfl rfl hdg fun H1 e z oq => ?_
  refine kk H1 ?_ z oq
  show H1[a]? = some (vp_cell _ _)
  rw [e, vp_cell_i, vp_cell_i, arrV_store]
  congr 2
  funext q
  by_cases hq : q = i.toNatClampNeg
  · subst hq
    simp [updV, upd]
  · simp [updV, upd, hq]
theorem xw_aald (hexec : p.tables.exec = Jvm.exec) (hb : c.code = cc) (hK : va_K D cl tys s) (t0 : Nat) {cA : ClassId} {ty : FieldType} {n : Nat} {f : Nat → Option Nat} (hP : va_at D cl (a, .inl (cA, n, .inr (.inr (.inr (.inr f))))) H) (ht : tys[t0]? = some (cA, ty)) (hty : ty.isReference = true) {i : Int32} (hin : vp_in i n) (hdg : decode cc pc = .ok (.aaload, 1))
    (kk : W p l e R s m args below meth c H locs cells slots Q (F0 m (pc + 1) ls (va_rf (f i.toNatClampNeg) :: rest))) : W p l e R s m args below meth c H locs cells slots Q (F0 m pc ls (.int i :: .ref a :: rest)) := by
  have hlt : i.toNatClampNeg < n := Nat.not_le.mp fun q => hin (Or.inr q)
  exact W.aald (v := va_rf (f i.toNatClampNeg)) (ty := ty) hexec hb hP ((hK.2 t0 _ ht).1 n (fun j => va_rf (f j))) hty (fun q => by cases q) (by show ¬ (i < 0 ∨ (arrV _ _ _).slots.size ≤ _); rw [arrV_size]; exact hin) (by show (arrV _ _ _).slots[_]? = _; rw [arrV_read _ _ hlt]) rfl rfl hdg kk
end HV
theorem va_S.put1 {A : Nat → Prop} {H0 H H1 : Heap} {locs : List Loc} {a k : Nat} (h : va_S A H0 H locs) (z : H1.size = H.size) (oq : ∀ q : Nat, q ≠ a → H1[q]? = H[q]?) (ha : A a) : va_S A H0 H1 (locs ++ [⟨a, k⟩]) := h.put z oq ha
section GHEAP
variable {w : wD} {x : wX} {cc : ByteArray} {nL : Nat} {own : String} {fr lo : Nat} {Q : State → Prop} {pc : Nat} {L : List (Nat × Value)} {S : List Value} {σ : wSt}
/-- which words of the tables a link stands on: its own class's, or a nest mate's -/
def wLink (own : String) (index : Nat) (ref n d : String) : Option String → Prop
  | none => Cond.fieldLink own index ref n d ∈ wsU
  | some h => (own, index, ref, n, d, h) ∈ wNF
theorem wLink.at {own : String} {index : Nat} {ref n d : String} {host : Option String} {args : Array Value} {s : State} (h : wLink own index ref n d host) (hts : ∀ q ∈ wsU, q.before args s = true) (hK : wK w s) : wLkB own index ref n d args s host = true := by
  cases host with
  | none => exact hts _ h
  | some k => exact va_Nw.use rfl (hK.2.1 _ h)
theorem G.get (C : Cf w x cc nL own fr lo) {g i ci index N : Nat} {Cn ref : String} {T : u_T} {fs : List Value} {v : Value} (k : Nat) (host : Option String) (hdg : decode cc pc = .ok (.getfield index, 3)) (hi : i < wN g) (he : wCt w.2.2.1 w.2.2.2.1 σ g i = .inr (ci, fs)) (hc : vwCl[ci]? = some (Cn, T, N)) (hin : ∀ q ∈ u_ws Cn T N, q ∈ wsU) (hk : k < N) (hlink : wLink own index ref (T k).2.1 (T k).2.2.1 host) (hsame : (T k).1 = ref) (hv : fs[k]? = some v) (kk : G w x nL Q (pc + 3) L (v :: S) σ) : G w x nL Q pc L (.ref (w.2.2.2.1 g i) :: S) σ := by
  obtain ⟨p, e, R, s, m, args, below, meth, c, kc, ks⟩ := x
  obtain ⟨hx, hb, -, hown, hts, hK, -⟩ := C
  intro H locs ls hI hS hl
  have h := hI g i hi
  rw [he] at h
  exact xw_get hx hb (fun q hq => hts q (hin q hq)) hown hK.1 h hc k hk host (hlink.at hts hK) hsame hv hdg (kk H locs ls hI hS hl)
theorem G.put (C : Cf w x cc nL own fr lo) {g i ci index N : Nat} {Cn ref : String} {T : u_T} {fs : List Value} {v : Int32} (k : Nat) (host : Option String) (hdg : decode cc pc = .ok (.putfield index, 3)) (hi : i < wN g) (he : wCt w.2.2.1 w.2.2.2.1 σ g i = .inr (ci, fs)) (hc : vwCl[ci]? = some (Cn, T, N)) (hin : ∀ q ∈ u_ws Cn T N, q ∈ wsU) (ty0 : Nat → FieldType) (hty : ∀ k, k < N → parseFieldDescriptor (T k).2.2.1 = some (ty0 k)) (hnm : ∀ a, a < N → ∀ b, b < N → a ≠ b → (T a).2.1 ≠ (T b).2.1) (hk : k < N) (hlink : wLink own index ref (T k).2.1 (T k).2.2.1 host) (hsame : (T k).1 = ref) (hfin : (T k).2.2.2 = false) (hd : parseFieldDescriptor (T k).2.2.1 = some .int) (hl : k < fs.length) (he2 : wCt w.2.2.1 w.2.2.2.1 (wUp σ g i k v) g i = .inr (ci, fs.set k (.int v))) (kk : G w x nL Q (pc + 3) L S (wUp σ g i k v)) : G w x nL Q pc L (.int v :: .ref (w.2.2.2.1 g i) :: S) σ := by
  obtain ⟨p, e, R, s, m, args, below, meth, c, kc, ks⟩ := x
  obtain ⟨hx, hb, -, hown, hts, hK, -, -, -, -, -, hw⟩ := C
  intro H locs ls hI hS hl2
  have h := hI g i hi
  rw [he] at h
  refine xw_put hx hb (fun q hq => hts q (hin q hq)) ty0 hty hnm hown hK.1 h hc k hk host (hlink.at hts hK) hsame hfin hd rfl rfl hl hdg (fun H1 j h1 z oq => ?_)
  exact kk H1 _ ls (hI.up hw hi (by rw [he2]; exact h1) oq) (hS.put z oq (hw.2 g i hi)) hl2
theorem G.putL (C : Cf w x cc nL own fr lo) {g i ci index N j : Nat} {Cn ref : String} {T : u_T} {fs : List Value} {v : Int64} (k : Nat) (host : Option String) (hdg : decode cc pc = .ok (.putfield index, 3)) (hi : i < wN g) (hg : (j = 0 ∧ g = 0) ∨ (j = 1 ∧ g = 20)) (he : wCt w.2.2.1 w.2.2.2.1 σ g i = .inr (ci, fs)) (hc : vwCl[ci]? = some (Cn, T, N)) (hin : ∀ q ∈ u_ws Cn T N, q ∈ wsU) (ty0 : Nat → FieldType) (hty : ∀ k, k < N → parseFieldDescriptor (T k).2.2.1 = some (ty0 k)) (hnm : ∀ a, a < N → ∀ b, b < N → a ≠ b → (T a).2.1 ≠ (T b).2.1) (hk : k < N) (hlink : wLink own index ref (T k).2.1 (T k).2.2.1 host) (hsame : (T k).1 = ref) (hfin : (T k).2.2.2 = false) (hd : parseFieldDescriptor (T k).2.2.1 = some .long) (hl : k < fs.length) (he2 : wCt w.2.2.1 w.2.2.2.1 (wUpL σ j v) g i = .inr (ci, fs.set k (.long v))) (kk : G w x nL Q (pc + 3) L S (wUpL σ j v)) : G w x nL Q pc L (.long v :: .ref (w.2.2.2.1 g i) :: S) σ := by
  obtain ⟨p, e, R, s, m, args, below, meth, c, kc, ks⟩ := x
  obtain ⟨hx, hb, -, hown, hts, hK, -, -, -, -, -, hw⟩ := C
  intro H locs ls hI hS hl2
  have h := hI g i hi
  rw [he] at h
  refine xw_put hx hb (fun q hq => hts q (hin q hq)) ty0 hty hnm hown hK.1 h hc k hk host (hlink.at hts hK) hsame hfin hd rfl rfl hl hdg (fun H1 j h1 z oq => ?_)
  exact kk H1 _ ls (hI.upL hw hi hg (by rw [he2]; exact h1) oq) (hS.put z oq (hw.2 g i hi)) hl2
theorem G.iald (C : Cf w x cc nL own fr lo) {g i n : Nat} {f : Nat → Int32} {j : Int32} (hdg : decode cc pc = .ok (.iaload, 1)) (hi : i < wN g) (he : wCt w.2.2.1 w.2.2.2.1 σ g i = .inl (w.2.2.1 0, n, .inl f)) (hj : vp_in j n) (kk : G w x nL Q (pc + 1) L (.int (f j.toNatClampNeg) :: S) σ) : G w x nL Q pc L (.int j :: .ref (w.2.2.2.1 g i) :: S) σ := by
  obtain ⟨p, e, R, s, m, args, below, meth, c, kc, ks⟩ := x
  obtain ⟨hx, hb, -, hown, hts, hK, -⟩ := C
  intro H locs ls hI hS hl
  have h := hI g i hi
  rw [he] at h
  exact va_iald hx hb hK.1 (xw_one h) 0 0 rfl rfl hj hdg (kk H locs ls hI hS hl)
theorem G.aald (C : Cf w x cc nL own fr lo) {g i n : Nat} {f : Nat → Nat} {cA : ClassId} {ty : FieldType} {j : Int32} (t0 : Nat) (hdg : decode cc pc = .ok (.aaload, 1)) (hi : i < wN g) (he : wCt w.2.2.1 w.2.2.2.1 σ g i = .inl (cA, n, .inr (.inr (.inr (.inr (fun q => some (f q))))))) (ht : (wTys w)[t0]? = some (cA, ty)) (hty : ty.isReference = true) (hj : vp_in j n) (kk : G w x nL Q (pc + 1) L (.ref (f j.toNatClampNeg) :: S) σ) : G w x nL Q pc L (.int j :: .ref (w.2.2.2.1 g i) :: S) σ := by
  obtain ⟨p, e, R, s, m, args, below, meth, c, kc, ks⟩ := x
  obtain ⟨hx, hb, -, hown, hts, hK, -⟩ := C
  intro H locs ls hI hS hl
  have h := hI g i hi
  rw [he] at h
  exact xw_aald hx hb hK.1 t0 h ht hty hj hdg (kk H locs ls hI hS hl)
theorem G.iast (C : Cf w x cc nL own fr lo) {g i n : Nat} {f : Nat → Int32} {j v : Int32} (hdg : decode cc pc = .ok (.iastore, 1)) (hi : i < wN g) (he : wCt w.2.2.1 w.2.2.2.1 σ g i = .inl (w.2.2.1 0, n, .inl f)) (hj : vp_in j n) (he2 : wCt w.2.2.1 w.2.2.2.1 (wUp σ g i j.toNatClampNeg v) g i = .inl (w.2.2.1 0, n, .inl (upd f j.toNatClampNeg v))) (kk : G w x nL Q (pc + 1) L S (wUp σ g i j.toNatClampNeg v)) : G w x nL Q pc L (.int v :: .int j :: .ref (w.2.2.2.1 g i) :: S) σ := by
  obtain ⟨p, e, R, s, m, args, below, meth, c, kc, ks⟩ := x
  obtain ⟨hx, hb, -, hown, hts, hK, -, -, -, -, -, hw⟩ := C
  intro H locs ls hI hS hl
  have h := hI g i hi
  rw [he] at h
  refine xw_iast hx hb hK.1 0 h rfl hj hdg (fun H1 h1 z oq => ?_)
  exact kk H1 _ ls (hI.up hw hi (by rw [he2]; exact h1) oq) (hS.put z oq (hw.2 g i hi)) hl
end GHEAP
