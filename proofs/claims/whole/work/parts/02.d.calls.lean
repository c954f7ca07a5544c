/-! PART 02.d: the calls -/
def wLinkM (own : String) (index : Nat) (y : MethodName) : Option String → Prop
  | none => Cond.methodLink own index y ∈ wsU
  | some h => (own, index, y, h) ∈ wNM
theorem w_blind {w : wD} {av : List Value} {σ : wSt} : FrameBlind (va_Pc av (fun U => wInv w σ U.heap ∧ wK w U)) := fun a U g mk q => ⟨q.1, q.2.1, q.2.2.calling⟩
theorem w_pre {w : wD} {av : List Value} {σ : wSt} {s : State} {H : Heap} (hI : wInv w σ H) (hK : wK w s) : ∀ U : State, U.heap = H → s.WarmedH U.vm → va_Pc av (fun U => wInv w σ U.heap ∧ wK w U) av.toArray U := fun U hU hW => ⟨rfl, by rw [hU]; exact hI, hK.warm hW⟩
theorem w_recv {w : wD} {σ : wSt} {s : State} {H : Heap} {g i ci N : Nat} {Cn : String} {T : u_T} {fs : List Value} (hI : wInv w σ H) (hK : wK w s) (hi : i < wN g) (he : wCt w.2.2.1 w.2.2.2.1 σ g i = .inr (ci, fs)) (hc : vwCl[ci]? = some (Cn, T, N)) : ∃ cell : Cell, H[w.2.2.2.1 g i]? = some cell ∧ cell.vm.isStatics = false ∧ s.vm.findClass Cn = some cell.cls := by
  have h := hI g i hi
  rw [he] at h
  exact va_recv hK.1 (xw_one h) hc (q0 := 0) rfl
theorem w_tab {u a b : Int} {n : Nat} (h1 : ¬ u < a) (h2 : ¬ b < u) (hz : (b - a + 1).toNat ≤ n) : (u - a).toNat < n := by omega
theorem w_tab2 {u a : Int} (h1 : ¬ u < a) : u = a + ((u - a).toNat : Int) := by omega
section GCALL
variable {w : wD} {x : wX} {cc : ByteArray} {nL : Nat} {own : String} {fr lo : Nat} {Q : State → Prop} {pc : Nat} {L : List (Nat × Value)} {S st : List Value} {σ : wSt} {y : MethodName} {cc2 : ByteArray} {nL2 fr2 lo2 index n : Nat} {ret : Option FieldType} {As : List Value}
theorem G.callV (C : Cf w x cc nL own fr lo) {Post : Int32 → wSt → Prop} {g i ci N : Nat} {Cn : String} {T : u_T} {fs : List Value} (host : Option String) (hM : MI w y cc2 nL2 ret fr2 lo2 (.ref (w.2.2.2.1 g i) :: As) σ Post) (hdg : decode cc pc = .ok (.invokevirtual index, 3)) (hi : i < wN g) (he : wCt w.2.2.1 w.2.2.2.1 σ g i = .inr (ci, fs)) (hc : vwCl[ci]? = some (Cn, T, N)) (hCn : Cn = y.cls) (hv : wVirt y cc2 nL2 ret n) (hlink : wLinkM own index y host) (hst : st = As.reverse ++ .ref (w.2.2.2.1 g i) :: S) (hn : As.length = n) (hR : fr2 + 1 ≤ fr ∧ 8 + (nL2 + 11) + lo2 ≤ lo) (hcat : (S.map fun v => v.category).sum ≤ 8) (kk : ∀ (r : Int32) (τ : wSt), Post r τ → G w x nL Q (pc + 3) L (.int r :: S) τ) : G w x nL Q pc L st σ := by
  obtain ⟨p, e, R, s, m, args, below, meth, c, kc, ks⟩ := x
  obtain ⟨hx, hb, hml, hown, hts, hK, -, hfr, hlo, hkc, hks, hw⟩ := C
  obtain ⟨h1, h2, h3, h4, h5⟩ := hv
  subst hCn
  subst hst
  intro H locs ls hI hS hl
  have hRR : ({ frames := fr2, cells := 0, slots := 0, locals := lo2 } : Room).frames + 1 ≤ R.frames ∧ 8 + (nL2 + 11) + ({ frames := fr2, cells := 0, slots := 0, locals := lo2 } : Room).locals ≤ R.locals := ⟨Nat.le_trans hR.1 hfr, Nat.le_trans hR.2 hlo⟩
  have hrecv := w_recv hI hK hi he hc
  have fin : va_Run p w.1 e R s m args below meth c H locs kc ks 0 0 (F0 m pc ls (As.reverse ++ .ref (w.2.2.2.1 g i) :: S)) S (va_Qi Post (fun σ t => wInv w σ t.heap) w.2.2.2.2 (Value.ref (w.2.2.2.1 g i) :: As).toArray) w.2.2.2.2 := by
    cases host with
    | none => exact va_runV (As := As) (rest := S) ⟨hx, hb, hml, hown, hts⟩ hM ⟨callB_of n hts (wU_call h4) rfl rfl rfl (hts _ h3) (hts _ hlink) h5 hRR, hts _ h1, hts _ h2⟩ ⟨w_blind, hrecv, w_pre hI hK⟩ rfl hn hl.1 rfl (lv_room hcat) hdg ⟨hkc, hks⟩
    | some k => exact va_runVN (As := As) (rest := S) ⟨hx, hb, hml, hown, hts⟩ hM ⟨va_cnB n hts (wU_call h4) rfl rfl rfl (hK.2.2 _ hlink) (hts _ h3) h5 hRR, hts _ h1, hts _ h2⟩ ⟨w_blind, hrecv, w_pre hI hK⟩ rfl hn hl.1 rfl (lv_room hcat) hdg ⟨hkc, hks⟩
  exact va_calli fin hS (fun _ _ h => h) (fun _ h => h) (fun r τ t H1 locs1 ht _ hp hB _ _ hS1 => kk r τ hp H1 locs1 ls (by rw [← ht]; exact hB) hS1 hl)
theorem G.callVv (C : Cf w x cc nL own fr lo) {Post : wSt → Prop} {g i ci N : Nat} {Cn : String} {T : u_T} {fs : List Value} (host : Option String) (hM : MV w y cc2 nL2 ret fr2 lo2 (.ref (w.2.2.2.1 g i) :: As) σ Post) (hdg : decode cc pc = .ok (.invokevirtual index, 3)) (hi : i < wN g) (he : wCt w.2.2.1 w.2.2.2.1 σ g i = .inr (ci, fs)) (hc : vwCl[ci]? = some (Cn, T, N)) (hCn : Cn = y.cls) (hv : wVirt y cc2 nL2 ret n) (hlink : wLinkM own index y host) (hst : st = As.reverse ++ .ref (w.2.2.2.1 g i) :: S) (hn : As.length = n) (hR : fr2 + 1 ≤ fr ∧ 8 + (nL2 + 11) + lo2 ≤ lo) (hcat : (S.map fun v => v.category).sum ≤ 8) (kk : ∀ (τ : wSt), Post τ → G w x nL Q (pc + 3) L S τ) : G w x nL Q pc L st σ := by
  obtain ⟨p, e, R, s, m, args, below, meth, c, kc, ks⟩ := x
  obtain ⟨hx, hb, hml, hown, hts, hK, -, hfr, hlo, hkc, hks, hw⟩ := C
  obtain ⟨h1, h2, h3, h4, h5⟩ := hv
  subst hCn
  subst hst
  intro H locs ls hI hS hl
  have hRR : ({ frames := fr2, cells := 0, slots := 0, locals := lo2 } : Room).frames + 1 ≤ R.frames ∧ 8 + (nL2 + 11) + ({ frames := fr2, cells := 0, slots := 0, locals := lo2 } : Room).locals ≤ R.locals := ⟨Nat.le_trans hR.1 hfr, Nat.le_trans hR.2 hlo⟩
  have hrecv := w_recv hI hK hi he hc
  have fin : va_Run p w.1 e R s m args below meth c H locs kc ks 0 0 (F0 m pc ls (As.reverse ++ .ref (w.2.2.2.1 g i) :: S)) S (va_Qv Post (fun σ t => wInv w σ t.heap) w.2.2.2.2 (Value.ref (w.2.2.2.1 g i) :: As).toArray) w.2.2.2.2 := by
    cases host with
    | none => exact va_runV (As := As) (rest := S) ⟨hx, hb, hml, hown, hts⟩ hM ⟨callB_of n hts (wU_call h4) rfl rfl rfl (hts _ h3) (hts _ hlink) h5 hRR, hts _ h1, hts _ h2⟩ ⟨w_blind, hrecv, w_pre hI hK⟩ rfl hn hl.1 rfl (lv_room hcat) hdg ⟨hkc, hks⟩
    | some k => exact va_runVN (As := As) (rest := S) ⟨hx, hb, hml, hown, hts⟩ hM ⟨va_cnB n hts (wU_call h4) rfl rfl rfl (hK.2.2 _ hlink) (hts _ h3) h5 hRR, hts _ h1, hts _ h2⟩ ⟨w_blind, hrecv, w_pre hI hK⟩ rfl hn hl.1 rfl (lv_room hcat) hdg ⟨hkc, hks⟩
  exact va_callv fin hS (fun _ _ h => h) (fun _ h => h) (fun τ t H1 locs1 ht _ hp hB _ _ hS1 => kk τ hp H1 locs1 ls (by rw [← ht]; exact hB) hS1 hl)
theorem G.callVl (C : Cf w x cc nL own fr lo) {Post : Int64 → wSt → Prop} {g i ci N : Nat} {Cn : String} {T : u_T} {fs : List Value} (host : Option String) (hM : ML w y cc2 nL2 ret fr2 lo2 (.ref (w.2.2.2.1 g i) :: As) σ Post) (hdg : decode cc pc = .ok (.invokevirtual index, 3)) (hi : i < wN g) (he : wCt w.2.2.1 w.2.2.2.1 σ g i = .inr (ci, fs)) (hc : vwCl[ci]? = some (Cn, T, N)) (hCn : Cn = y.cls) (hv : wVirt y cc2 nL2 ret n) (hlink : wLinkM own index y host) (hst : st = As.reverse ++ .ref (w.2.2.2.1 g i) :: S) (hn : As.length = n) (hR : fr2 + 1 ≤ fr ∧ 8 + (nL2 + 11) + lo2 ≤ lo) (hcat : (S.map fun v => v.category).sum ≤ 8) (kk : ∀ (r : Int64) (τ : wSt), Post r τ → G w x nL Q (pc + 3) L (.long r :: S) τ) : G w x nL Q pc L st σ := by
  obtain ⟨p, e, R, s, m, args, below, meth, c, kc, ks⟩ := x
  obtain ⟨hx, hb, hml, hown, hts, hK, -, hfr, hlo, hkc, hks, hw⟩ := C
  obtain ⟨h1, h2, h3, h4, h5⟩ := hv
  subst hCn
  subst hst
  intro H locs ls hI hS hl
  have hRR : ({ frames := fr2, cells := 0, slots := 0, locals := lo2 } : Room).frames + 1 ≤ R.frames ∧ 8 + (nL2 + 11) + ({ frames := fr2, cells := 0, slots := 0, locals := lo2 } : Room).locals ≤ R.locals := ⟨Nat.le_trans hR.1 hfr, Nat.le_trans hR.2 hlo⟩
  have hrecv := w_recv hI hK hi he hc
  have fin : va_Run p w.1 e R s m args below meth c H locs kc ks 0 0 (F0 m pc ls (As.reverse ++ .ref (w.2.2.2.1 g i) :: S)) S (va_Ql Post (fun σ t => wInv w σ t.heap) w.2.2.2.2 (Value.ref (w.2.2.2.1 g i) :: As).toArray) w.2.2.2.2 := by
    cases host with
    | none => exact va_runV (As := As) (rest := S) ⟨hx, hb, hml, hown, hts⟩ hM ⟨callB_of n hts (wU_call h4) rfl rfl rfl (hts _ h3) (hts _ hlink) h5 hRR, hts _ h1, hts _ h2⟩ ⟨w_blind, hrecv, w_pre hI hK⟩ rfl hn hl.1 rfl (lv_room hcat) hdg ⟨hkc, hks⟩
    | some k => exact va_runVN (As := As) (rest := S) ⟨hx, hb, hml, hown, hts⟩ hM ⟨va_cnB n hts (wU_call h4) rfl rfl rfl (hK.2.2 _ hlink) (hts _ h3) h5 hRR, hts _ h1, hts _ h2⟩ ⟨w_blind, hrecv, w_pre hI hK⟩ rfl hn hl.1 rfl (lv_room hcat) hdg ⟨hkc, hks⟩
  exact va_calll fin hS (fun _ _ h => h) (fun _ h => h) (fun r τ t H1 locs1 ht _ hp hB _ _ hS1 => kk r τ hp H1 locs1 ls (by rw [← ht]; exact hB) hS1 hl)
theorem G.callS (C : Cf w x cc nL own fr lo) {Post : Int32 → wSt → Prop} (host : Option String) (hM : MI w y cc2 nL2 ret fr2 lo2 As σ Post) (hdg : decode cc pc = .ok (.invokestatic index, 3)) (hv : wStat y cc2 nL2 ret n) (hlink : wLinkM own index y host) (hst : st = As.reverse ++ S) (hn : As.length = n) (hR : fr2 + 1 ≤ fr ∧ 8 + (nL2 + 11) + lo2 ≤ lo) (hcat : (S.map fun v => v.category).sum ≤ 8) (kk : ∀ (r : Int32) (τ : wSt), Post r τ → G w x nL Q (pc + 3) L (.int r :: S) τ) : G w x nL Q pc L st σ := by
  obtain ⟨p, e, R, s, m, args, below, meth, c, kc, ks⟩ := x
  obtain ⟨hx, hb, hml, hown, hts, hK, -, hfr, hlo, hkc, hks, hw⟩ := C
  obtain ⟨h1, h3, h4, h5⟩ := hv
  subst hst
  intro H locs ls hI hS hl
  have hRR : ({ frames := fr2, cells := 0, slots := 0, locals := lo2 } : Room).frames + 1 ≤ R.frames ∧ 8 + (nL2 + 11) + ({ frames := fr2, cells := 0, slots := 0, locals := lo2 } : Room).locals ≤ R.locals := ⟨Nat.le_trans hR.1 hfr, Nat.le_trans hR.2 hlo⟩
  have fin : va_Run p w.1 e R s m args below meth c H locs kc ks 0 0 (F0 m pc ls (As.reverse ++ S)) S (va_Qi Post (fun σ t => wInv w σ t.heap) w.2.2.2.2 As.toArray) w.2.2.2.2 := by
    cases host with
    | none => exact va_runS (As := As) (rest := S) ⟨hx, hb, hml, hown, hts⟩ hM ⟨callB_of n hts (wU_call h4) rfl rfl rfl (hts _ h3) (hts _ hlink) h5 hRR, hts _ h1⟩ ⟨w_blind, w_pre hI hK⟩ rfl hn hl.1 rfl (lv_room hcat) hdg ⟨hkc, hks⟩
    | some k => exact va_runSN (As := As) (rest := S) ⟨hx, hb, hml, hown, hts⟩ hM ⟨va_cnB n hts (wU_call h4) rfl rfl rfl (hK.2.2 _ hlink) (hts _ h3) h5 hRR, hts _ h1, trivial⟩ ⟨w_blind, w_pre hI hK⟩ rfl hn hl.1 rfl (lv_room hcat) hdg ⟨hkc, hks⟩
  exact va_calli fin hS (fun _ _ h => h) (fun _ h => h) (fun r τ t H1 locs1 ht _ hp hB _ _ hS1 => kk r τ hp H1 locs1 ls (by rw [← ht]; exact hB) hS1 hl)
theorem G.mmax (C : Cf w x cc nL own fr lo) {u v : Int32} (hdg : decode cc pc = .ok (.invokestatic index, 3)) (hlink : Cond.methodLink own index Lib.Math.max.name ∈ wsU) (hR : 1 ≤ fr ∧ 21 ≤ lo) (hcat : (S.map fun v => v.category).sum ≤ 8) (kk : G w x nL Q (pc + 3) L (.int (if u < v then v else u) :: S) σ) : G w x nL Q pc L (.int v :: .int u :: S) σ := by
  obtain ⟨p, e, R, s, m, args, below, meth, c, kc, ks⟩ := x
  obtain ⟨hx, hb, hml, hown, hts, hK, -, hfr, hlo, hkc, hks, hw⟩ := C
  intro H locs ls hI hS hl
  exact va_mmax hx hb (hml.trans hl.1.symm) hown (hts _ hlink) (hts _ us_max) (hts _ ui_Math) (hts _ uc_max) (Nat.le_trans hR.1 hfr) (by have := hR.2; omega) hkc hks hdg (kk H locs ls hI hS hl)
theorem G.mmin (C : Cf w x cc nL own fr lo) {u v : Int32} (hdg : decode cc pc = .ok (.invokestatic index, 3)) (hlink : Cond.methodLink own index Lib.Math.min.name ∈ wsU) (hR : 1 ≤ fr ∧ 21 ≤ lo) (hcat : (S.map fun v => v.category).sum ≤ 8) (kk : G w x nL Q (pc + 3) L (.int (if v < u then v else u) :: S) σ) : G w x nL Q pc L (.int v :: .int u :: S) σ := by
  obtain ⟨p, e, R, s, m, args, below, meth, c, kc, ks⟩ := x
  obtain ⟨hx, hb, hml, hown, hts, hK, -, hfr, hlo, hkc, hks, hw⟩ := C
  intro H locs ls hI hS hl
  exact va_mmin hx hb (hml.trans hl.1.symm) hown (hts _ hlink) (hts _ us_min) (hts _ ui_Math) (hts _ uc_min) (Nat.le_trans hR.1 hfr) (by have := hR.2; omega) hkc hks hdg (kk H locs ls hI hS hl)
theorem G.mabs (C : Cf w x cc nL own fr lo) {u : Int32} (hdg : decode cc pc = .ok (.invokestatic index, 3)) (hlink : Cond.methodLink own index Lib.Math.abs.name ∈ wsU) (hR : 1 ≤ fr ∧ 21 ≤ lo) (hcat : (S.map fun v => v.category).sum ≤ 8) (kk : G w x nL Q (pc + 3) L (.int (if 0 ≤ u then u else 0 - u) :: S) σ) : G w x nL Q pc L (.int u :: S) σ := by
  obtain ⟨p, e, R, s, m, args, below, meth, c, kc, ks⟩ := x
  obtain ⟨hx, hb, hml, hown, hts, hK, -, hfr, hlo, hkc, hks, hw⟩ := C
  intro H locs ls hI hS hl
  exact va_mabs hx hb (hml.trans hl.1.symm) hown (hts _ hlink) (hts _ us_abs) (hts _ ui_Math) (hts _ uc_abs) (Nat.le_trans hR.1 hfr) (by have := hR.2; omega) hkc hks hdg (kk H locs ls hI hS hl)
/-- a switch: inside its table, and outside -/
theorem G.tableIn (C : Cf w x cc nL own fr lo) {dflt a b : Int} {offs : Array Int} {len : Nat} {u : Int32} {off : Int} {tgt : Nat} (hdg : decode cc pc = .ok (.tableswitch dflt a b offs, len)) (h1 : ¬ u.toInt < a) (h2 : ¬ b < u.toInt) (ho : offs[(u.toInt - a).toNat]? = some off) (ht : (pc : Int) + off = (tgt : Int)) (kk : G w x nL Q tgt L S σ) : G w x nL Q pc L (.int u :: S) σ := by
  obtain ⟨p, e, R, s, m, args, below, meth, c, kc, ks⟩ := x
  obtain ⟨hx, hb, -⟩ := C
  intro H locs ls hI hS hl
  exact lv_tableIn hx hb hdg h1 h2 ho ht (kk H locs ls hI hS hl)
theorem G.tableOut (C : Cf w x cc nL own fr lo) {dflt a b : Int} {offs : Array Int} {len : Nat} {u : Int32} {tgt : Nat} (hdg : decode cc pc = .ok (.tableswitch dflt a b offs, len)) (h : u.toInt < a ∨ b < u.toInt) (ht : (pc : Int) + dflt = (tgt : Int)) (kk : G w x nL Q tgt L S σ) : G w x nL Q pc L (.int u :: S) σ := by
  obtain ⟨p, e, R, s, m, args, below, meth, c, kc, ks⟩ := x
  obtain ⟨hx, hb, -⟩ := C
  intro H locs ls hI hS hl
  exact lv_tableOut hx hb hdg h ht (kk H locs ls hI hS hl)
/-- a switch's cases, one by one: the number is one of them, or none -/
theorem G.table (C : Cf w x cc nL own fr lo) {dflt a b : Int} {offs : Array Int} {len : Nat} {u : Int32} (hdg : decode cc pc = .ok (.tableswitch dflt a b offs, len)) (kin : ∀ (j : Nat) (off : Int), u.toInt = a + (j : Int) → u.toInt ≤ b → offs[j]? = some off → ∃ tgt : Nat, (pc : Int) + off = (tgt : Int) ∧ G w x nL Q tgt L S σ) (hz : (b - a + 1).toNat ≤ offs.size) (kout : u.toInt < a ∨ b < u.toInt → ∃ tgt : Nat, (pc : Int) + dflt = (tgt : Int) ∧ G w x nL Q tgt L S σ) : G w x nL Q pc L (.int u :: S) σ := by
  by_cases h1 : u.toInt < a
  · obtain ⟨tgt, ht, kk⟩ := kout (Or.inl h1)
    exact G.tableOut C hdg (Or.inl h1) ht kk
  · by_cases h2 : b < u.toInt
    · obtain ⟨tgt, ht, kk⟩ := kout (Or.inr h2)
      exact G.tableOut C hdg (Or.inr h2) ht kk
    · have hlt : (u.toInt - a).toNat < offs.size := w_tab h1 h2 hz
      obtain ⟨tgt, ht, kk⟩ := kin (u.toInt - a).toNat offs[(u.toInt - a).toNat] (w_tab2 h1) (Int.not_lt.mp h2) (Array.getElem?_eq_getElem hlt)
      exact G.tableIn C hdg h1 h2 (Array.getElem?_eq_getElem hlt) ht kk
end GCALL
