/-! PART 02.e: by group -/
section GTOP
variable {w : wD} {x : wX} {nL : Nat} {Q : State → Prop} {pc : Nat} {L : List (Nat × Value)} {S : List Value} {σ : wSt}
theorem G.topi {u : Int32} (k : ∀ y : Int32, y = u → G w x nL Q pc L (.int y :: S) σ) : G w x nL Q pc L (.int u :: S) σ := k u rfl
theorem G.sig (k : ∀ τ : wSt, τ = σ → G w x nL Q pc L S τ) : G w x nL Q pc L S σ := k σ rfl
end GTOP
theorem vp_lt {j : Int32} {n : Nat} (h : vp_in j n) : j.toNatClampNeg < n := Nat.not_le.mp fun q => h (Or.inr q)
theorem w_ofInt {u v : Int32} (h : u.toInt = v.toInt) : u = v := Int32.toInt_inj.mp h
theorem wUp_row {σ : wSt} {g i k : Nat} {v : Int32} : (wUp σ g i k v).1 g i = upd (σ.1 g i) k v := by
  funext j
  simp [wUp, upd]
theorem w_up_0_3 {cy : Nat → ClassId} {E : Nat → Nat → Nat} {σ : wSt} {i : Nat} {v : Int32} : wCt cy E (wUp σ 0 i 3 v) 0 i = .inr (5, ([.ref (E 1 0), .ref (E 2 0), .ref (E 3 0), .int (σ.1 0 i 3), .ref (E 4 0), .int (σ.1 0 i 5), .ref (E 5 0), .long (σ.2 0)] : List Value).set 3 (.int v)) := by simp [wCt, wUp]
theorem w_up_0_5 {cy : Nat → ClassId} {E : Nat → Nat → Nat} {σ : wSt} {i : Nat} {v : Int32} : wCt cy E (wUp σ 0 i 5 v) 0 i = .inr (5, ([.ref (E 1 0), .ref (E 2 0), .ref (E 3 0), .int (σ.1 0 i 3), .ref (E 4 0), .int (σ.1 0 i 5), .ref (E 5 0), .long (σ.2 0)] : List Value).set 5 (.int v)) := by simp [wCt, wUp]
theorem w_up_0_7 {cy : Nat → ClassId} {E : Nat → Nat → Nat} {σ : wSt} {i : Nat} {v : Int64} : wCt cy E (wUpL σ 0 v) 0 i = .inr (5, ([.ref (E 1 0), .ref (E 2 0), .ref (E 3 0), .int (σ.1 0 i 3), .ref (E 4 0), .int (σ.1 0 i 5), .ref (E 5 0), .long (σ.2 0)] : List Value).set 7 (.long v)) := by simp [wCt, wUpL]
theorem w_up_1_0 {cy : Nat → ClassId} {E : Nat → Nat → Nat} {σ : wSt} {i : Nat} {v : Int32} : wCt cy E (wUp σ 1 i 0 v) 1 i = .inr (3, ([.int (σ.1 1 i 0), .int (σ.1 1 i 1), .int (σ.1 1 i 2), .ref (E 6 0), .ref (E 7 0), .int (σ.1 1 i 5), .ref (E 8 0), .ref (E 9 0)] : List Value).set 0 (.int v)) := by simp [wCt, wUp]
theorem w_up_1_1 {cy : Nat → ClassId} {E : Nat → Nat → Nat} {σ : wSt} {i : Nat} {v : Int32} : wCt cy E (wUp σ 1 i 1 v) 1 i = .inr (3, ([.int (σ.1 1 i 0), .int (σ.1 1 i 1), .int (σ.1 1 i 2), .ref (E 6 0), .ref (E 7 0), .int (σ.1 1 i 5), .ref (E 8 0), .ref (E 9 0)] : List Value).set 1 (.int v)) := by simp [wCt, wUp]
theorem w_up_1_2 {cy : Nat → ClassId} {E : Nat → Nat → Nat} {σ : wSt} {i : Nat} {v : Int32} : wCt cy E (wUp σ 1 i 2 v) 1 i = .inr (3, ([.int (σ.1 1 i 0), .int (σ.1 1 i 1), .int (σ.1 1 i 2), .ref (E 6 0), .ref (E 7 0), .int (σ.1 1 i 5), .ref (E 8 0), .ref (E 9 0)] : List Value).set 2 (.int v)) := by simp [wCt, wUp]
theorem w_up_1_5 {cy : Nat → ClassId} {E : Nat → Nat → Nat} {σ : wSt} {i : Nat} {v : Int32} : wCt cy E (wUp σ 1 i 5 v) 1 i = .inr (3, ([.int (σ.1 1 i 0), .int (σ.1 1 i 1), .int (σ.1 1 i 2), .ref (E 6 0), .ref (E 7 0), .int (σ.1 1 i 5), .ref (E 8 0), .ref (E 9 0)] : List Value).set 5 (.int v)) := by simp [wCt, wUp]
theorem w_up_2_0 {cy : Nat → ClassId} {E : Nat → Nat → Nat} {σ : wSt} {i : Nat} {v : Int32} : wCt cy E (wUp σ 2 i 0 v) 2 i = .inr (0, ([.int (σ.1 2 i 0), .int (σ.1 2 i 1), .ref (E 12 0), .ref (E 13 0), .int (σ.1 2 i 4)] : List Value).set 0 (.int v)) := by simp [wCt, wUp]
theorem w_up_2_1 {cy : Nat → ClassId} {E : Nat → Nat → Nat} {σ : wSt} {i : Nat} {v : Int32} : wCt cy E (wUp σ 2 i 1 v) 2 i = .inr (0, ([.int (σ.1 2 i 0), .int (σ.1 2 i 1), .ref (E 12 0), .ref (E 13 0), .int (σ.1 2 i 4)] : List Value).set 1 (.int v)) := by simp [wCt, wUp]
theorem w_up_2_4 {cy : Nat → ClassId} {E : Nat → Nat → Nat} {σ : wSt} {i : Nat} {v : Int32} : wCt cy E (wUp σ 2 i 4 v) 2 i = .inr (0, ([.int (σ.1 2 i 0), .int (σ.1 2 i 1), .ref (E 12 0), .ref (E 13 0), .int (σ.1 2 i 4)] : List Value).set 4 (.int v)) := by simp [wCt, wUp]
theorem w_up_11_0 {cy : Nat → ClassId} {E : Nat → Nat → Nat} {σ : wSt} {i : Nat} {v : Int32} : wCt cy E (wUp σ 11 i 0 v) 11 i = .inr (4, ([.int (σ.1 11 i 0), .int (σ.1 11 i 1)] : List Value).set 0 (.int v)) := by simp [wCt, wUp]
theorem w_up_11_1 {cy : Nat → ClassId} {E : Nat → Nat → Nat} {σ : wSt} {i : Nat} {v : Int32} : wCt cy E (wUp σ 11 i 1 v) 11 i = .inr (4, ([.int (σ.1 11 i 0), .int (σ.1 11 i 1)] : List Value).set 1 (.int v)) := by simp [wCt, wUp]
theorem w_up_14_0 {cy : Nat → ClassId} {E : Nat → Nat → Nat} {σ : wSt} {i : Nat} {v : Int32} : wCt cy E (wUp σ 14 i 0 v) 14 i = .inr (2, ([.int (σ.1 14 i 0), .int (σ.1 14 i 1), .int (σ.1 14 i 2), .int (σ.1 14 i 3), .int (σ.1 14 i 4), .int (σ.1 14 i 5), .ref (E 15 i)] : List Value).set 0 (.int v)) := by simp [wCt, wUp]
theorem w_up_14_1 {cy : Nat → ClassId} {E : Nat → Nat → Nat} {σ : wSt} {i : Nat} {v : Int32} : wCt cy E (wUp σ 14 i 1 v) 14 i = .inr (2, ([.int (σ.1 14 i 0), .int (σ.1 14 i 1), .int (σ.1 14 i 2), .int (σ.1 14 i 3), .int (σ.1 14 i 4), .int (σ.1 14 i 5), .ref (E 15 i)] : List Value).set 1 (.int v)) := by simp [wCt, wUp]
theorem w_up_14_2 {cy : Nat → ClassId} {E : Nat → Nat → Nat} {σ : wSt} {i : Nat} {v : Int32} : wCt cy E (wUp σ 14 i 2 v) 14 i = .inr (2, ([.int (σ.1 14 i 0), .int (σ.1 14 i 1), .int (σ.1 14 i 2), .int (σ.1 14 i 3), .int (σ.1 14 i 4), .int (σ.1 14 i 5), .ref (E 15 i)] : List Value).set 2 (.int v)) := by simp [wCt, wUp]
theorem w_up_14_3 {cy : Nat → ClassId} {E : Nat → Nat → Nat} {σ : wSt} {i : Nat} {v : Int32} : wCt cy E (wUp σ 14 i 3 v) 14 i = .inr (2, ([.int (σ.1 14 i 0), .int (σ.1 14 i 1), .int (σ.1 14 i 2), .int (σ.1 14 i 3), .int (σ.1 14 i 4), .int (σ.1 14 i 5), .ref (E 15 i)] : List Value).set 3 (.int v)) := by simp [wCt, wUp]
theorem w_up_14_4 {cy : Nat → ClassId} {E : Nat → Nat → Nat} {σ : wSt} {i : Nat} {v : Int32} : wCt cy E (wUp σ 14 i 4 v) 14 i = .inr (2, ([.int (σ.1 14 i 0), .int (σ.1 14 i 1), .int (σ.1 14 i 2), .int (σ.1 14 i 3), .int (σ.1 14 i 4), .int (σ.1 14 i 5), .ref (E 15 i)] : List Value).set 4 (.int v)) := by simp [wCt, wUp]
theorem w_up_14_5 {cy : Nat → ClassId} {E : Nat → Nat → Nat} {σ : wSt} {i : Nat} {v : Int32} : wCt cy E (wUp σ 14 i 5 v) 14 i = .inr (2, ([.int (σ.1 14 i 0), .int (σ.1 14 i 1), .int (σ.1 14 i 2), .int (σ.1 14 i 3), .int (σ.1 14 i 4), .int (σ.1 14 i 5), .ref (E 15 i)] : List Value).set 5 (.int v)) := by simp [wCt, wUp]
theorem w_up_15_1 {cy : Nat → ClassId} {E : Nat → Nat → Nat} {σ : wSt} {i : Nat} {v : Int32} : wCt cy E (wUp σ 15 i 1 v) 15 i = .inr (1, ([.ref (E 16 i), .int (σ.1 15 i 1)] : List Value).set 1 (.int v)) := by simp [wCt, wUp]
theorem w_up_17_0 {cy : Nat → ClassId} {E : Nat → Nat → Nat} {σ : wSt} {i : Nat} {v : Int32} : wCt cy E (wUp σ 17 i 0 v) 17 i = .inr (4, ([.int (σ.1 17 i 0), .int (σ.1 17 i 1)] : List Value).set 0 (.int v)) := by simp [wCt, wUp]
theorem w_up_17_1 {cy : Nat → ClassId} {E : Nat → Nat → Nat} {σ : wSt} {i : Nat} {v : Int32} : wCt cy E (wUp σ 17 i 1 v) 17 i = .inr (4, ([.int (σ.1 17 i 0), .int (σ.1 17 i 1)] : List Value).set 1 (.int v)) := by simp [wCt, wUp]
theorem w_up_18_1 {cy : Nat → ClassId} {E : Nat → Nat → Nat} {σ : wSt} {i : Nat} {v : Int32} : wCt cy E (wUp σ 18 i 1 v) 18 i = .inr (1, ([.ref (E 19 i), .int (σ.1 18 i 1)] : List Value).set 1 (.int v)) := by simp [wCt, wUp]
theorem w_up_20_0 {cy : Nat → ClassId} {E : Nat → Nat → Nat} {σ : wSt} {i : Nat} {v : Int32} : wCt cy E (wUp σ 20 i 0 v) 20 i = .inr (6, ([.int (σ.1 20 i 0), .long (σ.2 1), .int (σ.1 20 i 2), .ref (E 21 0), .ref (E 22 0), .ref (E 23 0), .ref (E 24 0), .int (σ.1 20 i 7), .ref (E 25 0), .ref (E 26 0), .ref (E 27 0), .ref (E 28 0), .ref (E 29 0), .ref (E 30 0), .int (σ.1 20 i 14), .ref (E 31 0), .ref (E 32 0), .int (σ.1 20 i 17), .ref (E 33 0), .ref (E 34 0), .ref (E 35 0), .ref (E 36 0), .ref (E 37 0)] : List Value).set 0 (.int v)) := by simp [wCt, wUp]
theorem w_up_20_2 {cy : Nat → ClassId} {E : Nat → Nat → Nat} {σ : wSt} {i : Nat} {v : Int32} : wCt cy E (wUp σ 20 i 2 v) 20 i = .inr (6, ([.int (σ.1 20 i 0), .long (σ.2 1), .int (σ.1 20 i 2), .ref (E 21 0), .ref (E 22 0), .ref (E 23 0), .ref (E 24 0), .int (σ.1 20 i 7), .ref (E 25 0), .ref (E 26 0), .ref (E 27 0), .ref (E 28 0), .ref (E 29 0), .ref (E 30 0), .int (σ.1 20 i 14), .ref (E 31 0), .ref (E 32 0), .int (σ.1 20 i 17), .ref (E 33 0), .ref (E 34 0), .ref (E 35 0), .ref (E 36 0), .ref (E 37 0)] : List Value).set 2 (.int v)) := by simp [wCt, wUp]
theorem w_up_20_7 {cy : Nat → ClassId} {E : Nat → Nat → Nat} {σ : wSt} {i : Nat} {v : Int32} : wCt cy E (wUp σ 20 i 7 v) 20 i = .inr (6, ([.int (σ.1 20 i 0), .long (σ.2 1), .int (σ.1 20 i 2), .ref (E 21 0), .ref (E 22 0), .ref (E 23 0), .ref (E 24 0), .int (σ.1 20 i 7), .ref (E 25 0), .ref (E 26 0), .ref (E 27 0), .ref (E 28 0), .ref (E 29 0), .ref (E 30 0), .int (σ.1 20 i 14), .ref (E 31 0), .ref (E 32 0), .int (σ.1 20 i 17), .ref (E 33 0), .ref (E 34 0), .ref (E 35 0), .ref (E 36 0), .ref (E 37 0)] : List Value).set 7 (.int v)) := by simp [wCt, wUp]
theorem w_up_20_14 {cy : Nat → ClassId} {E : Nat → Nat → Nat} {σ : wSt} {i : Nat} {v : Int32} : wCt cy E (wUp σ 20 i 14 v) 20 i = .inr (6, ([.int (σ.1 20 i 0), .long (σ.2 1), .int (σ.1 20 i 2), .ref (E 21 0), .ref (E 22 0), .ref (E 23 0), .ref (E 24 0), .int (σ.1 20 i 7), .ref (E 25 0), .ref (E 26 0), .ref (E 27 0), .ref (E 28 0), .ref (E 29 0), .ref (E 30 0), .int (σ.1 20 i 14), .ref (E 31 0), .ref (E 32 0), .int (σ.1 20 i 17), .ref (E 33 0), .ref (E 34 0), .ref (E 35 0), .ref (E 36 0), .ref (E 37 0)] : List Value).set 14 (.int v)) := by simp [wCt, wUp]
theorem w_up_20_17 {cy : Nat → ClassId} {E : Nat → Nat → Nat} {σ : wSt} {i : Nat} {v : Int32} : wCt cy E (wUp σ 20 i 17 v) 20 i = .inr (6, ([.int (σ.1 20 i 0), .long (σ.2 1), .int (σ.1 20 i 2), .ref (E 21 0), .ref (E 22 0), .ref (E 23 0), .ref (E 24 0), .int (σ.1 20 i 7), .ref (E 25 0), .ref (E 26 0), .ref (E 27 0), .ref (E 28 0), .ref (E 29 0), .ref (E 30 0), .int (σ.1 20 i 14), .ref (E 31 0), .ref (E 32 0), .int (σ.1 20 i 17), .ref (E 33 0), .ref (E 34 0), .ref (E 35 0), .ref (E 36 0), .ref (E 37 0)] : List Value).set 17 (.int v)) := by simp [wCt, wUp]
theorem w_up_20_1 {cy : Nat → ClassId} {E : Nat → Nat → Nat} {σ : wSt} {i : Nat} {v : Int64} : wCt cy E (wUpL σ 1 v) 20 i = .inr (6, ([.int (σ.1 20 i 0), .long (σ.2 1), .int (σ.1 20 i 2), .ref (E 21 0), .ref (E 22 0), .ref (E 23 0), .ref (E 24 0), .int (σ.1 20 i 7), .ref (E 25 0), .ref (E 26 0), .ref (E 27 0), .ref (E 28 0), .ref (E 29 0), .ref (E 30 0), .int (σ.1 20 i 14), .ref (E 31 0), .ref (E 32 0), .int (σ.1 20 i 17), .ref (E 33 0), .ref (E 34 0), .ref (E 35 0), .ref (E 36 0), .ref (E 37 0)] : List Value).set 1 (.long v)) := by simp [wCt, wUpL]
theorem w_ast_6 {cy : Nat → ClassId} {E : Nat → Nat → Nat} {σ : wSt} {i k : Nat} {v : Int32} : wCt cy E (wUp σ 6 i k v) 6 i = .inl (cy 0, wLen 6, .inl (upd (σ.1 6 i) k v)) := by
  show Sum.inl (cy 0, wLen 6, Sum.inl ((wUp σ 6 i k v).1 6 i)) = _
  rw [wUp_row]
theorem w_ast_8 {cy : Nat → ClassId} {E : Nat → Nat → Nat} {σ : wSt} {i k : Nat} {v : Int32} : wCt cy E (wUp σ 8 i k v) 8 i = .inl (cy 0, wLen 8, .inl (upd (σ.1 8 i) k v)) := by
  show Sum.inl (cy 0, wLen 8, Sum.inl ((wUp σ 8 i k v).1 8 i)) = _
  rw [wUp_row]
theorem w_ast_10 {cy : Nat → ClassId} {E : Nat → Nat → Nat} {σ : wSt} {i k : Nat} {v : Int32} : wCt cy E (wUp σ 10 i k v) 10 i = .inl (cy 0, wLen 10, .inl (upd (σ.1 10 i) k v)) := by
  show Sum.inl (cy 0, wLen 10, Sum.inl ((wUp σ 10 i k v).1 10 i)) = _
  rw [wUp_row]
theorem w_ast_12 {cy : Nat → ClassId} {E : Nat → Nat → Nat} {σ : wSt} {i k : Nat} {v : Int32} : wCt cy E (wUp σ 12 i k v) 12 i = .inl (cy 0, wLen 12, .inl (upd (σ.1 12 i) k v)) := by
  show Sum.inl (cy 0, wLen 12, Sum.inl ((wUp σ 12 i k v).1 12 i)) = _
  rw [wUp_row]
theorem w_ast_13 {cy : Nat → ClassId} {E : Nat → Nat → Nat} {σ : wSt} {i k : Nat} {v : Int32} : wCt cy E (wUp σ 13 i k v) 13 i = .inl (cy 0, wLen 13, .inl (upd (σ.1 13 i) k v)) := by
  show Sum.inl (cy 0, wLen 13, Sum.inl ((wUp σ 13 i k v).1 13 i)) = _
  rw [wUp_row]
theorem w_ast_16 {cy : Nat → ClassId} {E : Nat → Nat → Nat} {σ : wSt} {i k : Nat} {v : Int32} : wCt cy E (wUp σ 16 i k v) 16 i = .inl (cy 0, wLen 16, .inl (upd (σ.1 16 i) k v)) := by
  show Sum.inl (cy 0, wLen 16, Sum.inl ((wUp σ 16 i k v).1 16 i)) = _
  rw [wUp_row]
theorem w_ast_19 {cy : Nat → ClassId} {E : Nat → Nat → Nat} {σ : wSt} {i k : Nat} {v : Int32} : wCt cy E (wUp σ 19 i k v) 19 i = .inl (cy 0, wLen 19, .inl (upd (σ.1 19 i) k v)) := by
  show Sum.inl (cy 0, wLen 19, Sum.inl ((wUp σ 19 i k v).1 19 i)) = _
  rw [wUp_row]
theorem w_ast_21 {cy : Nat → ClassId} {E : Nat → Nat → Nat} {σ : wSt} {i k : Nat} {v : Int32} : wCt cy E (wUp σ 21 i k v) 21 i = .inl (cy 0, wLen 21, .inl (upd (σ.1 21 i) k v)) := by
  show Sum.inl (cy 0, wLen 21, Sum.inl ((wUp σ 21 i k v).1 21 i)) = _
  rw [wUp_row]
theorem w_ast_22 {cy : Nat → ClassId} {E : Nat → Nat → Nat} {σ : wSt} {i k : Nat} {v : Int32} : wCt cy E (wUp σ 22 i k v) 22 i = .inl (cy 0, wLen 22, .inl (upd (σ.1 22 i) k v)) := by
  show Sum.inl (cy 0, wLen 22, Sum.inl ((wUp σ 22 i k v).1 22 i)) = _
  rw [wUp_row]
theorem w_ast_23 {cy : Nat → ClassId} {E : Nat → Nat → Nat} {σ : wSt} {i k : Nat} {v : Int32} : wCt cy E (wUp σ 23 i k v) 23 i = .inl (cy 0, wLen 23, .inl (upd (σ.1 23 i) k v)) := by
  show Sum.inl (cy 0, wLen 23, Sum.inl ((wUp σ 23 i k v).1 23 i)) = _
  rw [wUp_row]
theorem w_ast_24 {cy : Nat → ClassId} {E : Nat → Nat → Nat} {σ : wSt} {i k : Nat} {v : Int32} : wCt cy E (wUp σ 24 i k v) 24 i = .inl (cy 0, wLen 24, .inl (upd (σ.1 24 i) k v)) := by
  show Sum.inl (cy 0, wLen 24, Sum.inl ((wUp σ 24 i k v).1 24 i)) = _
  rw [wUp_row]
theorem w_ast_25 {cy : Nat → ClassId} {E : Nat → Nat → Nat} {σ : wSt} {i k : Nat} {v : Int32} : wCt cy E (wUp σ 25 i k v) 25 i = .inl (cy 0, wLen 25, .inl (upd (σ.1 25 i) k v)) := by
  show Sum.inl (cy 0, wLen 25, Sum.inl ((wUp σ 25 i k v).1 25 i)) = _
  rw [wUp_row]
theorem w_ast_26 {cy : Nat → ClassId} {E : Nat → Nat → Nat} {σ : wSt} {i k : Nat} {v : Int32} : wCt cy E (wUp σ 26 i k v) 26 i = .inl (cy 0, wLen 26, .inl (upd (σ.1 26 i) k v)) := by
  show Sum.inl (cy 0, wLen 26, Sum.inl ((wUp σ 26 i k v).1 26 i)) = _
  rw [wUp_row]
theorem w_ast_27 {cy : Nat → ClassId} {E : Nat → Nat → Nat} {σ : wSt} {i k : Nat} {v : Int32} : wCt cy E (wUp σ 27 i k v) 27 i = .inl (cy 0, wLen 27, .inl (upd (σ.1 27 i) k v)) := by
  show Sum.inl (cy 0, wLen 27, Sum.inl ((wUp σ 27 i k v).1 27 i)) = _
  rw [wUp_row]
theorem w_ast_28 {cy : Nat → ClassId} {E : Nat → Nat → Nat} {σ : wSt} {i k : Nat} {v : Int32} : wCt cy E (wUp σ 28 i k v) 28 i = .inl (cy 0, wLen 28, .inl (upd (σ.1 28 i) k v)) := by
  show Sum.inl (cy 0, wLen 28, Sum.inl ((wUp σ 28 i k v).1 28 i)) = _
  rw [wUp_row]
theorem w_ast_29 {cy : Nat → ClassId} {E : Nat → Nat → Nat} {σ : wSt} {i k : Nat} {v : Int32} : wCt cy E (wUp σ 29 i k v) 29 i = .inl (cy 0, wLen 29, .inl (upd (σ.1 29 i) k v)) := by
  show Sum.inl (cy 0, wLen 29, Sum.inl ((wUp σ 29 i k v).1 29 i)) = _
  rw [wUp_row]
theorem w_ast_30 {cy : Nat → ClassId} {E : Nat → Nat → Nat} {σ : wSt} {i k : Nat} {v : Int32} : wCt cy E (wUp σ 30 i k v) 30 i = .inl (cy 0, wLen 30, .inl (upd (σ.1 30 i) k v)) := by
  show Sum.inl (cy 0, wLen 30, Sum.inl ((wUp σ 30 i k v).1 30 i)) = _
  rw [wUp_row]
theorem w_ast_31 {cy : Nat → ClassId} {E : Nat → Nat → Nat} {σ : wSt} {i k : Nat} {v : Int32} : wCt cy E (wUp σ 31 i k v) 31 i = .inl (cy 0, wLen 31, .inl (upd (σ.1 31 i) k v)) := by
  show Sum.inl (cy 0, wLen 31, Sum.inl ((wUp σ 31 i k v).1 31 i)) = _
  rw [wUp_row]
theorem w_ast_32 {cy : Nat → ClassId} {E : Nat → Nat → Nat} {σ : wSt} {i k : Nat} {v : Int32} : wCt cy E (wUp σ 32 i k v) 32 i = .inl (cy 0, wLen 32, .inl (upd (σ.1 32 i) k v)) := by
  show Sum.inl (cy 0, wLen 32, Sum.inl ((wUp σ 32 i k v).1 32 i)) = _
  rw [wUp_row]
theorem w_ast_33 {cy : Nat → ClassId} {E : Nat → Nat → Nat} {σ : wSt} {i k : Nat} {v : Int32} : wCt cy E (wUp σ 33 i k v) 33 i = .inl (cy 0, wLen 33, .inl (upd (σ.1 33 i) k v)) := by
  show Sum.inl (cy 0, wLen 33, Sum.inl ((wUp σ 33 i k v).1 33 i)) = _
  rw [wUp_row]
theorem w_ast_34 {cy : Nat → ClassId} {E : Nat → Nat → Nat} {σ : wSt} {i k : Nat} {v : Int32} : wCt cy E (wUp σ 34 i k v) 34 i = .inl (cy 0, wLen 34, .inl (upd (σ.1 34 i) k v)) := by
  show Sum.inl (cy 0, wLen 34, Sum.inl ((wUp σ 34 i k v).1 34 i)) = _
  rw [wUp_row]
theorem w_ast_35 {cy : Nat → ClassId} {E : Nat → Nat → Nat} {σ : wSt} {i k : Nat} {v : Int32} : wCt cy E (wUp σ 35 i k v) 35 i = .inl (cy 0, wLen 35, .inl (upd (σ.1 35 i) k v)) := by
  show Sum.inl (cy 0, wLen 35, Sum.inl ((wUp σ 35 i k v).1 35 i)) = _
  rw [wUp_row]
theorem w_ast_36 {cy : Nat → ClassId} {E : Nat → Nat → Nat} {σ : wSt} {i k : Nat} {v : Int32} : wCt cy E (wUp σ 36 i k v) 36 i = .inl (cy 0, wLen 36, .inl (upd (σ.1 36 i) k v)) := by
  show Sum.inl (cy 0, wLen 36, Sum.inl ((wUp σ 36 i k v).1 36 i)) = _
  rw [wUp_row]
theorem w_ast_37 {cy : Nat → ClassId} {E : Nat → Nat → Nat} {σ : wSt} {i k : Nat} {v : Int32} : wCt cy E (wUp σ 37 i k v) 37 i = .inl (cy 0, wLen 37, .inl (upd (σ.1 37 i) k v)) := by
  show Sum.inl (cy 0, wLen 37, Sum.inl ((wUp σ 37 i k v).1 37 i)) = _
  rw [wUp_row]
theorem unf_RX5_77 : wLink RX5 77 "PlateRoom$Years" "first" "I" (some "PlateRoom") := List.mem_of_getElem? (i := 0) rfl
theorem unf_RX5_80 : wLink RX5 80 "PlateRoom$Years" "last" "I" (some "PlateRoom") := List.mem_of_getElem? (i := 1) rfl
theorem unf_RX5_229 : wLink RX5 229 "PlateRoom$Plate" "cut" "I" (some "PlateRoom") := List.mem_of_getElem? (i := 2) rfl
theorem unf_RX5_232 : wLink RX5 232 "PlateRoom$Plate" "rub" "I" (some "PlateRoom") := List.mem_of_getElem? (i := 3) rfl
theorem unf_RX5_235 : wLink RX5 235 "PlateRoom$Plate" "again" "I" (some "PlateRoom") := List.mem_of_getElem? (i := 4) rfl
theorem unf_RX5_70 : wLink RX5 70 "PlateRoom$Plate" "lines" "[I" (some "PlateRoom") := List.mem_of_getElem? (i := 5) rfl
theorem unf_RX5_74 : wLink RX5 74 "PlateRoom$Plate" "years" "[LPlateRoom$Years;" (some "PlateRoom") := List.mem_of_getElem? (i := 6) rfl
theorem unf_RX5_100 : wLink RX5 100 "PlateRoom$Plate" "stateCount" "I" (some "PlateRoom") := List.mem_of_getElem? (i := 7) rfl
theorem unf_RX5_238 : wLink RX5 238 "PlateRoom$Copies" "loss" "I" (some "PlateRoom") := List.mem_of_getElem? (i := 8) rfl
theorem unf_RX5_241 : wLink RX5 241 "PlateRoom$Copies" "alone" "I" (some "PlateRoom") := List.mem_of_getElem? (i := 9) rfl
theorem unf_RX5_187 : wLink RX5 187 "PlateRoom$Copies" "errors" "[I" (some "PlateRoom") := List.mem_of_getElem? (i := 10) rfl
theorem unf_RX5_223 : wLink RX5 223 "PlateRoom$Copies" "mapCount" "I" (some "PlateRoom") := List.mem_of_getElem? (i := 11) rfl
theorem unf_RX5_268 : wLink RX5 268 "PlateRoom$Holes" "placeCount" "I" (some "PlateRoom") := List.mem_of_getElem? (i := 12) rfl
theorem unf_RX5_244 : wLink RX5 244 "PlateRoom$Leaf" "there" "I" (some "PlateRoom") := List.mem_of_getElem? (i := 13) rfl
theorem unf_RX5_247 : wLink RX5 247 "PlateRoom$Leaf" "gone" "I" (some "PlateRoom") := List.mem_of_getElem? (i := 14) rfl
theorem unf_RX5_258 : wLink RX5 258 "PlateRoom$Leaf" "worth" "I" (some "PlateRoom") := List.mem_of_getElem? (i := 15) rfl
theorem unf_RX5_263 : wLink RX5 263 "PlateRoom$Leaf" "colour" "I" (some "PlateRoom") := List.mem_of_getElem? (i := 16) rfl
theorem unf_RX5_133 : wLink RX5 133 "PlateRoom$Leaf" "mould" "I" (some "PlateRoom") := List.mem_of_getElem? (i := 17) rfl
theorem unf_RX5_139 : wLink RX5 139 "PlateRoom$Leaf" "imprint" "I" (some "PlateRoom") := List.mem_of_getElem? (i := 18) rfl
theorem unf_RX5_196 : wLink RX5 196 "PlateRoom$Leaf" "holes" "LPlateRoom$Holes;" (some "PlateRoom") := List.mem_of_getElem? (i := 19) rfl
theorem unm_RX5_9 : wLinkM RX5 9 yX3_init (some "PlateRoom") := List.mem_of_getElem? (i := 0) rfl
theorem unm_RX3_42 : wLinkM RX3 42 yX4_init (some "PlateRoom") := List.mem_of_getElem? (i := 1) rfl
theorem unm_RX5_18 : wLinkM RX5 18 yX0_init (some "PlateRoom") := List.mem_of_getElem? (i := 2) rfl
theorem unm_RX5_52 : wLinkM RX5 52 yX2_init (some "PlateRoom") := List.mem_of_getElem? (i := 3) rfl
theorem unm_RX2_32 : wLinkM RX2 32 yX1_init (some "PlateRoom") := List.mem_of_getElem? (i := 4) rfl
theorem unm_RX5_53 : wLinkM RX5 53 yX4_init (some "PlateRoom") := List.mem_of_getElem? (i := 5) rfl
theorem unm_RX5_54 : wLinkM RX5 54 yX1_init (some "PlateRoom") := List.mem_of_getElem? (i := 6) rfl
theorem unm_RX5_63 : wLinkM RX5 63 yX3_addState (some "PlateRoom") := List.mem_of_getElem? (i := 7) rfl
theorem unm_RX3_43 : wLinkM RX3 43 yX4_put (some "PlateRoom") := List.mem_of_getElem? (i := 8) rfl
theorem unm_RX5_67 : wLinkM RX5 67 yX3_hasState (some "PlateRoom") := List.mem_of_getElem? (i := 9) rfl
theorem unm_RX5_94 : wLinkM RX5 94 yX3_quarrelOf (some "PlateRoom") := List.mem_of_getElem? (i := 10) rfl
theorem unm_RX3_58 : wLinkM RX3 58 yX5_has (some "PlateRoom") := List.mem_of_getElem? (i := 11) rfl
theorem unm_RX5_103 : wLinkM RX5 103 yX3_bestOrder (some "PlateRoom") := List.mem_of_getElem? (i := 12) rfl
theorem unm_RX5_107 : wLinkM RX5 107 yX2_strike (some "PlateRoom") := List.mem_of_getElem? (i := 13) rfl
theorem unm_RX5_117 : wLinkM RX5 117 yX2_lookOf (some "PlateRoom") := List.mem_of_getElem? (i := 14) rfl
theorem unm_RX2_37 : wLinkM RX2 37 yX5_has (some "PlateRoom") := List.mem_of_getElem? (i := 15) rfl
theorem unm_RX5_120 : wLinkM RX5 120 yX2_look (some "PlateRoom") := List.mem_of_getElem? (i := 16) rfl
theorem unm_RX5_250 : wLinkM RX5 250 yX3_statesWith (some "PlateRoom") := List.mem_of_getElem? (i := 17) rfl
theorem unm_RX5_127 : wLinkM RX5 127 yX4_put (some "PlateRoom") := List.mem_of_getElem? (i := 18) rfl
theorem unm_RX5_169 : wLinkM RX5 169 yX0_addMap (some "PlateRoom") := List.mem_of_getElem? (i := 19) rfl
theorem unm_RX5_172 : wLinkM RX5 172 yX0_mayComeFrom (some "PlateRoom") := List.mem_of_getElem? (i := 20) rfl
theorem unm_RX5_175 : wLinkM RX5 175 yX0_costOf (some "PlateRoom") := List.mem_of_getElem? (i := 21) rfl
theorem unm_RX5_178 : wLinkM RX5 178 yX0_hasMap (some "PlateRoom") := List.mem_of_getElem? (i := 22) rfl
theorem unm_RX5_181 : wLinkM RX5 181 yX0_cheapest (some "PlateRoom") := List.mem_of_getElem? (i := 23) rfl
theorem unm_RX5_184 : wLinkM RX5 184 yX0_rivalCount (some "PlateRoom") := List.mem_of_getElem? (i := 24) rfl
theorem unm_RX5_190 : wLinkM RX5 190 yX0_lifeOf (some "PlateRoom") := List.mem_of_getElem? (i := 25) rfl
theorem unm_RX0_53 : wLinkM RX0 53 yX5_has (some "PlateRoom") := List.mem_of_getElem? (i := 26) rfl
theorem unm_RX5_193 : wLinkM RX5 193 yX1_isPlace (some "PlateRoom") := List.mem_of_getElem? (i := 27) rfl
theorem unm_RX5_200 : wLinkM RX5 200 yX1_bore (some "PlateRoom") := List.mem_of_getElem? (i := 28) rfl
theorem unm_RX5_206 : wLinkM RX5 206 yX1_isShift (some "PlateRoom") := List.mem_of_getElem? (i := 29) rfl
theorem unm_RX5_209 : wLinkM RX5 209 yX1_fitting (some "PlateRoom") := List.mem_of_getElem? (i := 30) rfl
theorem unm_RX5_213 : wLinkM RX5 213 yX1_bestShift (some "PlateRoom") := List.mem_of_getElem? (i := 31) rfl
theorem unm_RX5_271 : wLinkM RX5 271 yX1_mostFitting (some "PlateRoom") := List.mem_of_getElem? (i := 32) rfl
