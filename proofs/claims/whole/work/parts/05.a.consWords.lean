/-! PART 05.a: the words of the constructors -/
theorem uj_RL_7 : Cond.classLink RL 7 RX5 ∈ wsU := wU_of 62 (by decide +kernel) rfl
theorem un_RX5 : Cond.instantiable RX5 8 ∈ wsU := wU_of 63 (by decide +kernel) rfl
theorem ul_RX5_o : Cond.methodLink RX5 1 Lib.objectInit ∈ wsU := wU_of 67 (by decide +kernel) rfl
theorem uj_RX5_7 : Cond.classLink RX5 7 RX3 ∈ wsU := wU_of 70 (by decide +kernel) rfl
theorem un_RX3 : Cond.instantiable RX3 8 ∈ wsU := wU_of 71 (by decide +kernel) rfl
theorem ul_RX3_o : Cond.methodLink RX3 3 Lib.objectInit ∈ wsU := wU_of 75 (by decide +kernel) rfl
theorem uj_RX3_25 : Cond.classLink RX3 25 RX4 ∈ wsU := wU_of 76 (by decide +kernel) rfl
theorem uo_RX4 : Cond.arrayOver (.object RX4) ∈ lw_tbl := List.mem_of_getElem? (i := 77) (by decide +kernel)
theorem uj_RX3_37 : Cond.classLink RX3 37 "[[I" ∈ wsU := wU_of 78 (by decide +kernel) rfl
theorem uo_int : Cond.arrayOver (.array .int) ∈ lw_tbl := List.mem_of_getElem? (i := 79) (by decide +kernel)
theorem un_RX4 : Cond.instantiable RX4 2 ∈ wsU := wU_of 80 (by decide +kernel) rfl
theorem ul_RX4_o : Cond.methodLink RX4 3 Lib.objectInit ∈ wsU := wU_of 84 (by decide +kernel) rfl
theorem ua_int : Cond.arrayClass .int ∈ wsU := wU_of 94 (by decide +kernel) rfl
theorem uj_RX5_16 : Cond.classLink RX5 16 RX0 ∈ wsU := wU_of 126 (by decide +kernel) rfl
theorem un_RX0 : Cond.instantiable RX0 5 ∈ wsU := wU_of 127 (by decide +kernel) rfl
theorem ul_RX0_o : Cond.methodLink RX0 3 Lib.objectInit ∈ wsU := wU_of 131 (by decide +kernel) rfl
theorem uj_RX5_23 : Cond.classLink RX5 23 RX2 ∈ wsU := wU_of 152 (by decide +kernel) rfl
theorem uo_RX2 : Cond.arrayOver (.object RX2) ∈ lw_tbl := List.mem_of_getElem? (i := 153) (by decide +kernel)
theorem uj_RX5_33 : Cond.classLink RX5 33 RX4 ∈ wsU := wU_of 154 (by decide +kernel) rfl
theorem uj_RX5_42 : Cond.classLink RX5 42 RX1 ∈ wsU := wU_of 155 (by decide +kernel) rfl
theorem uo_RX1 : Cond.arrayOver (.object RX1) ∈ lw_tbl := List.mem_of_getElem? (i := 156) (by decide +kernel)
theorem un_RX2 : Cond.instantiable RX2 7 ∈ wsU := wU_of 157 (by decide +kernel) rfl
theorem ul_RX2_o : Cond.methodLink RX2 3 Lib.objectInit ∈ wsU := wU_of 161 (by decide +kernel) rfl
theorem uj_RX2_30 : Cond.classLink RX2 30 RX1 ∈ wsU := wU_of 162 (by decide +kernel) rfl
theorem un_RX1 : Cond.instantiable RX1 2 ∈ wsU := wU_of 163 (by decide +kernel) rfl
theorem ul_RX1_o : Cond.methodLink RX1 3 Lib.objectInit ∈ wsU := wU_of 167 (by decide +kernel) rfl
theorem uj_RL_10 : Cond.classLink RL 10 RX6 ∈ wsU := wU_of 552 (by decide +kernel) rfl
theorem un_RX6 : Cond.instantiable RX6 23 ∈ wsU := wU_of 553 (by decide +kernel) rfl
theorem ul_RX6_o : Cond.methodLink RX6 1 Lib.objectInit ∈ wsU := wU_of 557 (by decide +kernel) rfl
theorem ui_obj : Cond.instanceMethod Lib.objectInit ∈ wsU := wU_of 68 (by decide +kernel) rfl
theorem uc_obj : Cond.code Lib.objectInit ⟨#[0xb1]⟩ 1 none ∈ wsU := wU_of 69 (by decide +kernel) rfl
def wIni (y : MethodName) (cc : ByteArray) (nL : Nat) : Prop := Cond.instanceMethod y ∈ wsU ∧ Cond.initialized y.cls ∈ wsU ∧ Cond.code y cc nL none ∈ wsU ∧ y.name = "<init>" ∧ y.cls ≠ "java/lang/invoke/MethodHandle" ∧ y.cls ≠ "java/lang/invoke/VarHandle" ∧ (parseMethodDescriptor y.desc).map (fun d => d.parameters.length) = some 0
theorem uy_X0 : wIni yX0_init cX0_init 1 := ⟨wU_of 129 (by decide +kernel) rfl, wU_of 56 (by decide +kernel) rfl, wU_of 130 (by decide +kernel) rfl, rfl, by decide +kernel, by decide +kernel, by decide +kernel⟩
theorem uy_X1 : wIni yX1_init cX1_init 1 := ⟨wU_of 165 (by decide +kernel) rfl, wU_of 58 (by decide +kernel) rfl, wU_of 166 (by decide +kernel) rfl, rfl, by decide +kernel, by decide +kernel, by decide +kernel⟩
theorem uy_X2 : wIni yX2_init cX2_init 1 := ⟨wU_of 159 (by decide +kernel) rfl, wU_of 57 (by decide +kernel) rfl, wU_of 160 (by decide +kernel) rfl, rfl, by decide +kernel, by decide +kernel, by decide +kernel⟩
theorem uy_X3 : wIni yX3_init cX3_init 2 := ⟨wU_of 73 (by decide +kernel) rfl, wU_of 54 (by decide +kernel) rfl, wU_of 74 (by decide +kernel) rfl, rfl, by decide +kernel, by decide +kernel, by decide +kernel⟩
theorem uy_X4 : wIni yX4_init cX4_init 1 := ⟨wU_of 82 (by decide +kernel) rfl, wU_of 55 (by decide +kernel) rfl, wU_of 83 (by decide +kernel) rfl, rfl, by decide +kernel, by decide +kernel, by decide +kernel⟩
theorem uy_X5 : wIni yX5_init cX5_init 2 := ⟨wU_of 65 (by decide +kernel) rfl, wU_of 53 (by decide +kernel) rfl, wU_of 66 (by decide +kernel) rfl, rfl, by decide +kernel, by decide +kernel, by decide +kernel⟩
theorem uy_X6 : wIni yX6_init cX6_init 1 := ⟨wU_of 555 (by decide +kernel) rfl, wU_of 59 (by decide +kernel) rfl, wU_of 556 (by decide +kernel) rfl, rfl, by decide +kernel, by decide +kernel, by decide +kernel⟩
