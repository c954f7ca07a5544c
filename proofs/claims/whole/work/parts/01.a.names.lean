-- ===== PART A: goes FIRST, ahead of the names: the tables' words, and 'selects' of the private methods out of them =====
/-- a private method of a class that the tables say can be made, by its rows of tables_1 -/
def lw_okq (q : MethodName × Nat) : Prop := (q.1.cls ≠ "java/lang/invoke/MethodHandle" ∧ q.1.cls ≠ "java/lang/invoke/VarHandle") ∧ Cond.instantiable q.1.cls q.2 ∈ tables_1 ∧ Cond.privateMethod q.1 ∈ tables_1 ∧ Cond.instanceMethod q.1 ∈ tables_1
theorem lw_p0 : lw_okq (⟨"PlateRoom$Plate", "addState", "(III)I"⟩, 8) := ⟨⟨by decide +kernel, by decide +kernel⟩, List.mem_of_getElem? (i := 19) (by decide +kernel), List.mem_of_getElem? (i := 194) (by decide +kernel), List.mem_of_getElem? (i := 195) (by decide +kernel)⟩
theorem lw_p1 : lw_okq (⟨"PlateRoom$Years", "put", "(II)V"⟩, 2) := ⟨⟨by decide +kernel, by decide +kernel⟩, List.mem_of_getElem? (i := 28) (by decide +kernel), List.mem_of_getElem? (i := 198) (by decide +kernel), List.mem_of_getElem? (i := 199) (by decide +kernel)⟩
theorem lw_p2 : lw_okq (⟨"PlateRoom$Plate", "hasState", "(I)Z"⟩, 8) := ⟨⟨by decide +kernel, by decide +kernel⟩, List.mem_of_getElem? (i := 19) (by decide +kernel), List.mem_of_getElem? (i := 206) (by decide +kernel), List.mem_of_getElem? (i := 207) (by decide +kernel)⟩
theorem lw_p3 : lw_okq (⟨"PlateRoom", "chargeOf", "(I)I"⟩, 8) := ⟨⟨by decide +kernel, by decide +kernel⟩, List.mem_of_getElem? (i := 11) (by decide +kernel), List.mem_of_getElem? (i := 217) (by decide +kernel), List.mem_of_getElem? (i := 218) (by decide +kernel)⟩
theorem lw_p4 : lw_okq (⟨"PlateRoom", "putCharge", "(II)V"⟩, 8) := ⟨⟨by decide +kernel, by decide +kernel⟩, List.mem_of_getElem? (i := 11) (by decide +kernel), List.mem_of_getElem? (i := 221) (by decide +kernel), List.mem_of_getElem? (i := 222) (by decide +kernel)⟩
theorem lw_p5 : lw_okq (⟨"PlateRoom$Plate", "quarrelOf", "(I)I"⟩, 8) := ⟨⟨by decide +kernel, by decide +kernel⟩, List.mem_of_getElem? (i := 19) (by decide +kernel), List.mem_of_getElem? (i := 229) (by decide +kernel), List.mem_of_getElem? (i := 230) (by decide +kernel)⟩
theorem lw_p6 : lw_okq (⟨"PlateRoom$Plate", "readOrder", "(I)Z"⟩, 8) := ⟨⟨by decide +kernel, by decide +kernel⟩, List.mem_of_getElem? (i := 19) (by decide +kernel), List.mem_of_getElem? (i := 233) (by decide +kernel), List.mem_of_getElem? (i := 234) (by decide +kernel)⟩
theorem lw_p7 : lw_okq (⟨"PlateRoom$Plate", "stepQuarrel", "(III)I"⟩, 8) := ⟨⟨by decide +kernel, by decide +kernel⟩, List.mem_of_getElem? (i := 19) (by decide +kernel), List.mem_of_getElem? (i := 241) (by decide +kernel), List.mem_of_getElem? (i := 242) (by decide +kernel)⟩
theorem lw_p8 : lw_okq (⟨"PlateRoom$Plate", "bestOrder", "()I"⟩, 8) := ⟨⟨by decide +kernel, by decide +kernel⟩, List.mem_of_getElem? (i := 19) (by decide +kernel), List.mem_of_getElem? (i := 258) (by decide +kernel), List.mem_of_getElem? (i := 259) (by decide +kernel)⟩
theorem lw_p9 : lw_okq (⟨"PlateRoom$Plate", "weighWhatIsToCome", "()V"⟩, 8) := ⟨⟨by decide +kernel, by decide +kernel⟩, List.mem_of_getElem? (i := 19) (by decide +kernel), List.mem_of_getElem? (i := 262) (by decide +kernel), List.mem_of_getElem? (i := 263) (by decide +kernel)⟩
theorem lw_p10 : lw_okq (⟨"PlateRoom$Plate", "bestNext", "(II)I"⟩, 8) := ⟨⟨by decide +kernel, by decide +kernel⟩, List.mem_of_getElem? (i := 19) (by decide +kernel), List.mem_of_getElem? (i := 266) (by decide +kernel), List.mem_of_getElem? (i := 267) (by decide +kernel)⟩
theorem lw_p11 : lw_okq (⟨"PlateRoom$Plate", "quarrelBy", "(III)I"⟩, 8) := ⟨⟨by decide +kernel, by decide +kernel⟩, List.mem_of_getElem? (i := 19) (by decide +kernel), List.mem_of_getElem? (i := 270) (by decide +kernel), List.mem_of_getElem? (i := 271) (by decide +kernel)⟩
theorem lw_p12 : lw_okq (⟨"PlateRoom$Plate", "linesOf", "(I)I"⟩, 8) := ⟨⟨by decide +kernel, by decide +kernel⟩, List.mem_of_getElem? (i := 19) (by decide +kernel), List.mem_of_getElem? (i := 274) (by decide +kernel), List.mem_of_getElem? (i := 275) (by decide +kernel)⟩
theorem lw_p13 : lw_okq (⟨"PlateRoom$Leaf", "strike", "(IIII)V"⟩, 7) := ⟨⟨by decide +kernel, by decide +kernel⟩, List.mem_of_getElem? (i := 105) (by decide +kernel), List.mem_of_getElem? (i := 282) (by decide +kernel), List.mem_of_getElem? (i := 283) (by decide +kernel)⟩
theorem lw_p14 : lw_okq (⟨"PlateRoom", "isLeaf", "(I)Z"⟩, 8) := ⟨⟨by decide +kernel, by decide +kernel⟩, List.mem_of_getElem? (i := 11) (by decide +kernel), List.mem_of_getElem? (i := 290) (by decide +kernel), List.mem_of_getElem? (i := 291) (by decide +kernel)⟩
theorem lw_p15 : lw_okq (⟨"PlateRoom$Leaf", "lookOf", "(I)I"⟩, 7) := ⟨⟨by decide +kernel, by decide +kernel⟩, List.mem_of_getElem? (i := 105) (by decide +kernel), List.mem_of_getElem? (i := 297) (by decide +kernel), List.mem_of_getElem? (i := 298) (by decide +kernel)⟩
def lw_privs_1 : List (MethodName × Nat) := [(⟨"PlateRoom$Plate", "addState", "(III)I"⟩, 8), (⟨"PlateRoom$Years", "put", "(II)V"⟩, 2), (⟨"PlateRoom$Plate", "hasState", "(I)Z"⟩, 8), (⟨"PlateRoom", "chargeOf", "(I)I"⟩, 8), (⟨"PlateRoom", "putCharge", "(II)V"⟩, 8), (⟨"PlateRoom$Plate", "quarrelOf", "(I)I"⟩, 8), (⟨"PlateRoom$Plate", "readOrder", "(I)Z"⟩, 8), (⟨"PlateRoom$Plate", "stepQuarrel", "(III)I"⟩, 8), (⟨"PlateRoom$Plate", "bestOrder", "()I"⟩, 8), (⟨"PlateRoom$Plate", "weighWhatIsToCome", "()V"⟩, 8), (⟨"PlateRoom$Plate", "bestNext", "(II)I"⟩, 8), (⟨"PlateRoom$Plate", "quarrelBy", "(III)I"⟩, 8), (⟨"PlateRoom$Plate", "linesOf", "(I)I"⟩, 8), (⟨"PlateRoom$Leaf", "strike", "(IIII)V"⟩, 7), (⟨"PlateRoom", "isLeaf", "(I)Z"⟩, 8), (⟨"PlateRoom$Leaf", "lookOf", "(I)I"⟩, 7)]
theorem lw_r1 : ∀ q ∈ lw_privs_1, lw_okq q := List.forall_mem_cons.mpr ⟨lw_p0, List.forall_mem_cons.mpr ⟨lw_p1, List.forall_mem_cons.mpr ⟨lw_p2, List.forall_mem_cons.mpr ⟨lw_p3, List.forall_mem_cons.mpr ⟨lw_p4, List.forall_mem_cons.mpr ⟨lw_p5, List.forall_mem_cons.mpr ⟨lw_p6, List.forall_mem_cons.mpr ⟨lw_p7, List.forall_mem_cons.mpr ⟨lw_p8, List.forall_mem_cons.mpr ⟨lw_p9, List.forall_mem_cons.mpr ⟨lw_p10, List.forall_mem_cons.mpr ⟨lw_p11, List.forall_mem_cons.mpr ⟨lw_p12, List.forall_mem_cons.mpr ⟨lw_p13, List.forall_mem_cons.mpr ⟨lw_p14, List.forall_mem_cons.mpr ⟨lw_p15, fun _ h => absurd h List.not_mem_nil⟩⟩⟩⟩⟩⟩⟩⟩⟩⟩⟩⟩⟩⟩⟩⟩
theorem lw_p16 : lw_okq (⟨"PlateRoom$Leaf", "look", "(II)V"⟩, 7) := ⟨⟨by decide +kernel, by decide +kernel⟩, List.mem_of_getElem? (i := 105) (by decide +kernel), List.mem_of_getElem? (i := 302) (by decide +kernel), List.mem_of_getElem? (i := 303) (by decide +kernel)⟩
theorem lw_p17 : lw_okq (⟨"PlateRoom", "candidatesOf", "(LPlateRoom$Leaf;)I"⟩, 8) := ⟨⟨by decide +kernel, by decide +kernel⟩, List.mem_of_getElem? (i := 11) (by decide +kernel), List.mem_of_getElem? (i := 310) (by decide +kernel), List.mem_of_getElem? (i := 311) (by decide +kernel)⟩
theorem lw_p18 : lw_okq (⟨"PlateRoom$Plate", "statesWith", "(II)I"⟩, 8) := ⟨⟨by decide +kernel, by decide +kernel⟩, List.mem_of_getElem? (i := 19) (by decide +kernel), List.mem_of_getElem? (i := 314) (by decide +kernel), List.mem_of_getElem? (i := 315) (by decide +kernel)⟩
theorem lw_p19 : lw_okq (⟨"PlateRoom", "isMould", "(I)Z"⟩, 8) := ⟨⟨by decide +kernel, by decide +kernel⟩, List.mem_of_getElem? (i := 11) (by decide +kernel), List.mem_of_getElem? (i := 327) (by decide +kernel), List.mem_of_getElem? (i := 328) (by decide +kernel)⟩
theorem lw_p20 : lw_okq (⟨"PlateRoom", "earliestByPaper", "(LPlateRoom$Leaf;)I"⟩, 8) := ⟨⟨by decide +kernel, by decide +kernel⟩, List.mem_of_getElem? (i := 11) (by decide +kernel), List.mem_of_getElem? (i := 339) (by decide +kernel), List.mem_of_getElem? (i := 340) (by decide +kernel)⟩
theorem lw_p21 : lw_okq (⟨"PlateRoom", "latestByPaper", "(LPlateRoom$Leaf;)I"⟩, 8) := ⟨⟨by decide +kernel, by decide +kernel⟩, List.mem_of_getElem? (i := 11) (by decide +kernel), List.mem_of_getElem? (i := 346) (by decide +kernel), List.mem_of_getElem? (i := 347) (by decide +kernel)⟩
theorem lw_p22 : lw_okq (⟨"PlateRoom", "plainPrice", "(LPlateRoom$Leaf;)I"⟩, 8) := ⟨⟨by decide +kernel, by decide +kernel⟩, List.mem_of_getElem? (i := 11) (by decide +kernel), List.mem_of_getElem? (i := 358) (by decide +kernel), List.mem_of_getElem? (i := 359) (by decide +kernel)⟩
theorem lw_p23 : lw_okq (⟨"PlateRoom", "colouredPrice", "(LPlateRoom$Leaf;)I"⟩, 8) := ⟨⟨by decide +kernel, by decide +kernel⟩, List.mem_of_getElem? (i := 11) (by decide +kernel), List.mem_of_getElem? (i := 363) (by decide +kernel), List.mem_of_getElem? (i := 364) (by decide +kernel)⟩
theorem lw_p24 : lw_okq (⟨"PlateRoom", "wormPrice", "(LPlateRoom$Leaf;)I"⟩, 8) := ⟨⟨by decide +kernel, by decide +kernel⟩, List.mem_of_getElem? (i := 11) (by decide +kernel), List.mem_of_getElem? (i := 368) (by decide +kernel), List.mem_of_getElem? (i := 369) (by decide +kernel)⟩
theorem lw_p25 : lw_okq (⟨"PlateRoom$Copies", "addMap", "(II)I"⟩, 5) := ⟨⟨by decide +kernel, by decide +kernel⟩, List.mem_of_getElem? (i := 75) (by decide +kernel), List.mem_of_getElem? (i := 377) (by decide +kernel), List.mem_of_getElem? (i := 378) (by decide +kernel)⟩
theorem lw_p26 : lw_okq (⟨"PlateRoom$Copies", "mayComeFrom", "(II)Z"⟩, 5) := ⟨⟨by decide +kernel, by decide +kernel⟩, List.mem_of_getElem? (i := 75) (by decide +kernel), List.mem_of_getElem? (i := 385) (by decide +kernel), List.mem_of_getElem? (i := 386) (by decide +kernel)⟩
theorem lw_p27 : lw_okq (⟨"PlateRoom$Copies", "hasMap", "(I)Z"⟩, 5) := ⟨⟨by decide +kernel, by decide +kernel⟩, List.mem_of_getElem? (i := 75) (by decide +kernel), List.mem_of_getElem? (i := 389) (by decide +kernel), List.mem_of_getElem? (i := 390) (by decide +kernel)⟩
theorem lw_p28 : lw_okq (⟨"PlateRoom$Copies", "costOf", "(II)I"⟩, 5) := ⟨⟨by decide +kernel, by decide +kernel⟩, List.mem_of_getElem? (i := 75) (by decide +kernel), List.mem_of_getElem? (i := 393) (by decide +kernel), List.mem_of_getElem? (i := 394) (by decide +kernel)⟩
theorem lw_p29 : lw_okq (⟨"PlateRoom$Copies", "cheapest", "(I)I"⟩, 5) := ⟨⟨by decide +kernel, by decide +kernel⟩, List.mem_of_getElem? (i := 75) (by decide +kernel), List.mem_of_getElem? (i := 403) (by decide +kernel), List.mem_of_getElem? (i := 404) (by decide +kernel)⟩
theorem lw_p30 : lw_okq (⟨"PlateRoom$Copies", "rivalCount", "(I)I"⟩, 5) := ⟨⟨by decide +kernel, by decide +kernel⟩, List.mem_of_getElem? (i := 75) (by decide +kernel), List.mem_of_getElem? (i := 413) (by decide +kernel), List.mem_of_getElem? (i := 414) (by decide +kernel)⟩
theorem lw_p31 : lw_okq (⟨"PlateRoom$Copies", "lifeOf", "(II)I"⟩, 5) := ⟨⟨by decide +kernel, by decide +kernel⟩, List.mem_of_getElem? (i := 75) (by decide +kernel), List.mem_of_getElem? (i := 422) (by decide +kernel), List.mem_of_getElem? (i := 423) (by decide +kernel)⟩
def lw_privs_2 : List (MethodName × Nat) := [(⟨"PlateRoom$Leaf", "look", "(II)V"⟩, 7), (⟨"PlateRoom", "candidatesOf", "(LPlateRoom$Leaf;)I"⟩, 8), (⟨"PlateRoom$Plate", "statesWith", "(II)I"⟩, 8), (⟨"PlateRoom", "isMould", "(I)Z"⟩, 8), (⟨"PlateRoom", "earliestByPaper", "(LPlateRoom$Leaf;)I"⟩, 8), (⟨"PlateRoom", "latestByPaper", "(LPlateRoom$Leaf;)I"⟩, 8), (⟨"PlateRoom", "plainPrice", "(LPlateRoom$Leaf;)I"⟩, 8), (⟨"PlateRoom", "colouredPrice", "(LPlateRoom$Leaf;)I"⟩, 8), (⟨"PlateRoom", "wormPrice", "(LPlateRoom$Leaf;)I"⟩, 8), (⟨"PlateRoom$Copies", "addMap", "(II)I"⟩, 5), (⟨"PlateRoom$Copies", "mayComeFrom", "(II)Z"⟩, 5), (⟨"PlateRoom$Copies", "hasMap", "(I)Z"⟩, 5), (⟨"PlateRoom$Copies", "costOf", "(II)I"⟩, 5), (⟨"PlateRoom$Copies", "cheapest", "(I)I"⟩, 5), (⟨"PlateRoom$Copies", "rivalCount", "(I)I"⟩, 5), (⟨"PlateRoom$Copies", "lifeOf", "(II)I"⟩, 5)]
theorem lw_r2 : ∀ q ∈ lw_privs_2, lw_okq q := List.forall_mem_cons.mpr ⟨lw_p16, List.forall_mem_cons.mpr ⟨lw_p17, List.forall_mem_cons.mpr ⟨lw_p18, List.forall_mem_cons.mpr ⟨lw_p19, List.forall_mem_cons.mpr ⟨lw_p20, List.forall_mem_cons.mpr ⟨lw_p21, List.forall_mem_cons.mpr ⟨lw_p22, List.forall_mem_cons.mpr ⟨lw_p23, List.forall_mem_cons.mpr ⟨lw_p24, List.forall_mem_cons.mpr ⟨lw_p25, List.forall_mem_cons.mpr ⟨lw_p26, List.forall_mem_cons.mpr ⟨lw_p27, List.forall_mem_cons.mpr ⟨lw_p28, List.forall_mem_cons.mpr ⟨lw_p29, List.forall_mem_cons.mpr ⟨lw_p30, List.forall_mem_cons.mpr ⟨lw_p31, fun _ h => absurd h List.not_mem_nil⟩⟩⟩⟩⟩⟩⟩⟩⟩⟩⟩⟩⟩⟩⟩⟩
theorem lw_p32 : lw_okq (⟨"PlateRoom$Copies", "hasItFrom", "(III)Z"⟩, 5) := ⟨⟨by decide +kernel, by decide +kernel⟩, List.mem_of_getElem? (i := 75) (by decide +kernel), List.mem_of_getElem? (i := 426) (by decide +kernel), List.mem_of_getElem? (i := 427) (by decide +kernel)⟩
theorem lw_p33 : lw_okq (⟨"PlateRoom$Holes", "bore", "(I)I"⟩, 2) := ⟨⟨by decide +kernel, by decide +kernel⟩, List.mem_of_getElem? (i := 111) (by decide +kernel), List.mem_of_getElem? (i := 438) (by decide +kernel), List.mem_of_getElem? (i := 439) (by decide +kernel)⟩
theorem lw_p34 : lw_okq (⟨"PlateRoom$Holes", "isWithin", "(II)Z"⟩, 2) := ⟨⟨by decide +kernel, by decide +kernel⟩, List.mem_of_getElem? (i := 111) (by decide +kernel), List.mem_of_getElem? (i := 442) (by decide +kernel), List.mem_of_getElem? (i := 443) (by decide +kernel)⟩
theorem lw_p35 : lw_okq (⟨"PlateRoom$Holes", "fitting", "(LPlateRoom$Holes;I)I"⟩, 2) := ⟨⟨by decide +kernel, by decide +kernel⟩, List.mem_of_getElem? (i := 111) (by decide +kernel), List.mem_of_getElem? (i := 459) (by decide +kernel), List.mem_of_getElem? (i := 460) (by decide +kernel)⟩
theorem lw_p36 : lw_okq (⟨"PlateRoom$Holes", "bestShift", "(LPlateRoom$Holes;)I"⟩, 2) := ⟨⟨by decide +kernel, by decide +kernel⟩, List.mem_of_getElem? (i := 111) (by decide +kernel), List.mem_of_getElem? (i := 467) (by decide +kernel), List.mem_of_getElem? (i := 468) (by decide +kernel)⟩
theorem lw_p37 : lw_okq (⟨"PlateRoom", "homeOf", "(I)I"⟩, 8) := ⟨⟨by decide +kernel, by decide +kernel⟩, List.mem_of_getElem? (i := 11) (by decide +kernel), List.mem_of_getElem? (i := 476) (by decide +kernel), List.mem_of_getElem? (i := 477) (by decide +kernel)⟩
theorem lw_p38 : lw_okq (⟨"PlateRoom$Holes", "mostFitting", "(LPlateRoom$Holes;)I"⟩, 2) := ⟨⟨by decide +kernel, by decide +kernel⟩, List.mem_of_getElem? (i := 111) (by decide +kernel), List.mem_of_getElem? (i := 480) (by decide +kernel), List.mem_of_getElem? (i := 481) (by decide +kernel)⟩
theorem lw_p39 : lw_okq (⟨"PlateRoom", "othersByChance", "(II)I"⟩, 8) := ⟨⟨by decide +kernel, by decide +kernel⟩, List.mem_of_getElem? (i := 11) (by decide +kernel), List.mem_of_getElem? (i := 485) (by decide +kernel), List.mem_of_getElem? (i := 486) (by decide +kernel)⟩
theorem lw_p40 : lw_okq (⟨"PlateRoom", "leavesWithCandidates", "(I)I"⟩, 8) := ⟨⟨by decide +kernel, by decide +kernel⟩, List.mem_of_getElem? (i := 11) (by decide +kernel), List.mem_of_getElem? (i := 493) (by decide +kernel), List.mem_of_getElem? (i := 494) (by decide +kernel)⟩
theorem lw_p41 : lw_okq (⟨"PlateRoomModel", "isOrder", "(I)Z"⟩, 23) := ⟨⟨by decide +kernel, by decide +kernel⟩, List.mem_of_getElem? (i := 501) (by decide +kernel), List.mem_of_getElem? (i := 599) (by decide +kernel), List.mem_of_getElem? (i := 600) (by decide +kernel)⟩
theorem lw_p42 : lw_okq (⟨"PlateRoomModel", "quarrelOf", "()I"⟩, 23) := ⟨⟨by decide +kernel, by decide +kernel⟩, List.mem_of_getElem? (i := 501) (by decide +kernel), List.mem_of_getElem? (i := 603) (by decide +kernel), List.mem_of_getElem? (i := 604) (by decide +kernel)⟩
theorem lw_p43 : lw_okq (⟨"PlateRoomModel", "isLeaf", "(I)Z"⟩, 23) := ⟨⟨by decide +kernel, by decide +kernel⟩, List.mem_of_getElem? (i := 501) (by decide +kernel), List.mem_of_getElem? (i := 622) (by decide +kernel), List.mem_of_getElem? (i := 623) (by decide +kernel)⟩
theorem lw_p44 : lw_okq (⟨"PlateRoomModel", "candidatesOf", "(I)I"⟩, 23) := ⟨⟨by decide +kernel, by decide +kernel⟩, List.mem_of_getElem? (i := 501) (by decide +kernel), List.mem_of_getElem? (i := 630) (by decide +kernel), List.mem_of_getElem? (i := 631) (by decide +kernel)⟩
theorem lw_p45 : lw_okq (⟨"PlateRoomModel", "isMap", "(I)Z"⟩, 23) := ⟨⟨by decide +kernel, by decide +kernel⟩, List.mem_of_getElem? (i := 501) (by decide +kernel), List.mem_of_getElem? (i := 664) (by decide +kernel), List.mem_of_getElem? (i := 665) (by decide +kernel)⟩
theorem lw_p46 : lw_okq (⟨"PlateRoomModel", "isFrom", "(II)Z"⟩, 23) := ⟨⟨by decide +kernel, by decide +kernel⟩, List.mem_of_getElem? (i := 501) (by decide +kernel), List.mem_of_getElem? (i := 668) (by decide +kernel), List.mem_of_getElem? (i := 669) (by decide +kernel)⟩
theorem lw_p47 : lw_okq (⟨"PlateRoomModel", "costOf", "(II)I"⟩, 23) := ⟨⟨by decide +kernel, by decide +kernel⟩, List.mem_of_getElem? (i := 501) (by decide +kernel), List.mem_of_getElem? (i := 672) (by decide +kernel), List.mem_of_getElem? (i := 673) (by decide +kernel)⟩
def lw_privs_3 : List (MethodName × Nat) := [(⟨"PlateRoom$Copies", "hasItFrom", "(III)Z"⟩, 5), (⟨"PlateRoom$Holes", "bore", "(I)I"⟩, 2), (⟨"PlateRoom$Holes", "isWithin", "(II)Z"⟩, 2), (⟨"PlateRoom$Holes", "fitting", "(LPlateRoom$Holes;I)I"⟩, 2), (⟨"PlateRoom$Holes", "bestShift", "(LPlateRoom$Holes;)I"⟩, 2), (⟨"PlateRoom", "homeOf", "(I)I"⟩, 8), (⟨"PlateRoom$Holes", "mostFitting", "(LPlateRoom$Holes;)I"⟩, 2), (⟨"PlateRoom", "othersByChance", "(II)I"⟩, 8), (⟨"PlateRoom", "leavesWithCandidates", "(I)I"⟩, 8), (⟨"PlateRoomModel", "isOrder", "(I)Z"⟩, 23), (⟨"PlateRoomModel", "quarrelOf", "()I"⟩, 23), (⟨"PlateRoomModel", "isLeaf", "(I)Z"⟩, 23), (⟨"PlateRoomModel", "candidatesOf", "(I)I"⟩, 23), (⟨"PlateRoomModel", "isMap", "(I)Z"⟩, 23), (⟨"PlateRoomModel", "isFrom", "(II)Z"⟩, 23), (⟨"PlateRoomModel", "costOf", "(II)I"⟩, 23)]
theorem lw_r3 : ∀ q ∈ lw_privs_3, lw_okq q := List.forall_mem_cons.mpr ⟨lw_p32, List.forall_mem_cons.mpr ⟨lw_p33, List.forall_mem_cons.mpr ⟨lw_p34, List.forall_mem_cons.mpr ⟨lw_p35, List.forall_mem_cons.mpr ⟨lw_p36, List.forall_mem_cons.mpr ⟨lw_p37, List.forall_mem_cons.mpr ⟨lw_p38, List.forall_mem_cons.mpr ⟨lw_p39, List.forall_mem_cons.mpr ⟨lw_p40, List.forall_mem_cons.mpr ⟨lw_p41, List.forall_mem_cons.mpr ⟨lw_p42, List.forall_mem_cons.mpr ⟨lw_p43, List.forall_mem_cons.mpr ⟨lw_p44, List.forall_mem_cons.mpr ⟨lw_p45, List.forall_mem_cons.mpr ⟨lw_p46, List.forall_mem_cons.mpr ⟨lw_p47, fun _ h => absurd h List.not_mem_nil⟩⟩⟩⟩⟩⟩⟩⟩⟩⟩⟩⟩⟩⟩⟩⟩
theorem lw_p48 : lw_okq (⟨"PlateRoomModel", "fromOf", "(I)I"⟩, 23) := ⟨⟨by decide +kernel, by decide +kernel⟩, List.mem_of_getElem? (i := 501) (by decide +kernel), List.mem_of_getElem? (i := 680) (by decide +kernel), List.mem_of_getElem? (i := 681) (by decide +kernel)⟩
theorem lw_p49 : lw_okq (⟨"PlateRoomModel", "fitsOf", "(III)I"⟩, 23) := ⟨⟨by decide +kernel, by decide +kernel⟩, List.mem_of_getElem? (i := 501) (by decide +kernel), List.mem_of_getElem? (i := 703) (by decide +kernel), List.mem_of_getElem? (i := 704) (by decide +kernel)⟩
theorem lw_p50 : lw_okq (⟨"PlateRoomModel", "shiftOf", "(II)I"⟩, 23) := ⟨⟨by decide +kernel, by decide +kernel⟩, List.mem_of_getElem? (i := 501) (by decide +kernel), List.mem_of_getElem? (i := 711) (by decide +kernel), List.mem_of_getElem? (i := 712) (by decide +kernel)⟩
theorem lw_p51 : lw_okq (⟨"PlateRoomModel", "most", "(II)I"⟩, 23) := ⟨⟨by decide +kernel, by decide +kernel⟩, List.mem_of_getElem? (i := 501) (by decide +kernel), List.mem_of_getElem? (i := 719) (by decide +kernel), List.mem_of_getElem? (i := 720) (by decide +kernel)⟩
def lw_privs_4 : List (MethodName × Nat) := [(⟨"PlateRoomModel", "fromOf", "(I)I"⟩, 23), (⟨"PlateRoomModel", "fitsOf", "(III)I"⟩, 23), (⟨"PlateRoomModel", "shiftOf", "(II)I"⟩, 23), (⟨"PlateRoomModel", "most", "(II)I"⟩, 23)]
theorem lw_r4 : ∀ q ∈ lw_privs_4, lw_okq q := List.forall_mem_cons.mpr ⟨lw_p48, List.forall_mem_cons.mpr ⟨lw_p49, List.forall_mem_cons.mpr ⟨lw_p50, List.forall_mem_cons.mpr ⟨lw_p51, fun _ h => absurd h List.not_mem_nil⟩⟩⟩⟩
def lw_privs : List (MethodName × Nat) := lw_privs_1 ++ (lw_privs_2 ++ (lw_privs_3 ++ (lw_privs_4)))
def lw_tbl : List Cond := k2_sels lw_privs ++ tables_1
theorem lw_privs_ok : ∀ q ∈ lw_privs, lw_okq q := by
  show ∀ q ∈ lw_privs_1 ++ (lw_privs_2 ++ (lw_privs_3 ++ (lw_privs_4))), lw_okq q
  exact List.forall_mem_append.mpr ⟨lw_r1, List.forall_mem_append.mpr ⟨lw_r2, List.forall_mem_append.mpr ⟨lw_r3, lw_r4⟩⟩⟩
-- ===== end of PART A; then your names; then what follows =====
/-! ===== BEGIN words of one list among another's, by their places ===== -/
theorem goodIn_r {big : List Cond} (ws : List Cond) (ps : List Nat) (hp : ws = ps.filterMap (fun i => big[i]?)) (h : ws.all goodWord = true) : GoodIn big ws := by
  intro w hw
  have h1 := List.all_eq_true.mp h w hw
  rw [hp] at hw
  obtain ⟨i, -, hi⟩ := List.mem_filterMap.mp hw
  have hm : w ∈ big := by first | exact List.mem_of_getElem? hi | exact List.getElem?_mem hi
  exact ⟨hm, good_of_word h1⟩
theorem goodIn_app {big a b : List Cond} (ha : GoodIn big a) (hb : GoodIn big b) : GoodIn big (a ++ b) := fun w h => (List.mem_append.mp h).elim (ha w) (hb w)
theorem goodIn_ca {big a b : List Cond} {c : Cond} (ha : GoodIn big (c :: a)) (hb : GoodIn big b) : GoodIn big (c :: (a ++ b)) := fun w h => (List.mem_cons.mp h).elim (fun e => ha w (List.mem_cons.mpr (Or.inl e))) (fun h => (List.mem_append.mp h).elim (fun h => ha w (List.mem_cons.mpr (Or.inr h))) (hb w))
theorem goodIn_sub {big ws : List Cond} (hm : ∀ w ∈ ws, w ∈ big) (h : ws.all goodWord = true) : GoodIn big ws := fun w hw => ⟨hm w hw, good_of_word (List.all_eq_true.mp h w hw)⟩
/-! ===== END ===== -/

/-! ===== BEGIN printed: names, fields, word lists, decode rows ===== -/
def RX0 : String := "PlateRoom$Copies"
def TX0 : u_T := fun k => match k with
  | 0 => ("PlateRoom$Copies", "loss", "I", false)
  | 1 => ("PlateRoom$Copies", "alone", "I", false)
  | 2 => ("PlateRoom$Copies", "years", "[I", true)
  | 3 => ("PlateRoom$Copies", "errors", "[I", true)
  | _ => ("PlateRoom$Copies", "mapCount", "I", false)
def tyX0 : Nat → FieldType := fun k => match k with
  | 0 => .int
  | 1 => .int
  | 2 => .array .int
  | 3 => .array .int
  | _ => .int
abbrev wsX00 : List Cond := u_ws RX0 TX0 5
theorem nmX0 : ∀ a, a < 5 → ∀ b, b < 5 → a ≠ b → (TX0 a).2.1 ≠ (TX0 b).2.1 := by decide +kernel
theorem tyX0_ok : ∀ k, k < 5 → parseFieldDescriptor (TX0 k).2.2.1 = some (tyX0 k) := by decide +kernel
abbrev cX0_init : ByteArray := prog_2_method_1_code
def yX0_init : MethodName := ⟨RX0, "<init>", "()V"⟩
abbrev cX0_hasMap : ByteArray := prog_2_method_2_code
def yX0_hasMap : MethodName := ⟨RX0, "hasMap", "(I)Z"⟩
abbrev cX0_addMap : ByteArray := prog_2_method_3_code
def yX0_addMap : MethodName := ⟨RX0, "addMap", "(II)I"⟩
abbrev cX0_mayComeFrom : ByteArray := prog_2_method_4_code
def yX0_mayComeFrom : MethodName := ⟨RX0, "mayComeFrom", "(II)Z"⟩
abbrev cX0_costOf : ByteArray := prog_2_method_5_code
def yX0_costOf : MethodName := ⟨RX0, "costOf", "(II)I"⟩
abbrev cX0_cheapest : ByteArray := prog_2_method_6_code
def yX0_cheapest : MethodName := ⟨RX0, "cheapest", "(I)I"⟩
abbrev cX0_rivalCount : ByteArray := prog_2_method_7_code
def yX0_rivalCount : MethodName := ⟨RX0, "rivalCount", "(I)I"⟩
abbrev cX0_lifeOf : ByteArray := prog_2_method_8_code
def yX0_lifeOf : MethodName := ⟨RX0, "lifeOf", "(II)I"⟩
abbrev cX0_hasItFrom : ByteArray := prog_2_method_9_code
def yX0_hasItFrom : MethodName := ⟨RX0, "hasItFrom", "(III)Z"⟩
def RX1 : String := "PlateRoom$Holes"
def TX1 : u_T := fun k => match k with
  | 0 => ("PlateRoom$Holes", "places", "[I", true)
  | _ => ("PlateRoom$Holes", "placeCount", "I", false)
def tyX1 : Nat → FieldType := fun k => match k with
  | 0 => .array .int
  | _ => .int
abbrev wsX10 : List Cond := u_ws RX1 TX1 2
theorem nmX1 : ∀ a, a < 2 → ∀ b, b < 2 → a ≠ b → (TX1 a).2.1 ≠ (TX1 b).2.1 := by decide +kernel
theorem tyX1_ok : ∀ k, k < 2 → parseFieldDescriptor (TX1 k).2.2.1 = some (tyX1 k) := by decide +kernel
abbrev cX1_init : ByteArray := prog_3_method_1_code
def yX1_init : MethodName := ⟨RX1, "<init>", "()V"⟩
abbrev cX1_isPlace : ByteArray := prog_3_method_2_code
def yX1_isPlace : MethodName := ⟨RX1, "isPlace", "(I)Z"⟩
abbrev cX1_isShift : ByteArray := prog_3_method_3_code
def yX1_isShift : MethodName := ⟨RX1, "isShift", "(I)Z"⟩
abbrev cX1_bore : ByteArray := prog_3_method_4_code
def yX1_bore : MethodName := ⟨RX1, "bore", "(I)I"⟩
abbrev cX1_isWithin : ByteArray := prog_3_method_5_code
def yX1_isWithin : MethodName := ⟨RX1, "isWithin", "(II)Z"⟩
abbrev cX1_fitting : ByteArray := prog_3_method_6_code
def yX1_fitting : MethodName := ⟨RX1, "fitting", "(LPlateRoom$Holes;I)I"⟩
abbrev cX1_mostFitting : ByteArray := prog_3_method_7_code
def yX1_mostFitting : MethodName := ⟨RX1, "mostFitting", "(LPlateRoom$Holes;)I"⟩
abbrev cX1_bestShift : ByteArray := prog_3_method_8_code
def yX1_bestShift : MethodName := ⟨RX1, "bestShift", "(LPlateRoom$Holes;)I"⟩
def RX2 : String := "PlateRoom$Leaf"
def TX2 : u_T := fun k => match k with
  | 0 => ("PlateRoom$Leaf", "there", "I", false)
  | 1 => ("PlateRoom$Leaf", "gone", "I", false)
  | 2 => ("PlateRoom$Leaf", "worth", "I", false)
  | 3 => ("PlateRoom$Leaf", "colour", "I", false)
  | 4 => ("PlateRoom$Leaf", "mould", "I", false)
  | 5 => ("PlateRoom$Leaf", "imprint", "I", false)
  | _ => ("PlateRoom$Leaf", "holes", "LPlateRoom$Holes;", true)
def tyX2 : Nat → FieldType := fun k => match k with
  | 0 => .int
  | 1 => .int
  | 2 => .int
  | 3 => .int
  | 4 => .int
  | 5 => .int
  | _ => .object "PlateRoom$Holes"
abbrev wsX20 : List Cond := u_ws RX2 TX2 7
theorem nmX2 : ∀ a, a < 7 → ∀ b, b < 7 → a ≠ b → (TX2 a).2.1 ≠ (TX2 b).2.1 := by decide +kernel
theorem tyX2_ok : ∀ k, k < 7 → parseFieldDescriptor (TX2 k).2.2.1 = some (tyX2 k) := by decide +kernel
abbrev cX2_init : ByteArray := prog_4_method_1_code
def yX2_init : MethodName := ⟨RX2, "<init>", "()V"⟩
abbrev cX2_strike : ByteArray := prog_4_method_2_code
def yX2_strike : MethodName := ⟨RX2, "strike", "(IIII)V"⟩
abbrev cX2_lookOf : ByteArray := prog_4_method_3_code
def yX2_lookOf : MethodName := ⟨RX2, "lookOf", "(I)I"⟩
abbrev cX2_look : ByteArray := prog_4_method_4_code
def yX2_look : MethodName := ⟨RX2, "look", "(II)V"⟩
def RX3 : String := "PlateRoom$Plate"
def TX3 : u_T := fun k => match k with
  | 0 => ("PlateRoom$Plate", "cut", "I", false)
  | 1 => ("PlateRoom$Plate", "rub", "I", false)
  | 2 => ("PlateRoom$Plate", "again", "I", false)
  | 3 => ("PlateRoom$Plate", "lines", "[I", true)
  | 4 => ("PlateRoom$Plate", "years", "[LPlateRoom$Years;", true)
  | 5 => ("PlateRoom$Plate", "stateCount", "I", false)
  | 6 => ("PlateRoom$Plate", "read", "[I", true)
  | _ => ("PlateRoom$Plate", "toCome", "[[I", true)
def tyX3 : Nat → FieldType := fun k => match k with
  | 0 => .int
  | 1 => .int
  | 2 => .int
  | 3 => .array .int
  | 4 => .array (.object "PlateRoom$Years")
  | 5 => .int
  | 6 => .array .int
  | _ => .array (.array .int)
abbrev wsX30 : List Cond := u_ws RX3 TX3 8
theorem nmX3 : ∀ a, a < 8 → ∀ b, b < 8 → a ≠ b → (TX3 a).2.1 ≠ (TX3 b).2.1 := by decide +kernel
theorem tyX3_ok : ∀ k, k < 8 → parseFieldDescriptor (TX3 k).2.2.1 = some (tyX3 k) := by decide +kernel
abbrev cX3_init : ByteArray := prog_5_method_1_code
def yX3_init : MethodName := ⟨RX3, "<init>", "()V"⟩
abbrev cX3_hasState : ByteArray := prog_5_method_2_code
def yX3_hasState : MethodName := ⟨RX3, "hasState", "(I)Z"⟩
abbrev cX3_addState : ByteArray := prog_5_method_3_code
def yX3_addState : MethodName := ⟨RX3, "addState", "(III)I"⟩
abbrev cX3_statesWith : ByteArray := prog_5_method_4_code
def yX3_statesWith : MethodName := ⟨RX3, "statesWith", "(II)I"⟩
abbrev cX3_quarrelOf : ByteArray := prog_5_method_5_code
def yX3_quarrelOf : MethodName := ⟨RX3, "quarrelOf", "(I)I"⟩
abbrev cX3_readOrder : ByteArray := prog_5_method_6_code
def yX3_readOrder : MethodName := ⟨RX3, "readOrder", "(I)Z"⟩
abbrev cX3_stepQuarrel : ByteArray := prog_5_method_7_code
def yX3_stepQuarrel : MethodName := ⟨RX3, "stepQuarrel", "(III)I"⟩
abbrev cX3_bestOrder : ByteArray := prog_5_method_8_code
def yX3_bestOrder : MethodName := ⟨RX3, "bestOrder", "()I"⟩
abbrev cX3_weighWhatIsToCome : ByteArray := prog_5_method_9_code
def yX3_weighWhatIsToCome : MethodName := ⟨RX3, "weighWhatIsToCome", "()V"⟩
abbrev cX3_bestNext : ByteArray := prog_5_method_10_code
def yX3_bestNext : MethodName := ⟨RX3, "bestNext", "(II)I"⟩
abbrev cX3_quarrelBy : ByteArray := prog_5_method_11_code
def yX3_quarrelBy : MethodName := ⟨RX3, "quarrelBy", "(III)I"⟩
abbrev cX3_linesOf : ByteArray := prog_5_method_12_code
def yX3_linesOf : MethodName := ⟨RX3, "linesOf", "(I)I"⟩
def RX4 : String := "PlateRoom$Years"
def TX4 : u_T := fun k => match k with
  | 0 => ("PlateRoom$Years", "first", "I", false)
  | _ => ("PlateRoom$Years", "last", "I", false)
def tyX4 : Nat → FieldType := fun k => match k with
  | 0 => .int
  | _ => .int
abbrev wsX40 : List Cond := u_ws RX4 TX4 2
theorem nmX4 : ∀ a, a < 2 → ∀ b, b < 2 → a ≠ b → (TX4 a).2.1 ≠ (TX4 b).2.1 := by decide +kernel
theorem tyX4_ok : ∀ k, k < 2 → parseFieldDescriptor (TX4 k).2.2.1 = some (tyX4 k) := by decide +kernel
abbrev cX4_init : ByteArray := prog_6_method_1_code
def yX4_init : MethodName := ⟨RX4, "<init>", "()V"⟩
abbrev cX4_put : ByteArray := prog_6_method_2_code
def yX4_put : MethodName := ⟨RX4, "put", "(II)V"⟩
def RX5 : String := "PlateRoom"
def TX5 : u_T := fun k => match k with
  | 0 => ("PlateRoom", "plate", "LPlateRoom$Plate;", true)
  | 1 => ("PlateRoom", "copies", "LPlateRoom$Copies;", true)
  | 2 => ("PlateRoom", "leaves", "[LPlateRoom$Leaf;", true)
  | 3 => ("PlateRoom", "leafCount", "I", false)
  | 4 => ("PlateRoom", "moulds", "[LPlateRoom$Years;", true)
  | 5 => ("PlateRoom", "mouldCount", "I", false)
  | 6 => ("PlateRoom", "books", "[LPlateRoom$Holes;", true)
  | _ => ("PlateRoom", "pricesAsked", "J", false)
def tyX5 : Nat → FieldType := fun k => match k with
  | 0 => .object "PlateRoom$Plate"
  | 1 => .object "PlateRoom$Copies"
  | 2 => .array (.object "PlateRoom$Leaf")
  | 3 => .int
  | 4 => .array (.object "PlateRoom$Years")
  | 5 => .int
  | 6 => .array (.object "PlateRoom$Holes")
  | _ => .long
abbrev wsX50 : List Cond := u_ws RX5 TX5 8
theorem nmX5 : ∀ a, a < 8 → ∀ b, b < 8 → a ≠ b → (TX5 a).2.1 ≠ (TX5 b).2.1 := by decide +kernel
theorem tyX5_ok : ∀ k, k < 8 → parseFieldDescriptor (TX5 k).2.2.1 = some (tyX5 k) := by decide +kernel
abbrev cX5_init : ByteArray := prog_1_method_1_code
def yX5_init : MethodName := ⟨RX5, "<init>", "()V"⟩
abbrev cX5_state : ByteArray := prog_1_method_2_code
def yX5_state : MethodName := ⟨RX5, "state", "(III)I"⟩
abbrev cX5_about : ByteArray := prog_1_method_3_code
def yX5_about : MethodName := ⟨RX5, "about", "(II)I"⟩
abbrev cX5_set : ByteArray := prog_1_method_4_code
def yX5_set : MethodName := ⟨RX5, "set", "(II)I"⟩
abbrev cX5_quarrel : ByteArray := prog_1_method_5_code
def yX5_quarrel : MethodName := ⟨RX5, "quarrel", "(I)I"⟩
abbrev cX5_best : ByteArray := prog_1_method_6_code
def yX5_best : MethodName := ⟨RX5, "best", "(I)I"⟩
abbrev cX5_leaf : ByteArray := prog_1_method_7_code
def yX5_leaf : MethodName := ⟨RX5, "leaf", "(IIII)I"⟩
abbrev cX5_see : ByteArray := prog_1_method_8_code
def yX5_see : MethodName := ⟨RX5, "see", "(III)I"⟩
abbrev cX5_candidates : ByteArray := prog_1_method_9_code
def yX5_candidates : MethodName := ⟨RX5, "candidates", "(I)I"⟩
abbrev cX5_mould : ByteArray := prog_1_method_10_code
def yX5_mould : MethodName := ⟨RX5, "mould", "(II)I"⟩
abbrev cX5_paper : ByteArray := prog_1_method_11_code
def yX5_paper : MethodName := ⟨RX5, "paper", "(II)I"⟩
abbrev cX5_imprint : ByteArray := prog_1_method_12_code
def yX5_imprint : MethodName := ⟨RX5, "imprint", "(II)I"⟩
abbrev cX5_span : ByteArray := prog_1_method_13_code
def yX5_span : MethodName := ⟨RX5, "span", "(II)I"⟩
abbrev cX5_price : ByteArray := prog_1_method_14_code
def yX5_price : MethodName := ⟨RX5, "price", "(II)I"⟩
abbrev cX5_map : ByteArray := prog_1_method_15_code
def yX5_map : MethodName := ⟨RX5, "map", "(II)I"⟩
abbrev cX5_cost : ByteArray := prog_1_method_16_code
def yX5_cost : MethodName := ⟨RX5, "cost", "(II)I"⟩
abbrev cX5_from : ByteArray := prog_1_method_17_code
def yX5_from : MethodName := ⟨RX5, "from", "(I)I"⟩
abbrev cX5_rivals : ByteArray := prog_1_method_18_code
def yX5_rivals : MethodName := ⟨RX5, "rivals", "(I)I"⟩
abbrev cX5_life : ByteArray := prog_1_method_19_code
def yX5_life : MethodName := ⟨RX5, "life", "(II)I"⟩
abbrev cX5_hole : ByteArray := prog_1_method_20_code
def yX5_hole : MethodName := ⟨RX5, "hole", "(III)I"⟩
abbrev cX5_fits : ByteArray := prog_1_method_21_code
def yX5_fits : MethodName := ⟨RX5, "fits", "(III)I"⟩
abbrev cX5_shift : ByteArray := prog_1_method_22_code
def yX5_shift : MethodName := ⟨RX5, "shift", "(III)I"⟩
abbrev cX5_home : ByteArray := prog_1_method_23_code
def yX5_home : MethodName := ⟨RX5, "home", "(II)I"⟩
abbrev cX5_count : ByteArray := prog_1_method_24_code
def yX5_count : MethodName := ⟨RX5, "count", "(I)I"⟩
abbrev cX5_trace : ByteArray := prog_1_method_25_code
def yX5_trace : MethodName := ⟨RX5, "trace", "()J"⟩
abbrev cX5_has : ByteArray := prog_1_method_26_code
def yX5_has : MethodName := ⟨RX5, "has", "(II)Z"⟩
abbrev cX5_areLines : ByteArray := prog_1_method_27_code
def yX5_areLines : MethodName := ⟨RX5, "areLines", "(I)Z"⟩
abbrev cX5_isLine : ByteArray := prog_1_method_28_code
def yX5_isLine : MethodName := ⟨RX5, "isLine", "(I)Z"⟩
abbrev cX5_isYear : ByteArray := prog_1_method_29_code
def yX5_isYear : MethodName := ⟨RX5, "isYear", "(I)Z"⟩
abbrev cX5_areYears : ByteArray := prog_1_method_30_code
def yX5_areYears : MethodName := ⟨RX5, "areYears", "(II)Z"⟩
abbrev cX5_isFirstOrSecond : ByteArray := prog_1_method_31_code
def yX5_isFirstOrSecond : MethodName := ⟨RX5, "isFirstOrSecond", "(I)Z"⟩
abbrev cX5_isBook : ByteArray := prog_1_method_32_code
def yX5_isBook : MethodName := ⟨RX5, "isBook", "(I)Z"⟩
abbrev cX5_isLeaf : ByteArray := prog_1_method_33_code
def yX5_isLeaf : MethodName := ⟨RX5, "isLeaf", "(I)Z"⟩
abbrev cX5_isMould : ByteArray := prog_1_method_34_code
def yX5_isMould : MethodName := ⟨RX5, "isMould", "(I)Z"⟩
abbrev cX5_mostOfCharge : ByteArray := prog_1_method_35_code
def yX5_mostOfCharge : MethodName := ⟨RX5, "mostOfCharge", "(I)I"⟩
abbrev cX5_chargeOf : ByteArray := prog_1_method_36_code
def yX5_chargeOf : MethodName := ⟨RX5, "chargeOf", "(I)I"⟩
abbrev cX5_putCharge : ByteArray := prog_1_method_37_code
def yX5_putCharge : MethodName := ⟨RX5, "putCharge", "(II)V"⟩
abbrev cX5_candidatesOf : ByteArray := prog_1_method_38_code
def yX5_candidatesOf : MethodName := ⟨RX5, "candidatesOf", "(LPlateRoom$Leaf;)I"⟩
abbrev cX5_leavesWithCandidates : ByteArray := prog_1_method_39_code
def yX5_leavesWithCandidates : MethodName := ⟨RX5, "leavesWithCandidates", "(I)I"⟩
abbrev cX5_earliestByPaper : ByteArray := prog_1_method_40_code
def yX5_earliestByPaper : MethodName := ⟨RX5, "earliestByPaper", "(LPlateRoom$Leaf;)I"⟩
abbrev cX5_latestByPaper : ByteArray := prog_1_method_41_code
def yX5_latestByPaper : MethodName := ⟨RX5, "latestByPaper", "(LPlateRoom$Leaf;)I"⟩
abbrev cX5_plainPrice : ByteArray := prog_1_method_42_code
def yX5_plainPrice : MethodName := ⟨RX5, "plainPrice", "(LPlateRoom$Leaf;)I"⟩
abbrev cX5_colouredPrice : ByteArray := prog_1_method_43_code
def yX5_colouredPrice : MethodName := ⟨RX5, "colouredPrice", "(LPlateRoom$Leaf;)I"⟩
abbrev cX5_wormPrice : ByteArray := prog_1_method_44_code
def yX5_wormPrice : MethodName := ⟨RX5, "wormPrice", "(LPlateRoom$Leaf;)I"⟩
abbrev cX5_homeOf : ByteArray := prog_1_method_45_code
def yX5_homeOf : MethodName := ⟨RX5, "homeOf", "(I)I"⟩
abbrev cX5_othersByChance : ByteArray := prog_1_method_46_code
def yX5_othersByChance : MethodName := ⟨RX5, "othersByChance", "(II)I"⟩
def RX6 : String := "PlateRoomModel"
def TX6 : u_T := fun k => match k with
  | 0 => ("PlateRoomModel", "thrown", "I", false)
  | 1 => ("PlateRoomModel", "trace", "J", false)
  | 2 => ("PlateRoomModel", "states", "I", false)
  | 3 => ("PlateRoomModel", "lines", "[I", true)
  | 4 => ("PlateRoomModel", "from", "[I", true)
  | 5 => ("PlateRoomModel", "to", "[I", true)
  | 6 => ("PlateRoomModel", "rules", "[I", true)
  | 7 => ("PlateRoomModel", "leaves", "I", false)
  | 8 => ("PlateRoomModel", "there", "[I", true)
  | 9 => ("PlateRoomModel", "gone", "[I", true)
  | 10 => ("PlateRoomModel", "worth", "[I", true)
  | 11 => ("PlateRoomModel", "colour", "[I", true)
  | 12 => ("PlateRoomModel", "paper", "[I", true)
  | 13 => ("PlateRoomModel", "imprint", "[I", true)
  | 14 => ("PlateRoomModel", "moulds", "I", false)
  | 15 => ("PlateRoomModel", "mouldFrom", "[I", true)
  | 16 => ("PlateRoomModel", "mouldTo", "[I", true)
  | 17 => ("PlateRoomModel", "maps", "I", false)
  | 18 => ("PlateRoomModel", "year", "[I", true)
  | 19 => ("PlateRoomModel", "errors", "[I", true)
  | 20 => ("PlateRoomModel", "holeMany", "[I", true)
  | 21 => ("PlateRoomModel", "hole", "[I", true)
  | _ => ("PlateRoomModel", "digit", "[I", true)
def tyX6 : Nat → FieldType := fun k => match k with
  | 0 => .int
  | 1 => .long
  | 2 => .int
  | 3 => .array .int
  | 4 => .array .int
  | 5 => .array .int
  | 6 => .array .int
  | 7 => .int
  | 8 => .array .int
  | 9 => .array .int
  | 10 => .array .int
  | 11 => .array .int
  | 12 => .array .int
  | 13 => .array .int
  | 14 => .int
  | 15 => .array .int
  | 16 => .array .int
  | 17 => .int
  | 18 => .array .int
  | 19 => .array .int
  | 20 => .array .int
  | 21 => .array .int
  | _ => .array .int
abbrev wsX60 : List Cond := u_ws RX6 TX6 23
theorem nmX6 : ∀ a, a < 23 → ∀ b, b < 23 → a ≠ b → (TX6 a).2.1 ≠ (TX6 b).2.1 := by decide +kernel
theorem tyX6_ok : ∀ k, k < 23 → parseFieldDescriptor (TX6 k).2.2.1 = some (tyX6 k) := by decide +kernel
abbrev cX6_init : ByteArray := prog_8_method_1_code
def yX6_init : MethodName := ⟨RX6, "<init>", "()V"⟩
abbrev cX6_in : ByteArray := prog_8_method_3_code
def yX6_in : MethodName := ⟨RX6, "in", "(III)Z"⟩
abbrev cX6_isYears : ByteArray := prog_8_method_4_code
def yX6_isYears : MethodName := ⟨RX6, "isYears", "(II)Z"⟩
abbrev cX6_bits : ByteArray := prog_8_method_5_code
def yX6_bits : MethodName := ⟨RX6, "bits", "(I)I"⟩
abbrev cX6_state : ByteArray := prog_8_method_6_code
def yX6_state : MethodName := ⟨RX6, "state", "(III)I"⟩
abbrev cX6_about : ByteArray := prog_8_method_7_code
def yX6_about : MethodName := ⟨RX6, "about", "(II)I"⟩
abbrev cX6_set : ByteArray := prog_8_method_8_code
def yX6_set : MethodName := ⟨RX6, "set", "(II)I"⟩
abbrev cX6_isOrder : ByteArray := prog_8_method_9_code
def yX6_isOrder : MethodName := ⟨RX6, "isOrder", "(I)Z"⟩
abbrev cX6_quarrelOf : ByteArray := prog_8_method_10_code
def yX6_quarrelOf : MethodName := ⟨RX6, "quarrelOf", "()I"⟩
abbrev cX6_quarrel : ByteArray := prog_8_method_11_code
def yX6_quarrel : MethodName := ⟨RX6, "quarrel", "(I)I"⟩
abbrev cX6_best : ByteArray := prog_8_method_12_code
def yX6_best : MethodName := ⟨RX6, "best", "(I)I"⟩
abbrev cX6_isLeaf : ByteArray := prog_8_method_13_code
def yX6_isLeaf : MethodName := ⟨RX6, "isLeaf", "(I)Z"⟩
abbrev cX6_leaf : ByteArray := prog_8_method_14_code
def yX6_leaf : MethodName := ⟨RX6, "leaf", "(IIII)I"⟩
abbrev cX6_see : ByteArray := prog_8_method_15_code
def yX6_see : MethodName := ⟨RX6, "see", "(III)I"⟩
abbrev cX6_candidatesOf : ByteArray := prog_8_method_16_code
def yX6_candidatesOf : MethodName := ⟨RX6, "candidatesOf", "(I)I"⟩
abbrev cX6_candidates : ByteArray := prog_8_method_17_code
def yX6_candidates : MethodName := ⟨RX6, "candidates", "(I)I"⟩
abbrev cX6_mould : ByteArray := prog_8_method_18_code
def yX6_mould : MethodName := ⟨RX6, "mould", "(II)I"⟩
abbrev cX6_paper : ByteArray := prog_8_method_19_code
def yX6_paper : MethodName := ⟨RX6, "paper", "(II)I"⟩
abbrev cX6_imprint : ByteArray := prog_8_method_20_code
def yX6_imprint : MethodName := ⟨RX6, "imprint", "(II)I"⟩
abbrev cX6_span : ByteArray := prog_8_method_21_code
def yX6_span : MethodName := ⟨RX6, "span", "(II)I"⟩
abbrev cX6_price : ByteArray := prog_8_method_22_code
def yX6_price : MethodName := ⟨RX6, "price", "(II)I"⟩
abbrev cX6_isMap : ByteArray := prog_8_method_23_code
def yX6_isMap : MethodName := ⟨RX6, "isMap", "(I)Z"⟩
abbrev cX6_map : ByteArray := prog_8_method_24_code
def yX6_map : MethodName := ⟨RX6, "map", "(II)I"⟩
abbrev cX6_costOf : ByteArray := prog_8_method_25_code
def yX6_costOf : MethodName := ⟨RX6, "costOf", "(II)I"⟩
abbrev cX6_isFrom : ByteArray := prog_8_method_26_code
def yX6_isFrom : MethodName := ⟨RX6, "isFrom", "(II)Z"⟩
abbrev cX6_cost : ByteArray := prog_8_method_27_code
def yX6_cost : MethodName := ⟨RX6, "cost", "(II)I"⟩
abbrev cX6_fromOf : ByteArray := prog_8_method_28_code
def yX6_fromOf : MethodName := ⟨RX6, "fromOf", "(I)I"⟩
abbrev cX6_from : ByteArray := prog_8_method_29_code
def yX6_from : MethodName := ⟨RX6, "from", "(I)I"⟩
abbrev cX6_rivals : ByteArray := prog_8_method_30_code
def yX6_rivals : MethodName := ⟨RX6, "rivals", "(I)I"⟩
abbrev cX6_life : ByteArray := prog_8_method_31_code
def yX6_life : MethodName := ⟨RX6, "life", "(II)I"⟩
abbrev cX6_hole : ByteArray := prog_8_method_32_code
def yX6_hole : MethodName := ⟨RX6, "hole", "(III)I"⟩
abbrev cX6_fitsOf : ByteArray := prog_8_method_33_code
def yX6_fitsOf : MethodName := ⟨RX6, "fitsOf", "(III)I"⟩
abbrev cX6_isBook : ByteArray := prog_8_method_34_code
def yX6_isBook : MethodName := ⟨RX6, "isBook", "(I)Z"⟩
abbrev cX6_fits : ByteArray := prog_8_method_35_code
def yX6_fits : MethodName := ⟨RX6, "fits", "(III)I"⟩
abbrev cX6_shiftOf : ByteArray := prog_8_method_36_code
def yX6_shiftOf : MethodName := ⟨RX6, "shiftOf", "(II)I"⟩
abbrev cX6_shift : ByteArray := prog_8_method_37_code
def yX6_shift : MethodName := ⟨RX6, "shift", "(III)I"⟩
abbrev cX6_most : ByteArray := prog_8_method_38_code
def yX6_most : MethodName := ⟨RX6, "most", "(II)I"⟩
abbrev cX6_home : ByteArray := prog_8_method_39_code
def yX6_home : MethodName := ⟨RX6, "home", "(II)I"⟩
abbrev cX6_count : ByteArray := prog_8_method_40_code
def yX6_count : MethodName := ⟨RX6, "count", "(I)I"⟩
abbrev cX6_trace : ByteArray := prog_8_method_41_code
def yX6_trace : MethodName := ⟨RX6, "trace", "()J"⟩
def RJ6 : String := "java/lang/Integer"
def TJ6 : u_T := fun k => match k with
  | _ => ("", "", "", false)
def tyJ6 : Nat → FieldType := fun k => match k with
  | _ => .int
abbrev wsJ60 : List Cond := u_ws RJ6 TJ6 0
theorem nmJ6 : ∀ a, a < 0 → ∀ b, b < 0 → a ≠ b → (TJ6 a).2.1 ≠ (TJ6 b).2.1 := by decide +kernel
theorem tyJ6_ok : ∀ k, k < 0 → parseFieldDescriptor (TJ6 k).2.2.1 = some (tyJ6 k) := by decide +kernel
abbrev cJ6_bitCount_0f7a4 : ByteArray := prog_9_method_49_code
def yJ6_bitCount_0f7a4 : MethodName := ⟨RJ6, "bitCount", "(I)I"⟩
def RJ9 : String := "java/lang/Math"
def TJ9 : u_T := fun k => match k with
  | _ => ("", "", "", false)
def tyJ9 : Nat → FieldType := fun k => match k with
  | _ => .int
abbrev wsJ90 : List Cond := u_ws RJ9 TJ9 0
theorem nmJ9 : ∀ a, a < 0 → ∀ b, b < 0 → a ≠ b → (TJ9 a).2.1 ≠ (TJ9 b).2.1 := by decide +kernel
theorem tyJ9_ok : ∀ k, k < 0 → parseFieldDescriptor (TJ9 k).2.2.1 = some (tyJ9 k) := by decide +kernel
abbrev cJ9_abs_0f7a4 : ByteArray := prog_10_method_59_code
def yJ9_abs_0f7a4 : MethodName := ⟨RJ9, "abs", "(I)I"⟩
abbrev cJ9_max_7cf53 : ByteArray := prog_10_method_65_code
def yJ9_max_7cf53 : MethodName := ⟨RJ9, "max", "(II)I"⟩
abbrev cJ9_min_7cf53 : ByteArray := prog_10_method_69_code
def yJ9_min_7cf53 : MethodName := ⟨RJ9, "min", "(II)I"⟩
def RL : String := "PlateRoomLaw"
abbrev cL_law : ByteArray := code
def yL_law : MethodName := ⟨RL, "law", "([I)Z"⟩
abbrev vwCl : List vw_C := [(RX0, TX0, 5), (RX1, TX1, 2), (RX2, TX2, 7), (RX3, TX3, 8), (RX4, TX4, 2), (RX5, TX5, 8), (RX6, TX6, 23)]
