section
-- ===== PART A: goes FIRST, ahead of the names: the tables' words, and 'selects' of the private methods out of them =====
/-- a private method of a class that the tables say can be made, by its rows of tables_1 -/
def lw_okq (q : MethodName × Nat) : Prop := (q.1.cls ≠ "java/lang/invoke/MethodHandle" ∧ q.1.cls ≠ "java/lang/invoke/VarHandle") ∧ Cond.instantiable q.1.cls q.2 ∈ tables_1 ∧ Cond.privateMethod q.1 ∈ tables_1 ∧ Cond.instanceMethod q.1 ∈ tables_1
theorem lw_p0 : lw_okq (⟨"PlateRoom$Plate", "addState", "(III)I"⟩, 8) := ⟨⟨by decide +kernel, by decide +kernel⟩, List.mem_of_getElem? (i := 19) (by decide +kernel), List.mem_of_getElem? (i := 194) (by decide +kernel), List.mem_of_getElem? (i := 195) (by decide +kernel)⟩
theorem lw_p1 : lw_okq (⟨"PlateRoom$Years", "put", "(II)V"⟩, 2) := ⟨⟨by decide +kernel, by decide +kernel⟩, List.mem_of_getElem? (i := 28) (by decide +kernel), List.mem_of_getElem? (i := 198) (by decide +kernel), List.mem_of_getElem? (i := 199) (by decide +kernel)⟩
theorem lw_p2 : lw_okq (⟨"PlateRoom$Plate", "hasState", "(I)Z"⟩, 8) := ⟨⟨by decide +kernel, by decide +kernel⟩, List.mem_of_getElem? (i := 19) (by decide +kernel), List.mem_of_getElem? (i := 206) (by decide +kernel), List.mem_of_getElem? (i := 207) (by decide +kernel)⟩
theorem lw_p3 : lw_okq (⟨"PlateRoom", "chargeOf", "(I)I"⟩, 8) := ⟨⟨by decide +kernel, by decide +kernel⟩, List.mem_of_getElem? (i := 11) (by decide +kernel), List.mem_of_getElem? (i := 217) (by decide +kernel), List.mem_of_getElem? (i := 218) (by decide +kernel)⟩
theorem lw_p4 : lw_okq (⟨"PlateRoom", "putCharge", "(II)V"⟩, 8) := ⟨⟨by decide +kernel, by decide +kernel⟩, List.mem_of_getElem? (i := 11) (by decide +kernel), List.mem_of_getElem? (i := 221) (by decide +kernel), List.mem_of_getElem? (i := 222) (by decide +kernel)⟩
theorem lw_p5 : lw_okq (⟨"PlateRoom$Plate", "quarrelOf", "(I)I"⟩, 8) := ⟨⟨by decide +kernel, by decide +kernel⟩, List.mem_of_getElem? (i := 19) (by decide +kernel), List.mem_of_getElem? (i := 229) (by decide +kernel), List.mem_of_getElem? (i := 230) (by decide +kernel)⟩
theorem lw_p6 : lw_okq (⟨"PlateRoom$Plate", "readOrder", "(I)Z"⟩, 8) := ⟨⟨by decide +kernel, by decide +kernel⟩, List.mem_of_getElem? (i := 19) (by decide +kernel), List.mem_of_getElem? (i := 233) (by decide +kernel), List.mem_of_getElem? (i := 234) (by decide +kernel)⟩
theorem lw_p7 : lw_okq (⟨"PlateRoom$Plate", "stepQuarrel", "(III)I"⟩, 8) := ⟨⟨by decide +kernel, by decide +kernel⟩, List.mem_of_getElem? (i := 19) (by decide +kernel), List.mem_of_getElem? (i := 241) (by decide +kernel), List.mem_of_getElem? (i := 242) (by decide +kernel)⟩
theorem lw_p8 : lw_okq (⟨"PlateRoom$Plate", "bestOrder", "()I"⟩, 8) := ⟨⟨by decide +kernel, by decide +kernel⟩, List.mem_of_getElem? (i := 19) (by decide +kernel), List.mem_of_getElem? (i := 258) (by decide +kernel), List.mem_of_getElem? (i := 259) (by decide +kernel)⟩
theorem lw_p9 : lw_okq (⟨"PlateRoom$Plate", "weighWhatIsToCome", "()V"⟩, 8) := ⟨⟨by decide +kernel, by decide +kernel⟩, List.mem_of_getElem? (i := 19) (by decide +kernel), List.mem_of_getElem? (i := 262) (by decide +kernel), List.mem_of_getElem? (i := 263) (by decide +kernel)⟩
theorem lw_p10 : lw_okq (⟨"PlateRoom$Plate", "bestNext", "(II)I"⟩, 8) := ⟨⟨by decide +kernel, by decide +kernel⟩, List.mem_of_getElem? (i := 19) (by decide +kernel), List.mem_of_getElem? (i := 266) (by decide +kernel), List.mem_of_getElem? (i := 267) (by decide +kernel)⟩
theorem lw_p11 : lw_okq (⟨"PlateRoom$Plate", "quarrelBy", "(III)I"⟩, 8) := ⟨⟨by decide +kernel, by decide +kernel⟩, List.mem_of_getElem? (i := 19) (by decide +kernel), List.mem_of_getElem? (i := 270) (by decide +kernel), List.mem_of_getElem? (i := 271) (by decide +kernel)⟩
theorem lw_p12 : lw_okq (⟨"PlateRoom$Plate", "linesOf", "(I)I"⟩, 8) := ⟨⟨by decide +kernel, by decide +kernel⟩, List.mem_of_getElem? (i := 19) (by decide +kernel), List.mem_of_getElem? (i := 274) (by decide +kernel), List.mem_of_getElem? (i := 275) (by decide +kernel)⟩
theorem lw_p13 : lw_okq (⟨"PlateRoom$Leaf", "strike", "(IIII)V"⟩, 7) := ⟨⟨by decide +kernel, by decide +kernel⟩, List.mem_of_getElem? (i := 105) (by decide +kernel), List.mem_of_getElem? (i := 282) (by decide +kernel), List.mem_of_getElem? (i := 283) (by decide +kernel)⟩
theorem lw_p14 : lw_okq (⟨"PlateRoom", "isLeaf", "(I)Z"⟩, 8) := ⟨⟨by decide +kernel, by decide +kernel⟩, List.mem_of_getElem? (i := 11) (by decide +kernel), List.mem_of_getElem? (i := 290) (by decide +kernel), List.mem_of_getElem? (i := 291) (by decide +kernel)⟩
theorem lw_p15 : lw_okq (⟨"PlateRoom$Leaf", "lookOf", "(I)I"⟩, 7) := ⟨⟨by decide +kernel, by decide +kernel⟩, List.mem_of_getElem? (i := 105) (by decide +kernel), List.mem_of_getElem? (i := 297) (by decide +kernel), List.mem_of_getElem? (i := 298) (by decide +kernel)⟩
def lw_privs_1 : List (MethodName × Nat) := [(⟨"PlateRoom$Plate", "addState", "(III)I"⟩, 8), (⟨"PlateRoom$Years", "put", "(II)V"⟩, 2), (⟨"PlateRoom$Plate", "hasState", "(I)Z"⟩, 8), (⟨"PlateRoom", "chargeOf", "(I)I"⟩, 8), (⟨"PlateRoom", "putCharge", "(II)V"⟩, 8), (⟨"PlateRoom$Plate", "quarrelOf", "(I)I"⟩, 8), (⟨"PlateRoom$Plate", "readOrder", "(I)Z"⟩, 8), (⟨"PlateRoom$Plate", "stepQuarrel", "(III)I"⟩, 8), (⟨"PlateRoom$Plate", "bestOrder", "()I"⟩, 8), (⟨"PlateRoom$Plate", "weighWhatIsToCome", "()V"⟩, 8), (⟨"PlateRoom$Plate", "bestNext", "(II)I"⟩, 8), (⟨"PlateRoom$Plate", "quarrelBy", "(III)I"⟩, 8), (⟨"PlateRoom$Plate", "linesOf", "(I)I"⟩, 8), (⟨"PlateRoom$Leaf", "strike", "(IIII)V"⟩, 7), (⟨"PlateRoom", "isLeaf", "(I)Z"⟩, 8), (⟨"PlateRoom$Leaf", "lookOf", "(I)I"⟩, 7)]
theorem lw_r1 : ∀ q ∈ lw_privs_1, lw_okq q := List.forall_mem_cons.mpr ⟨lw_p0, List.forall_mem_cons.mpr ⟨lw_p1, List.forall_mem_cons.mpr ⟨lw_p2, List.forall_mem_cons.mpr ⟨lw_p3, List.forall_mem_cons.mpr ⟨lw_p4, List.forall_mem_cons.mpr ⟨lw_p5, List.forall_mem_cons.mpr ⟨lw_p6, List.forall_mem_cons.mpr ⟨lw_p7, List.forall_mem_cons.mpr ⟨lw_p8, List.forall_mem_cons.mpr ⟨lw_p9, List.forall_mem_cons.mpr ⟨lw_p10, List.forall_mem_cons.mpr ⟨lw_p11, List.forall_mem_cons.mpr ⟨lw_p12, List.forall_mem_cons.mpr ⟨lw_p13, List.forall_mem_cons.mpr ⟨lw_p14, List.forall_mem_cons.mpr ⟨lw_p15, fun _ h => absurd h List.not_mem_nil⟩⟩⟩⟩⟩⟩⟩⟩⟩⟩⟩⟩⟩⟩⟩⟩
theorem lw_p16 : lw_okq (⟨"PlateRoom$Leaf", "look", "(II)V"⟩, 7) := ⟨⟨by decide +kernel, by decide +kernel⟩, List.mem_of_getElem? (i := 105) (by decide +kernel), List.mem_of_getElem? (i := 302) (by decide +kernel), List.mem_of_getElem? (i := 303) (by decide +kernel)⟩
theorem lw_p17 : lw_okq (⟨"PlateRoom", "candidatesOf", "(LPlateRoom$Leaf;)I"⟩, 8) := ⟨⟨by decide +kernel, by decide +kernel⟩, List.mem_of_getElem? (i := 11) (by decide +kernel), List.mem_of_getElem? (i := 310) (by decide +kernel), List.mem_of_getElem? (i := 311) (by decide +kernel)⟩
theorem lw_p18 : lw_okq (⟨"PlateRoom$Plate", "statesWith", "(II)I"⟩, 8) := ⟨⟨by decide +kernel, by decide +kernel⟩, List.mem_of_getElem? (i := 19) (by decide +kernel), List.mem_of_getElem? (i := 314) (by decide +kernel), List.mem_of_getElem? (i := 315) (by decide +kernel)⟩
theorem lw_p19 : lw_okq (⟨"PlateRoom", "isMould", "(I)Z"⟩, 8) := ⟨⟨by decide +kernel, by decide +kernel⟩, List.mem_of_getElem? (i := 11) (by decide +kernel), List.mem_of_getElem? (i := 327) (by decide +kernel), List.mem_of_getElem? (i := 328) (by decide +kernel)⟩
theorem lw_p20 : lw_okq (⟨"PlateRoom", "earliestByPaper", "(LPlateRoom$Leaf;)I"⟩, 8) := ⟨⟨by decide +kernel, by decide +kernel⟩, List.mem_of_getElem? (i := 11) (by decide +kernel), List.mem_of_getElem? (i := 339) (by decide +kernel), List.mem_of_getElem? (i := 340) (by decide +kernel)⟩
theorem lw_p21 : lw_okq (⟨"PlateRoom", "latestByPaper", "(LPlateRoom$Leaf;)I"⟩, 8) := ⟨⟨by decide +kernel, by decide +kernel⟩, List.mem_of_getElem? (i := 11) (by decide +kernel), List.mem_of_getElem? (i := 346) (by decide +kernel), List.mem_of_getElem? (i := 347) (by decide +kernel)⟩
theorem lw_p22 : lw_okq (⟨"PlateRoom", "plainPrice", "(LPlateRoom$Leaf;)I"⟩, 8) := ⟨⟨by decide +kernel, by decide +kernel⟩, List.mem_of_getElem? (i := 11) (by decide +kernel), List.mem_of_getElem? (i := 358) (by decide +kernel), List.mem_of_getElem? (i := 359) (by decide +kernel)⟩
theorem lw_p23 : lw_okq (⟨"PlateRoom", "colouredPrice", "(LPlateRoom$Leaf;)I"⟩, 8) := ⟨⟨by decide +kernel, by decide +kernel⟩, List.mem_of_getElem? (i := 11) (by decide +kernel), List.mem_of_getElem? (i := 363) (by decide +kernel), List.mem_of_getElem? (i := 364) (by decide +kernel)⟩
theorem lw_p24 : lw_okq (⟨"PlateRoom", "wormPrice", "(LPlateRoom$Leaf;)I"⟩, 8) := ⟨⟨by decide +kernel, by decide +kernel⟩, List.mem_of_getElem? (i := 11) (by decide +kernel), List.mem_of_getElem? (i := 368) (by decide +kernel), List.mem_of_getElem? (i := 369) (by decide +kernel)⟩
theorem lw_p25 : lw_okq (⟨"PlateRoom$Copies", "addMap", "(II)I"⟩, 5) := ⟨⟨by decide +kernel, by decide +kernel⟩, List.mem_of_getElem? (i := 75) (by decide +kernel), List.mem_of_getElem? (i := 377) (by decide +kernel), List.mem_of_getElem? (i := 378) (by decide +kernel)⟩
theorem lw_p26 : lw_okq (⟨"PlateRoom$Copies", "mayComeFrom", "(II)Z"⟩, 5) := ⟨⟨by decide +kernel, by decide +kernel⟩, List.mem_of_getElem? (i := 75) (by decide +kernel), List.mem_of_getElem? (i := 385) (by decide +kernel), List.mem_of_getElem? (i := 386) (by decide +kernel)⟩
theorem lw_p27 : lw_okq (⟨"PlateRoom$Copies", "hasMap", "(I)Z"⟩, 5) := ⟨⟨by decide +kernel, by decide +kernel⟩, List.mem_of_getElem? (i := 75) (by decide +kernel), List.mem_of_getElem? (i := 389) (by decide +kernel), List.mem_of_getElem? (i := 390) (by decide +kernel)⟩
theorem lw_p28 : lw_okq (⟨"PlateRoom$Copies", "costOf", "(II)I"⟩, 5) := ⟨⟨by decide +kernel, by decide +kernel⟩, List.mem_of_getElem? (i := 75) (by decide +kernel), List.mem_of_getElem? (i := 393) (by decide +kernel), List.mem_of_getElem? (i := 394) (by decide +kernel)⟩
theorem lw_p29 : lw_okq (⟨"PlateRoom$Copies", "cheapest", "(I)I"⟩, 5) := ⟨⟨by decide +kernel, by decide +kernel⟩, List.mem_of_getElem? (i := 75) (by decide +kernel), List.mem_of_getElem? (i := 403) (by decide +kernel), List.mem_of_getElem? (i := 404) (by decide +kernel)⟩
theorem lw_p30 : lw_okq (⟨"PlateRoom$Copies", "rivalCount", "(I)I"⟩, 5) := ⟨⟨by decide +kernel, by decide +kernel⟩, List.mem_of_getElem? (i := 75) (by decide +kernel), List.mem_of_getElem? (i := 413) (by decide +kernel), List.mem_of_getElem? (i := 414) (by decide +kernel)⟩
theorem lw_p31 : lw_okq (⟨"PlateRoom$Copies", "lifeOf", "(II)I"⟩, 5) := ⟨⟨by decide +kernel, by decide +kernel⟩, List.mem_of_getElem? (i := 75) (by decide +kernel), List.mem_of_getElem? (i := 422) (by decide +kernel), List.mem_of_getElem? (i := 423) (by decide +kernel)⟩
def lw_privs_2 : List (MethodName × Nat) := [(⟨"PlateRoom$Leaf", "look", "(II)V"⟩, 7), (⟨"PlateRoom", "candidatesOf", "(LPlateRoom$Leaf;)I"⟩, 8), (⟨"PlateRoom$Plate", "statesWith", "(II)I"⟩, 8), (⟨"PlateRoom", "isMould", "(I)Z"⟩, 8), (⟨"PlateRoom", "earliestByPaper", "(LPlateRoom$Leaf;)I"⟩, 8), (⟨"PlateRoom", "latestByPaper", "(LPlateRoom$Leaf;)I"⟩, 8), (⟨"PlateRoom", "plainPrice", "(LPlateRoom$Leaf;)I"⟩, 8), (⟨"PlateRoom", "colouredPrice", "(LPlateRoom$Leaf;)I"⟩, 8), (⟨"PlateRoom", "wormPrice", "(LPlateRoom$Leaf;)I"⟩, 8), (⟨"PlateRoom$Copies", "addMap", "(II)I"⟩, 5), (⟨"PlateRoom$Copies", "mayComeFrom", "(II)Z"⟩, 5), (⟨"PlateRoom$Copies", "hasMap", "(I)Z"⟩, 5), (⟨"PlateRoom$Copies", "costOf", "(II)I"⟩, 5), (⟨"PlateRoom$Copies", "cheapest", "(I)I"⟩, 5), (⟨"PlateRoom$Copies", "rivalCount", "(I)I"⟩, 5), (⟨"PlateRoom$Copies", "lifeOf", "(II)I"⟩, 5)]
theorem lw_r2 : ∀ q ∈ lw_privs_2, lw_okq q := List.forall_mem_cons.mpr ⟨lw_p16, List.forall_mem_cons.mpr ⟨lw_p17, List.forall_mem_cons.mpr ⟨lw_p18, List.forall_mem_cons.mpr ⟨lw_p19, List.forall_mem_cons.mpr ⟨lw_p20, List.forall_mem_cons.mpr ⟨lw_p21, List.forall_mem_cons.mpr ⟨lw_p22, List.forall_mem_cons.mpr ⟨lw_p23, List.forall_mem_cons.mpr ⟨lw_p24, List.forall_mem_cons.mpr ⟨lw_p25, List.forall_mem_cons.mpr ⟨lw_p26, List.forall_mem_cons.mpr ⟨lw_p27, List.forall_mem_cons.mpr ⟨lw_p28, List.forall_mem_cons.mpr ⟨lw_p29, List.forall_mem_cons.mpr ⟨lw_p30, List.forall_mem_cons.mpr ⟨lw_p31, fun _ h => absurd h List.not_mem_nil⟩⟩⟩⟩⟩⟩⟩⟩⟩⟩⟩⟩⟩⟩⟩⟩
theorem lw_p32 : lw_okq (⟨"PlateRoom$Copies", "hasItFrom", "(III)Z"⟩, 5) := ⟨⟨by decide +kernel, by decide +kernel⟩, List.mem_of_getElem? (i := 75) (by decide +kernel), List.mem_of_getElem? (i := 426) (by decide +kernel), List.mem_of_getElem? (i := 427) (by decide +kernel)⟩
theorem lw_p33 : lw_okq (⟨"PlateRoom$Holes", "bore", "(I)I"⟩, 2) := ⟨⟨by decide +kernel, by decide +kernel⟩, List.mem_of_getElem? (i := 111) (by decide +kernel), List.mem_of_getElem? (i := 438) (by decide +kernel), List.mem_of_getElem? (i := 439) (by decide +kernel)⟩
theorem lw_p34 : lw_okq (⟨"PlateRoom$Holes", "isWithin", "(II)Z"⟩, 2) := ⟨⟨by decide +kernel, by decide +kernel⟩, List.mem_of_getElem? (i := 111) (by decide +kernel), List.mem_of_getElem? (i := 442) (by decide +kernel), List.mem_of_getElem? (i := 443) (by decide +kernel)⟩
theorem lw_p35 : lw_okq (⟨"PlateRoom$Holes", "fitting", "(LPlateRoom$Holes;I)I"⟩, 2) := ⟨⟨by decide +kernel, by decide +kernel⟩, List.mem_of_getElem? (i := 111) (by decide +kernel), List.mem_of_getElem? (i := 459) (by decide +kernel), List.mem_of_getElem? (i := 460) (by decide +kernel)⟩
theorem lw_p36 : lw_okq (⟨"PlateRoom$Holes", "bestShift", "(LPlateRoom$Holes;)I"⟩, 2) := ⟨⟨by decide +kernel, by decide +kernel⟩, List.mem_of_getElem? (i := 111) (by decide +kernel), List.mem_of_getElem? (i := 467) (by decide +kernel), List.mem_of_getElem? (i := 468) (by decide +kernel)⟩
theorem lw_p37 : lw_okq (⟨"PlateRoom", "homeOf", "(I)I"⟩, 8) := ⟨⟨by decide +kernel, by decide +kernel⟩, List.mem_of_getElem? (i := 11) (by decide +kernel), List.mem_of_getElem? (i := 476) (by decide +kernel), List.mem_of_getElem? (i := 477) (by decide +kernel)⟩
theorem lw_p38 : lw_okq (⟨"PlateRoom$Holes", "mostFitting", "(LPlateRoom$Holes;)I"⟩, 2) := ⟨⟨by decide +kernel, by decide +kernel⟩, List.mem_of_getElem? (i := 111) (by decide +kernel), List.mem_of_getElem? (i := 480) (by decide +kernel), List.mem_of_getElem? (i := 481) (by decide +kernel)⟩
theorem lw_p39 : lw_okq (⟨"PlateRoom", "othersByChance", "(II)I"⟩, 8) := ⟨⟨by decide +kernel, by decide +kernel⟩, List.mem_of_getElem? (i := 11) (by decide +kernel), List.mem_of_getElem? (i := 485) (by decide +kernel), List.mem_of_getElem? (i := 486) (by decide +kernel)⟩
theorem lw_p40 : lw_okq (⟨"PlateRoom", "leavesWithCandidates", "(I)I"⟩, 8) := ⟨⟨by decide +kernel, by decide +kernel⟩, List.mem_of_getElem? (i := 11) (by decide +kernel), List.mem_of_getElem? (i := 493) (by decide +kernel), List.mem_of_getElem? (i := 494) (by decide +kernel)⟩
theorem lw_p41 : lw_okq (⟨"PlateRoomModel", "isOrder", "(I)Z"⟩, 23) := ⟨⟨by decide +kernel, by decide +kernel⟩, List.mem_of_getElem? (i := 501) (by decide +kernel), List.mem_of_getElem? (i := 599) (by decide +kernel), List.mem_of_getElem? (i := 600) (by decide +kernel)⟩
theorem lw_p42 : lw_okq (⟨"PlateRoomModel", "quarrelOf", "()I"⟩, 23) := ⟨⟨by decide +kernel, by decide +kernel⟩, List.mem_of_getElem? (i := 501) (by decide +kernel), List.mem_of_getElem? (i := 603) (by decide +kernel), List.mem_of_getElem? (i := 604) (by decide +kernel)⟩
theorem lw_p43 : lw_okq (⟨"PlateRoomModel", "isLeaf", "(I)Z"⟩, 23) := ⟨⟨by decide +kernel, by decide +kernel⟩, List.mem_of_getElem? (i := 501) (by decide +kernel), List.mem_of_getElem? (i := 622) (by decide +kernel), List.mem_of_getElem? (i := 623) (by decide +kernel)⟩
theorem lw_p44 : lw_okq (⟨"PlateRoomModel", "candidatesOf", "(I)I"⟩, 23) := ⟨⟨by decide +kernel, by decide +kernel⟩, List.mem_of_getElem? (i := 501) (by decide +kernel), List.mem_of_getElem? (i := 630) (by decide +kernel), List.mem_of_getElem? (i := 631) (by decide +kernel)⟩
theorem lw_p45 : lw_okq (⟨"PlateRoomModel", "isMap", "(I)Z"⟩, 23) := ⟨⟨by decide +kernel, by decide +kernel⟩, List.mem_of_getElem? (i := 501) (by decide +kernel), List.mem_of_getElem? (i := 664) (by decide +kernel), List.mem_of_getElem? (i := 665) (by decide +kernel)⟩
theorem lw_p46 : lw_okq (⟨"PlateRoomModel", "isFrom", "(II)Z"⟩, 23) := ⟨⟨by decide +kernel, by decide +kernel⟩, List.mem_of_getElem? (i := 501) (by decide +kernel), List.mem_of_getElem? (i := 668) (by decide +kernel), List.mem_of_getElem? (i := 669) (by decide +kernel)⟩
theorem lw_p47 : lw_okq (⟨"PlateRoomModel", "costOf", "(II)I"⟩, 23) := ⟨⟨by decide +kernel, by decide +kernel⟩, List.mem_of_getElem? (i := 501) (by decide +kernel), List.mem_of_getElem? (i := 672) (by decide +kernel), List.mem_of_getElem? (i := 673) (by decide +kernel)⟩
def lw_privs_3 : List (MethodName × Nat) := [(⟨"PlateRoom$Copies", "hasItFrom", "(III)Z"⟩, 5), (⟨"PlateRoom$Holes", "bore", "(I)I"⟩, 2), (⟨"PlateRoom$Holes", "isWithin", "(II)Z"⟩, 2), (⟨"PlateRoom$Holes", "fitting", "(LPlateRoom$Holes;I)I"⟩, 2), (⟨"PlateRoom$Holes", "bestShift", "(LPlateRoom$Holes;)I"⟩, 2), (⟨"PlateRoom", "homeOf", "(I)I"⟩, 8), (⟨"PlateRoom$Holes", "mostFitting", "(LPlateRoom$Holes;)I"⟩, 2), (⟨"PlateRoom", "othersByChance", "(II)I"⟩, 8), (⟨"PlateRoom", "leavesWithCandidates", "(I)I"⟩, 8), (⟨"PlateRoomModel", "isOrder", "(I)Z"⟩, 23), (⟨"PlateRoomModel", "quarrelOf", "()I"⟩, 23), (⟨"PlateRoomModel", "isLeaf", "(I)Z"⟩, 23), (⟨"PlateRoomModel", "candidatesOf", "(I)I"⟩, 23), (⟨"PlateRoomModel", "isMap", "(I)Z"⟩, 23), (⟨"PlateRoomModel", "isFrom", "(II)Z"⟩, 23), (⟨"PlateRoomModel", "costOf", "(II)I"⟩, 23)]
theorem lw_r3 : ∀ q ∈ lw_privs_3, lw_okq q := List.forall_mem_cons.mpr ⟨lw_p32, List.forall_mem_cons.mpr ⟨lw_p33, List.forall_mem_cons.mpr ⟨lw_p34, List.forall_mem_cons.mpr ⟨lw_p35, List.forall_mem_cons.mpr ⟨lw_p36, List.forall_mem_cons.mpr ⟨lw_p37, List.forall_mem_cons.mpr ⟨lw_p38, List.forall_mem_cons.mpr ⟨lw_p39, List.forall_mem_cons.mpr ⟨lw_p40, List.forall_mem_cons.mpr ⟨lw_p41, List.forall_mem_cons.mpr ⟨lw_p42, List.forall_mem_cons.mpr ⟨lw_p43, List.forall_mem_cons.mpr ⟨lw_p44, List.forall_mem_cons.mpr ⟨lw_p45, List.forall_mem_cons.mpr ⟨lw_p46, List.forall_mem_cons.mpr ⟨lw_p47, fun _ h => absurd h List.not_mem_nil⟩⟩⟩⟩⟩⟩⟩⟩⟩⟩⟩⟩⟩⟩⟩⟩
theorem lw_p48 : lw_okq (⟨"PlateRoomModel", "fromOf", "(I)I"⟩, 23) := ⟨⟨by decide +kernel, by decide +kernel⟩, List.mem_of_getElem? (i := 501) (by decide +kernel), List.mem_of_getElem? (i := 680) (by decide +kernel), List.mem_of_getElem? (i := 681) (by decide +kernel)⟩
theorem lw_p49 : lw_okq (⟨"PlateRoomModel", "fitsOf", "(III)I"⟩, 23) := ⟨⟨by decide +kernel, by decide +kernel⟩, List.mem_of_getElem? (i := 501) (by decide +kernel), List.mem_of_getElem? (i := 703) (by decide +kernel), List.mem_of_getElem? (i := 704) (by decide +kernel)⟩
theorem lw_p50 : lw_okq (⟨"PlateRoomModel", "shiftOf", "(II)I"⟩, 23) := ⟨⟨by decide +kernel, by decide +kernel⟩, List.mem_of_getElem? (i := 501) (by decide +kernel), List.mem_of_getElem? (i := 711) (by decide +kernel), List.mem_of_getElem? (i := 712) (by decide +kernel)⟩
theorem lw_p51 : lw_okq (⟨"PlateRoomModel", "most", "(II)I"⟩, 23) := ⟨⟨by decide +kernel, by decide +kernel⟩, List.mem_of_getElem? (i := 501) (by decide +kernel), List.mem_of_getElem? (i := 719) (by decide +kernel), List.mem_of_getElem? (i := 720) (by decide +kernel)⟩
def lw_privs_4 : List (MethodName × Nat) := [(⟨"PlateRoomModel", "fromOf", "(I)I"⟩, 23), (⟨"PlateRoomModel", "fitsOf", "(III)I"⟩, 23), (⟨"PlateRoomModel", "shiftOf", "(II)I"⟩, 23), (⟨"PlateRoomModel", "most", "(II)I"⟩, 23)]
theorem lw_r4 : ∀ q ∈ lw_privs_4, lw_okq q := List.forall_mem_cons.mpr ⟨lw_p48, List.forall_mem_cons.mpr ⟨lw_p49, List.forall_mem_cons.mpr ⟨lw_p50, List.forall_mem_cons.mpr ⟨lw_p51, fun _ h => absurd h List.not_mem_nil⟩⟩⟩⟩
def lw_privs : List (MethodName × Nat) := lw_privs_1 ++ (lw_privs_2 ++ (lw_privs_3 ++ (lw_privs_4)))
def lw_tbl : List Cond := k2_sels lw_privs ++ tables_1
theorem lw_privs_ok : ∀ q ∈ lw_privs, lw_okq q := by
  show ∀ q ∈ lw_privs_1 ++ (lw_privs_2 ++ (lw_privs_3 ++ (lw_privs_4))), lw_okq q
  exact List.forall_mem_append.mpr ⟨lw_r1, List.forall_mem_append.mpr ⟨lw_r2, List.forall_mem_append.mpr ⟨lw_r3, lw_r4⟩⟩⟩
-- ===== end of PART A; then your names; then what follows =====
/-! ===== BEGIN words of one list among another's, by their places ===== -/
theorem goodIn_r {big : List Cond} (ws : List Cond) (ps : List Nat) (hp : ws = ps.filterMap (fun i => big[i]?)) (h : ws.all goodWord = true) : GoodIn big ws := by
  intro w hw
  have h1 := List.all_eq_true.mp h w hw
  rw [hp] at hw
  obtain ⟨i, -, hi⟩ := List.mem_filterMap.mp hw
  have hm : w ∈ big := by first | exact List.mem_of_getElem? hi | exact List.getElem?_mem hi
  exact ⟨hm, good_of_word h1⟩
theorem goodIn_app {big a b : List Cond} (ha : GoodIn big a) (hb : GoodIn big b) : GoodIn big (a ++ b) := fun w h => (List.mem_append.mp h).elim (ha w) (hb w)
theorem goodIn_ca {big a b : List Cond} {c : Cond} (ha : GoodIn big (c :: a)) (hb : GoodIn big b) : GoodIn big (c :: (a ++ b)) := fun w h => (List.mem_cons.mp h).elim (fun e => ha w (List.mem_cons.mpr (Or.inl e))) (fun h => (List.mem_append.mp h).elim (fun h => ha w (List.mem_cons.mpr (Or.inr h))) (hb w))
theorem goodIn_sub {big ws : List Cond} (hm : ∀ w ∈ ws, w ∈ big) (h : ws.all goodWord = true) : GoodIn big ws := fun w hw => ⟨hm w hw, good_of_word (List.all_eq_true.mp h w hw)⟩
/-! ===== END ===== -/

/-! ===== BEGIN printed: names, fields, word lists, decode rows ===== -/
def RX0 : String := "PlateRoom$Copies"
def TX0 : u_T := fun k => match k with
  | 0 => ("PlateRoom$Copies", "loss", "I", false)
  | 1 => ("PlateRoom$Copies", "alone", "I", false)
  | 2 => ("PlateRoom$Copies", "years", "[I", true)
  | 3 => ("PlateRoom$Copies", "errors", "[I", true)
  | _ => ("PlateRoom$Copies", "mapCount", "I", false)
def tyX0 : Nat → FieldType := fun k => match k with
  | 0 => .int
  | 1 => .int
  | 2 => .array .int
  | 3 => .array .int
  | _ => .int
abbrev wsX00 : List Cond := u_ws RX0 TX0 5
theorem nmX0 : ∀ a, a < 5 → ∀ b, b < 5 → a ≠ b → (TX0 a).2.1 ≠ (TX0 b).2.1 := by decide +kernel
theorem tyX0_ok : ∀ k, k < 5 → parseFieldDescriptor (TX0 k).2.2.1 = some (tyX0 k) := by decide +kernel
abbrev cX0_init : ByteArray := prog_2_method_1_code
def yX0_init : MethodName := ⟨RX0, "<init>", "()V"⟩
abbrev cX0_hasMap : ByteArray := prog_2_method_2_code
def yX0_hasMap : MethodName := ⟨RX0, "hasMap", "(I)Z"⟩
abbrev cX0_addMap : ByteArray := prog_2_method_3_code
def yX0_addMap : MethodName := ⟨RX0, "addMap", "(II)I"⟩
abbrev cX0_mayComeFrom : ByteArray := prog_2_method_4_code
def yX0_mayComeFrom : MethodName := ⟨RX0, "mayComeFrom", "(II)Z"⟩
abbrev cX0_costOf : ByteArray := prog_2_method_5_code
def yX0_costOf : MethodName := ⟨RX0, "costOf", "(II)I"⟩
abbrev cX0_cheapest : ByteArray := prog_2_method_6_code
def yX0_cheapest : MethodName := ⟨RX0, "cheapest", "(I)I"⟩
abbrev cX0_rivalCount : ByteArray := prog_2_method_7_code
def yX0_rivalCount : MethodName := ⟨RX0, "rivalCount", "(I)I"⟩
abbrev cX0_lifeOf : ByteArray := prog_2_method_8_code
def yX0_lifeOf : MethodName := ⟨RX0, "lifeOf", "(II)I"⟩
abbrev cX0_hasItFrom : ByteArray := prog_2_method_9_code
def yX0_hasItFrom : MethodName := ⟨RX0, "hasItFrom", "(III)Z"⟩
def RX1 : String := "PlateRoom$Holes"
def TX1 : u_T := fun k => match k with
  | 0 => ("PlateRoom$Holes", "places", "[I", true)
  | _ => ("PlateRoom$Holes", "placeCount", "I", false)
def tyX1 : Nat → FieldType := fun k => match k with
  | 0 => .array .int
  | _ => .int
abbrev wsX10 : List Cond := u_ws RX1 TX1 2
theorem nmX1 : ∀ a, a < 2 → ∀ b, b < 2 → a ≠ b → (TX1 a).2.1 ≠ (TX1 b).2.1 := by decide +kernel
theorem tyX1_ok : ∀ k, k < 2 → parseFieldDescriptor (TX1 k).2.2.1 = some (tyX1 k) := by decide +kernel
abbrev cX1_init : ByteArray := prog_3_method_1_code
def yX1_init : MethodName := ⟨RX1, "<init>", "()V"⟩
abbrev cX1_isPlace : ByteArray := prog_3_method_2_code
def yX1_isPlace : MethodName := ⟨RX1, "isPlace", "(I)Z"⟩
abbrev cX1_isShift : ByteArray := prog_3_method_3_code
def yX1_isShift : MethodName := ⟨RX1, "isShift", "(I)Z"⟩
abbrev cX1_bore : ByteArray := prog_3_method_4_code
def yX1_bore : MethodName := ⟨RX1, "bore", "(I)I"⟩
abbrev cX1_isWithin : ByteArray := prog_3_method_5_code
def yX1_isWithin : MethodName := ⟨RX1, "isWithin", "(II)Z"⟩
abbrev cX1_fitting : ByteArray := prog_3_method_6_code
def yX1_fitting : MethodName := ⟨RX1, "fitting", "(LPlateRoom$Holes;I)I"⟩
abbrev cX1_mostFitting : ByteArray := prog_3_method_7_code
def yX1_mostFitting : MethodName := ⟨RX1, "mostFitting", "(LPlateRoom$Holes;)I"⟩
abbrev cX1_bestShift : ByteArray := prog_3_method_8_code
def yX1_bestShift : MethodName := ⟨RX1, "bestShift", "(LPlateRoom$Holes;)I"⟩
def RX2 : String := "PlateRoom$Leaf"
def TX2 : u_T := fun k => match k with
  | 0 => ("PlateRoom$Leaf", "there", "I", false)
  | 1 => ("PlateRoom$Leaf", "gone", "I", false)
  | 2 => ("PlateRoom$Leaf", "worth", "I", false)
  | 3 => ("PlateRoom$Leaf", "colour", "I", false)
  | 4 => ("PlateRoom$Leaf", "mould", "I", false)
  | 5 => ("PlateRoom$Leaf", "imprint", "I", false)
  | _ => ("PlateRoom$Leaf", "holes", "LPlateRoom$Holes;", true)
def tyX2 : Nat → FieldType := fun k => match k with
  | 0 => .int
  | 1 => .int
  | 2 => .int
  | 3 => .int
  | 4 => .int
  | 5 => .int
  | _ => .object "PlateRoom$Holes"
abbrev wsX20 : List Cond := u_ws RX2 TX2 7
theorem nmX2 : ∀ a, a < 7 → ∀ b, b < 7 → a ≠ b → (TX2 a).2.1 ≠ (TX2 b).2.1 := by decide +kernel
theorem tyX2_ok : ∀ k, k < 7 → parseFieldDescriptor (TX2 k).2.2.1 = some (tyX2 k) := by decide +kernel
abbrev cX2_init : ByteArray := prog_4_method_1_code
def yX2_init : MethodName := ⟨RX2, "<init>", "()V"⟩
abbrev cX2_strike : ByteArray := prog_4_method_2_code
def yX2_strike : MethodName := ⟨RX2, "strike", "(IIII)V"⟩
abbrev cX2_lookOf : ByteArray := prog_4_method_3_code
def yX2_lookOf : MethodName := ⟨RX2, "lookOf", "(I)I"⟩
abbrev cX2_look : ByteArray := prog_4_method_4_code
def yX2_look : MethodName := ⟨RX2, "look", "(II)V"⟩
def RX3 : String := "PlateRoom$Plate"
def TX3 : u_T := fun k => match k with
  | 0 => ("PlateRoom$Plate", "cut", "I", false)
  | 1 => ("PlateRoom$Plate", "rub", "I", false)
  | 2 => ("PlateRoom$Plate", "again", "I", false)
  | 3 => ("PlateRoom$Plate", "lines", "[I", true)
  | 4 => ("PlateRoom$Plate", "years", "[LPlateRoom$Years;", true)
  | 5 => ("PlateRoom$Plate", "stateCount", "I", false)
  | 6 => ("PlateRoom$Plate", "read", "[I", true)
  | _ => ("PlateRoom$Plate", "toCome", "[[I", true)
def tyX3 : Nat → FieldType := fun k => match k with
  | 0 => .int
  | 1 => .int
  | 2 => .int
  | 3 => .array .int
  | 4 => .array (.object "PlateRoom$Years")
  | 5 => .int
  | 6 => .array .int
  | _ => .array (.array .int)
abbrev wsX30 : List Cond := u_ws RX3 TX3 8
theorem nmX3 : ∀ a, a < 8 → ∀ b, b < 8 → a ≠ b → (TX3 a).2.1 ≠ (TX3 b).2.1 := by decide +kernel
theorem tyX3_ok : ∀ k, k < 8 → parseFieldDescriptor (TX3 k).2.2.1 = some (tyX3 k) := by decide +kernel
abbrev cX3_init : ByteArray := prog_5_method_1_code
def yX3_init : MethodName := ⟨RX3, "<init>", "()V"⟩
abbrev cX3_hasState : ByteArray := prog_5_method_2_code
def yX3_hasState : MethodName := ⟨RX3, "hasState", "(I)Z"⟩
abbrev cX3_addState : ByteArray := prog_5_method_3_code
def yX3_addState : MethodName := ⟨RX3, "addState", "(III)I"⟩
abbrev cX3_statesWith : ByteArray := prog_5_method_4_code
def yX3_statesWith : MethodName := ⟨RX3, "statesWith", "(II)I"⟩
abbrev cX3_quarrelOf : ByteArray := prog_5_method_5_code
def yX3_quarrelOf : MethodName := ⟨RX3, "quarrelOf", "(I)I"⟩
abbrev cX3_readOrder : ByteArray := prog_5_method_6_code
def yX3_readOrder : MethodName := ⟨RX3, "readOrder", "(I)Z"⟩
abbrev cX3_stepQuarrel : ByteArray := prog_5_method_7_code
def yX3_stepQuarrel : MethodName := ⟨RX3, "stepQuarrel", "(III)I"⟩
abbrev cX3_bestOrder : ByteArray := prog_5_method_8_code
def yX3_bestOrder : MethodName := ⟨RX3, "bestOrder", "()I"⟩
abbrev cX3_weighWhatIsToCome : ByteArray := prog_5_method_9_code
def yX3_weighWhatIsToCome : MethodName := ⟨RX3, "weighWhatIsToCome", "()V"⟩
abbrev cX3_bestNext : ByteArray := prog_5_method_10_code
def yX3_bestNext : MethodName := ⟨RX3, "bestNext", "(II)I"⟩
abbrev cX3_quarrelBy : ByteArray := prog_5_method_11_code
def yX3_quarrelBy : MethodName := ⟨RX3, "quarrelBy", "(III)I"⟩
abbrev cX3_linesOf : ByteArray := prog_5_method_12_code
def yX3_linesOf : MethodName := ⟨RX3, "linesOf", "(I)I"⟩
def RX4 : String := "PlateRoom$Years"
def TX4 : u_T := fun k => match k with
  | 0 => ("PlateRoom$Years", "first", "I", false)
  | _ => ("PlateRoom$Years", "last", "I", false)
def tyX4 : Nat → FieldType := fun k => match k with
  | 0 => .int
  | _ => .int
abbrev wsX40 : List Cond := u_ws RX4 TX4 2
theorem nmX4 : ∀ a, a < 2 → ∀ b, b < 2 → a ≠ b → (TX4 a).2.1 ≠ (TX4 b).2.1 := by decide +kernel
theorem tyX4_ok : ∀ k, k < 2 → parseFieldDescriptor (TX4 k).2.2.1 = some (tyX4 k) := by decide +kernel
abbrev cX4_init : ByteArray := prog_6_method_1_code
def yX4_init : MethodName := ⟨RX4, "<init>", "()V"⟩
abbrev cX4_put : ByteArray := prog_6_method_2_code
def yX4_put : MethodName := ⟨RX4, "put", "(II)V"⟩
def RX5 : String := "PlateRoom"
def TX5 : u_T := fun k => match k with
  | 0 => ("PlateRoom", "plate", "LPlateRoom$Plate;", true)
  | 1 => ("PlateRoom", "copies", "LPlateRoom$Copies;", true)
  | 2 => ("PlateRoom", "leaves", "[LPlateRoom$Leaf;", true)
  | 3 => ("PlateRoom", "leafCount", "I", false)
  | 4 => ("PlateRoom", "moulds", "[LPlateRoom$Years;", true)
  | 5 => ("PlateRoom", "mouldCount", "I", false)
  | 6 => ("PlateRoom", "books", "[LPlateRoom$Holes;", true)
  | _ => ("PlateRoom", "pricesAsked", "J", false)
def tyX5 : Nat → FieldType := fun k => match k with
  | 0 => .object "PlateRoom$Plate"
  | 1 => .object "PlateRoom$Copies"
  | 2 => .array (.object "PlateRoom$Leaf")
  | 3 => .int
  | 4 => .array (.object "PlateRoom$Years")
  | 5 => .int
  | 6 => .array (.object "PlateRoom$Holes")
  | _ => .long
abbrev wsX50 : List Cond := u_ws RX5 TX5 8
theorem nmX5 : ∀ a, a < 8 → ∀ b, b < 8 → a ≠ b → (TX5 a).2.1 ≠ (TX5 b).2.1 := by decide +kernel
theorem tyX5_ok : ∀ k, k < 8 → parseFieldDescriptor (TX5 k).2.2.1 = some (tyX5 k) := by decide +kernel
abbrev cX5_init : ByteArray := prog_1_method_1_code
def yX5_init : MethodName := ⟨RX5, "<init>", "()V"⟩
abbrev cX5_state : ByteArray := prog_1_method_2_code
def yX5_state : MethodName := ⟨RX5, "state", "(III)I"⟩
abbrev cX5_about : ByteArray := prog_1_method_3_code
def yX5_about : MethodName := ⟨RX5, "about", "(II)I"⟩
abbrev cX5_set : ByteArray := prog_1_method_4_code
def yX5_set : MethodName := ⟨RX5, "set", "(II)I"⟩
abbrev cX5_quarrel : ByteArray := prog_1_method_5_code
def yX5_quarrel : MethodName := ⟨RX5, "quarrel", "(I)I"⟩
abbrev cX5_best : ByteArray := prog_1_method_6_code
def yX5_best : MethodName := ⟨RX5, "best", "(I)I"⟩
abbrev cX5_leaf : ByteArray := prog_1_method_7_code
def yX5_leaf : MethodName := ⟨RX5, "leaf", "(IIII)I"⟩
abbrev cX5_see : ByteArray := prog_1_method_8_code
def yX5_see : MethodName := ⟨RX5, "see", "(III)I"⟩
abbrev cX5_candidates : ByteArray := prog_1_method_9_code
def yX5_candidates : MethodName := ⟨RX5, "candidates", "(I)I"⟩
abbrev cX5_mould : ByteArray := prog_1_method_10_code
def yX5_mould : MethodName := ⟨RX5, "mould", "(II)I"⟩
abbrev cX5_paper : ByteArray := prog_1_method_11_code
def yX5_paper : MethodName := ⟨RX5, "paper", "(II)I"⟩
abbrev cX5_imprint : ByteArray := prog_1_method_12_code
def yX5_imprint : MethodName := ⟨RX5, "imprint", "(II)I"⟩
abbrev cX5_span : ByteArray := prog_1_method_13_code
def yX5_span : MethodName := ⟨RX5, "span", "(II)I"⟩
abbrev cX5_price : ByteArray := prog_1_method_14_code
def yX5_price : MethodName := ⟨RX5, "price", "(II)I"⟩
abbrev cX5_map : ByteArray := prog_1_method_15_code
def yX5_map : MethodName := ⟨RX5, "map", "(II)I"⟩
abbrev cX5_cost : ByteArray := prog_1_method_16_code
def yX5_cost : MethodName := ⟨RX5, "cost", "(II)I"⟩
abbrev cX5_from : ByteArray := prog_1_method_17_code
def yX5_from : MethodName := ⟨RX5, "from", "(I)I"⟩
abbrev cX5_rivals : ByteArray := prog_1_method_18_code
def yX5_rivals : MethodName := ⟨RX5, "rivals", "(I)I"⟩
abbrev cX5_life : ByteArray := prog_1_method_19_code
def yX5_life : MethodName := ⟨RX5, "life", "(II)I"⟩
abbrev cX5_hole : ByteArray := prog_1_method_20_code
def yX5_hole : MethodName := ⟨RX5, "hole", "(III)I"⟩
abbrev cX5_fits : ByteArray := prog_1_method_21_code
def yX5_fits : MethodName := ⟨RX5, "fits", "(III)I"⟩
abbrev cX5_shift : ByteArray := prog_1_method_22_code
def yX5_shift : MethodName := ⟨RX5, "shift", "(III)I"⟩
abbrev cX5_home : ByteArray := prog_1_method_23_code
def yX5_home : MethodName := ⟨RX5, "home", "(II)I"⟩
abbrev cX5_count : ByteArray := prog_1_method_24_code
def yX5_count : MethodName := ⟨RX5, "count", "(I)I"⟩
abbrev cX5_trace : ByteArray := prog_1_method_25_code
def yX5_trace : MethodName := ⟨RX5, "trace", "()J"⟩
abbrev cX5_has : ByteArray := prog_1_method_26_code
def yX5_has : MethodName := ⟨RX5, "has", "(II)Z"⟩
abbrev cX5_areLines : ByteArray := prog_1_method_27_code
def yX5_areLines : MethodName := ⟨RX5, "areLines", "(I)Z"⟩
abbrev cX5_isLine : ByteArray := prog_1_method_28_code
def yX5_isLine : MethodName := ⟨RX5, "isLine", "(I)Z"⟩
abbrev cX5_isYear : ByteArray := prog_1_method_29_code
def yX5_isYear : MethodName := ⟨RX5, "isYear", "(I)Z"⟩
abbrev cX5_areYears : ByteArray := prog_1_method_30_code
def yX5_areYears : MethodName := ⟨RX5, "areYears", "(II)Z"⟩
abbrev cX5_isFirstOrSecond : ByteArray := prog_1_method_31_code
def yX5_isFirstOrSecond : MethodName := ⟨RX5, "isFirstOrSecond", "(I)Z"⟩
abbrev cX5_isBook : ByteArray := prog_1_method_32_code
def yX5_isBook : MethodName := ⟨RX5, "isBook", "(I)Z"⟩
abbrev cX5_isLeaf : ByteArray := prog_1_method_33_code
def yX5_isLeaf : MethodName := ⟨RX5, "isLeaf", "(I)Z"⟩
abbrev cX5_isMould : ByteArray := prog_1_method_34_code
def yX5_isMould : MethodName := ⟨RX5, "isMould", "(I)Z"⟩
abbrev cX5_mostOfCharge : ByteArray := prog_1_method_35_code
def yX5_mostOfCharge : MethodName := ⟨RX5, "mostOfCharge", "(I)I"⟩
abbrev cX5_chargeOf : ByteArray := prog_1_method_36_code
def yX5_chargeOf : MethodName := ⟨RX5, "chargeOf", "(I)I"⟩
abbrev cX5_putCharge : ByteArray := prog_1_method_37_code
def yX5_putCharge : MethodName := ⟨RX5, "putCharge", "(II)V"⟩
abbrev cX5_candidatesOf : ByteArray := prog_1_method_38_code
def yX5_candidatesOf : MethodName := ⟨RX5, "candidatesOf", "(LPlateRoom$Leaf;)I"⟩
abbrev cX5_leavesWithCandidates : ByteArray := prog_1_method_39_code
def yX5_leavesWithCandidates : MethodName := ⟨RX5, "leavesWithCandidates", "(I)I"⟩
abbrev cX5_earliestByPaper : ByteArray := prog_1_method_40_code
def yX5_earliestByPaper : MethodName := ⟨RX5, "earliestByPaper", "(LPlateRoom$Leaf;)I"⟩
abbrev cX5_latestByPaper : ByteArray := prog_1_method_41_code
def yX5_latestByPaper : MethodName := ⟨RX5, "latestByPaper", "(LPlateRoom$Leaf;)I"⟩
abbrev cX5_plainPrice : ByteArray := prog_1_method_42_code
def yX5_plainPrice : MethodName := ⟨RX5, "plainPrice", "(LPlateRoom$Leaf;)I"⟩
abbrev cX5_colouredPrice : ByteArray := prog_1_method_43_code
def yX5_colouredPrice : MethodName := ⟨RX5, "colouredPrice", "(LPlateRoom$Leaf;)I"⟩
abbrev cX5_wormPrice : ByteArray := prog_1_method_44_code
def yX5_wormPrice : MethodName := ⟨RX5, "wormPrice", "(LPlateRoom$Leaf;)I"⟩
abbrev cX5_homeOf : ByteArray := prog_1_method_45_code
def yX5_homeOf : MethodName := ⟨RX5, "homeOf", "(I)I"⟩
abbrev cX5_othersByChance : ByteArray := prog_1_method_46_code
def yX5_othersByChance : MethodName := ⟨RX5, "othersByChance", "(II)I"⟩
def RX6 : String := "PlateRoomModel"
def TX6 : u_T := fun k => match k with
  | 0 => ("PlateRoomModel", "thrown", "I", false)
  | 1 => ("PlateRoomModel", "trace", "J", false)
  | 2 => ("PlateRoomModel", "states", "I", false)
  | 3 => ("PlateRoomModel", "lines", "[I", true)
  | 4 => ("PlateRoomModel", "from", "[I", true)
  | 5 => ("PlateRoomModel", "to", "[I", true)
  | 6 => ("PlateRoomModel", "rules", "[I", true)
  | 7 => ("PlateRoomModel", "leaves", "I", false)
  | 8 => ("PlateRoomModel", "there", "[I", true)
  | 9 => ("PlateRoomModel", "gone", "[I", true)
  | 10 => ("PlateRoomModel", "worth", "[I", true)
  | 11 => ("PlateRoomModel", "colour", "[I", true)
  | 12 => ("PlateRoomModel", "paper", "[I", true)
  | 13 => ("PlateRoomModel", "imprint", "[I", true)
  | 14 => ("PlateRoomModel", "moulds", "I", false)
  | 15 => ("PlateRoomModel", "mouldFrom", "[I", true)
  | 16 => ("PlateRoomModel", "mouldTo", "[I", true)
  | 17 => ("PlateRoomModel", "maps", "I", false)
  | 18 => ("PlateRoomModel", "year", "[I", true)
  | 19 => ("PlateRoomModel", "errors", "[I", true)
  | 20 => ("PlateRoomModel", "holeMany", "[I", true)
  | 21 => ("PlateRoomModel", "hole", "[I", true)
  | _ => ("PlateRoomModel", "digit", "[I", true)
def tyX6 : Nat → FieldType := fun k => match k with
  | 0 => .int
  | 1 => .long
  | 2 => .int
  | 3 => .array .int
  | 4 => .array .int
  | 5 => .array .int
  | 6 => .array .int
  | 7 => .int
  | 8 => .array .int
  | 9 => .array .int
  | 10 => .array .int
  | 11 => .array .int
  | 12 => .array .int
  | 13 => .array .int
  | 14 => .int
  | 15 => .array .int
  | 16 => .array .int
  | 17 => .int
  | 18 => .array .int
  | 19 => .array .int
  | 20 => .array .int
  | 21 => .array .int
  | _ => .array .int
abbrev wsX60 : List Cond := u_ws RX6 TX6 23
theorem nmX6 : ∀ a, a < 23 → ∀ b, b < 23 → a ≠ b → (TX6 a).2.1 ≠ (TX6 b).2.1 := by decide +kernel
theorem tyX6_ok : ∀ k, k < 23 → parseFieldDescriptor (TX6 k).2.2.1 = some (tyX6 k) := by decide +kernel
abbrev cX6_init : ByteArray := prog_8_method_1_code
def yX6_init : MethodName := ⟨RX6, "<init>", "()V"⟩
abbrev cX6_in : ByteArray := prog_8_method_3_code
def yX6_in : MethodName := ⟨RX6, "in", "(III)Z"⟩
abbrev cX6_isYears : ByteArray := prog_8_method_4_code
def yX6_isYears : MethodName := ⟨RX6, "isYears", "(II)Z"⟩
abbrev cX6_bits : ByteArray := prog_8_method_5_code
def yX6_bits : MethodName := ⟨RX6, "bits", "(I)I"⟩
abbrev cX6_state : ByteArray := prog_8_method_6_code
def yX6_state : MethodName := ⟨RX6, "state", "(III)I"⟩
abbrev cX6_about : ByteArray := prog_8_method_7_code
def yX6_about : MethodName := ⟨RX6, "about", "(II)I"⟩
abbrev cX6_set : ByteArray := prog_8_method_8_code
def yX6_set : MethodName := ⟨RX6, "set", "(II)I"⟩
abbrev cX6_isOrder : ByteArray := prog_8_method_9_code
def yX6_isOrder : MethodName := ⟨RX6, "isOrder", "(I)Z"⟩
abbrev cX6_quarrelOf : ByteArray := prog_8_method_10_code
def yX6_quarrelOf : MethodName := ⟨RX6, "quarrelOf", "()I"⟩
abbrev cX6_quarrel : ByteArray := prog_8_method_11_code
def yX6_quarrel : MethodName := ⟨RX6, "quarrel", "(I)I"⟩
abbrev cX6_best : ByteArray := prog_8_method_12_code
def yX6_best : MethodName := ⟨RX6, "best", "(I)I"⟩
abbrev cX6_isLeaf : ByteArray := prog_8_method_13_code
def yX6_isLeaf : MethodName := ⟨RX6, "isLeaf", "(I)Z"⟩
abbrev cX6_leaf : ByteArray := prog_8_method_14_code
def yX6_leaf : MethodName := ⟨RX6, "leaf", "(IIII)I"⟩
abbrev cX6_see : ByteArray := prog_8_method_15_code
def yX6_see : MethodName := ⟨RX6, "see", "(III)I"⟩
abbrev cX6_candidatesOf : ByteArray := prog_8_method_16_code
def yX6_candidatesOf : MethodName := ⟨RX6, "candidatesOf", "(I)I"⟩
abbrev cX6_candidates : ByteArray := prog_8_method_17_code
def yX6_candidates : MethodName := ⟨RX6, "candidates", "(I)I"⟩
abbrev cX6_mould : ByteArray := prog_8_method_18_code
def yX6_mould : MethodName := ⟨RX6, "mould", "(II)I"⟩
abbrev cX6_paper : ByteArray := prog_8_method_19_code
def yX6_paper : MethodName := ⟨RX6, "paper", "(II)I"⟩
abbrev cX6_imprint : ByteArray := prog_8_method_20_code
def yX6_imprint : MethodName := ⟨RX6, "imprint", "(II)I"⟩
abbrev cX6_span : ByteArray := prog_8_method_21_code
def yX6_span : MethodName := ⟨RX6, "span", "(II)I"⟩
abbrev cX6_price : ByteArray := prog_8_method_22_code
def yX6_price : MethodName := ⟨RX6, "price", "(II)I"⟩
abbrev cX6_isMap : ByteArray := prog_8_method_23_code
def yX6_isMap : MethodName := ⟨RX6, "isMap", "(I)Z"⟩
abbrev cX6_map : ByteArray := prog_8_method_24_code
def yX6_map : MethodName := ⟨RX6, "map", "(II)I"⟩
abbrev cX6_costOf : ByteArray := prog_8_method_25_code
def yX6_costOf : MethodName := ⟨RX6, "costOf", "(II)I"⟩
abbrev cX6_isFrom : ByteArray := prog_8_method_26_code
def yX6_isFrom : MethodName := ⟨RX6, "isFrom", "(II)Z"⟩
abbrev cX6_cost : ByteArray := prog_8_method_27_code
def yX6_cost : MethodName := ⟨RX6, "cost", "(II)I"⟩
abbrev cX6_fromOf : ByteArray := prog_8_method_28_code
def yX6_fromOf : MethodName := ⟨RX6, "fromOf", "(I)I"⟩
abbrev cX6_from : ByteArray := prog_8_method_29_code
def yX6_from : MethodName := ⟨RX6, "from", "(I)I"⟩
abbrev cX6_rivals : ByteArray := prog_8_method_30_code
def yX6_rivals : MethodName := ⟨RX6, "rivals", "(I)I"⟩
abbrev cX6_life : ByteArray := prog_8_method_31_code
def yX6_life : MethodName := ⟨RX6, "life", "(II)I"⟩
abbrev cX6_hole : ByteArray := prog_8_method_32_code
def yX6_hole : MethodName := ⟨RX6, "hole", "(III)I"⟩
abbrev cX6_fitsOf : ByteArray := prog_8_method_33_code
def yX6_fitsOf : MethodName := ⟨RX6, "fitsOf", "(III)I"⟩
abbrev cX6_isBook : ByteArray := prog_8_method_34_code
def yX6_isBook : MethodName := ⟨RX6, "isBook", "(I)Z"⟩
abbrev cX6_fits : ByteArray := prog_8_method_35_code
def yX6_fits : MethodName := ⟨RX6, "fits", "(III)I"⟩
abbrev cX6_shiftOf : ByteArray := prog_8_method_36_code
def yX6_shiftOf : MethodName := ⟨RX6, "shiftOf", "(II)I"⟩
abbrev cX6_shift : ByteArray := prog_8_method_37_code
def yX6_shift : MethodName := ⟨RX6, "shift", "(III)I"⟩
abbrev cX6_most : ByteArray := prog_8_method_38_code
def yX6_most : MethodName := ⟨RX6, "most", "(II)I"⟩
abbrev cX6_home : ByteArray := prog_8_method_39_code
def yX6_home : MethodName := ⟨RX6, "home", "(II)I"⟩
abbrev cX6_count : ByteArray := prog_8_method_40_code
def yX6_count : MethodName := ⟨RX6, "count", "(I)I"⟩
abbrev cX6_trace : ByteArray := prog_8_method_41_code
def yX6_trace : MethodName := ⟨RX6, "trace", "()J"⟩
def RJ6 : String := "java/lang/Integer"
def TJ6 : u_T := fun k => match k with
  | _ => ("", "", "", false)
def tyJ6 : Nat → FieldType := fun k => match k with
  | _ => .int
abbrev wsJ60 : List Cond := u_ws RJ6 TJ6 0
theorem nmJ6 : ∀ a, a < 0 → ∀ b, b < 0 → a ≠ b → (TJ6 a).2.1 ≠ (TJ6 b).2.1 := by decide +kernel
theorem tyJ6_ok : ∀ k, k < 0 → parseFieldDescriptor (TJ6 k).2.2.1 = some (tyJ6 k) := by decide +kernel
abbrev cJ6_bitCount_0f7a4 : ByteArray := prog_9_method_49_code
def yJ6_bitCount_0f7a4 : MethodName := ⟨RJ6, "bitCount", "(I)I"⟩
def RJ9 : String := "java/lang/Math"
def TJ9 : u_T := fun k => match k with
  | _ => ("", "", "", false)
def tyJ9 : Nat → FieldType := fun k => match k with
  | _ => .int
abbrev wsJ90 : List Cond := u_ws RJ9 TJ9 0
theorem nmJ9 : ∀ a, a < 0 → ∀ b, b < 0 → a ≠ b → (TJ9 a).2.1 ≠ (TJ9 b).2.1 := by decide +kernel
theorem tyJ9_ok : ∀ k, k < 0 → parseFieldDescriptor (TJ9 k).2.2.1 = some (tyJ9 k) := by decide +kernel
abbrev cJ9_abs_0f7a4 : ByteArray := prog_10_method_59_code
def yJ9_abs_0f7a4 : MethodName := ⟨RJ9, "abs", "(I)I"⟩
abbrev cJ9_max_7cf53 : ByteArray := prog_10_method_65_code
def yJ9_max_7cf53 : MethodName := ⟨RJ9, "max", "(II)I"⟩
abbrev cJ9_min_7cf53 : ByteArray := prog_10_method_69_code
def yJ9_min_7cf53 : MethodName := ⟨RJ9, "min", "(II)I"⟩
def RL : String := "PlateRoomLaw"
abbrev cL_law : ByteArray := code
def yL_law : MethodName := ⟨RL, "law", "([I)Z"⟩
abbrev vwCl : List vw_C := [(RX0, TX0, 5), (RX1, TX1, 2), (RX2, TX2, 7), (RX3, TX3, 8), (RX4, TX4, 2), (RX5, TX5, 8), (RX6, TX6, 23)]
end
section
/-! PART 01.w: the words of the tables that every method stands on -/
def wsU : List Cond := lw_tbl.filter goodWord
theorem wsU_in : ∀ q ∈ wsU, q ∈ lw_tbl := fun _ h => (List.mem_filter.mp h).1
theorem wsU_good : ∀ q ∈ wsU, goodWord q = true := fun _ h => (List.mem_filter.mp h).2
theorem wU_of (i : Nat) {c : Cond} (h : lw_tbl[i]? = some c) (hg : goodWord c = true) : c ∈ wsU := List.mem_filter.mpr ⟨List.mem_of_getElem? h, hg⟩
theorem wU_good {ws : List Cond} (h : GoodIn lw_tbl ws) (hg : ws.all goodWord = true) : ∀ q ∈ ws, q ∈ wsU := fun q hq => List.mem_filter.mpr ⟨(h q hq).1, List.all_eq_true.mp hg q hq⟩
theorem wU_call {c : Cond} (h : c ∈ wsU) : GoodIn wsU (c :: wsU) := fun q hq => by
  rcases List.mem_cons.mp hq with rfl | hq
  · exact ⟨h, good_of_word (wsU_good _ h)⟩
  · exact ⟨hq, good_of_word (wsU_good _ hq)⟩
def wVirt (y : MethodName) (cc : ByteArray) (nL : Nat) (ret : Option FieldType) (n : Nat) : Prop := Cond.instanceMethod y ∈ wsU ∧ Cond.selects y.cls y y ∈ wsU ∧ Cond.initialized y.cls ∈ wsU ∧ Cond.code y cc nL ret ∈ wsU ∧ y.cls ≠ "java/lang/invoke/MethodHandle" ∧ y.cls ≠ "java/lang/invoke/VarHandle" ∧ (parseMethodDescriptor y.desc).map (fun d => d.parameters.length) = some n
def wStat (y : MethodName) (cc : ByteArray) (nL : Nat) (ret : Option FieldType) (n : Nat) : Prop := Cond.static y ∈ wsU ∧ Cond.initialized y.cls ∈ wsU ∧ Cond.code y cc nL ret ∈ wsU ∧ y.cls ≠ "java/lang/invoke/MethodHandle" ∧ y.cls ≠ "java/lang/invoke/VarHandle" ∧ (parseMethodDescriptor y.desc).map (fun d => d.parameters.length) = some n
theorem uX_X0 : ∀ q ∈ u_ws RX0 TX0 5, q ∈ wsU := wU_good (goodIn_r _ [141, 143, 145, 147, 149] (by decide +kernel) (by decide +kernel)) (by decide +kernel)
theorem uX_X1 : ∀ q ∈ u_ws RX1 TX1 2, q ∈ wsU := wU_good (goodIn_r _ [171, 173] (by decide +kernel) (by decide +kernel)) (by decide +kernel)
theorem uX_X2 : ∀ q ∈ u_ws RX2 TX2 7, q ∈ wsU := wU_good (goodIn_r _ [190, 192, 194, 196, 198, 200, 202] (by decide +kernel) (by decide +kernel)) (by decide +kernel)
theorem uX_X3 : ∀ q ∈ u_ws RX3 TX3 8, q ∈ wsU := wU_good (goodIn_r _ [109, 111, 113, 115, 117, 119, 121, 123] (by decide +kernel) (by decide +kernel)) (by decide +kernel)
theorem uX_X4 : ∀ q ∈ u_ws RX4 TX4 2, q ∈ wsU := wU_good (goodIn_r _ [89, 91] (by decide +kernel) (by decide +kernel)) (by decide +kernel)
theorem uX_X5 : ∀ q ∈ u_ws RX5 TX5 8, q ∈ wsU := wU_good (goodIn_r _ [215, 217, 219, 221, 223, 225, 227, 229] (by decide +kernel) (by decide +kernel)) (by decide +kernel)
theorem uX_X6 : ∀ q ∈ u_ws RX6 TX6 23, q ∈ wsU := wU_good (goodIn_r _ [581, 583, 585, 587, 589, 591, 593, 595, 597, 599, 601, 603, 605, 607, 609, 611, 613, 615, 617, 619, 621, 623, 625] (by decide +kernel) (by decide +kernel)) (by decide +kernel)
theorem ui_RL : Cond.initialized RL ∈ wsU := wU_of 52 (by decide +kernel) rfl
theorem ui_RX5 : Cond.initialized RX5 ∈ wsU := wU_of 53 (by decide +kernel) rfl
theorem ui_RX3 : Cond.initialized RX3 ∈ wsU := wU_of 54 (by decide +kernel) rfl
theorem ui_RX4 : Cond.initialized RX4 ∈ wsU := wU_of 55 (by decide +kernel) rfl
theorem ui_RX0 : Cond.initialized RX0 ∈ wsU := wU_of 56 (by decide +kernel) rfl
theorem ui_RX2 : Cond.initialized RX2 ∈ wsU := wU_of 57 (by decide +kernel) rfl
theorem ui_RX1 : Cond.initialized RX1 ∈ wsU := wU_of 58 (by decide +kernel) rfl
theorem ui_RX6 : Cond.initialized RX6 ∈ wsU := wU_of 59 (by decide +kernel) rfl
theorem ui_RJ6 : Cond.initialized RJ6 ∈ wsU := wU_of 60 (by decide +kernel) rfl
theorem ui_RJ9 : Cond.initialized RJ9 ∈ wsU := wU_of 61 (by decide +kernel) rfl
theorem ul_RL_9 : Cond.methodLink RL 9 yX5_init ∈ wsU := wU_of 64 (by decide +kernel) rfl
theorem uf_RX4_9 : Cond.fieldLink RX4 9 "PlateRoom$Years" "first" "I" ∈ wsU := wU_of 85 (by decide +kernel) rfl
theorem uf_RX4_15 : Cond.fieldLink RX4 15 "PlateRoom$Years" "last" "I" ∈ wsU := wU_of 87 (by decide +kernel) rfl
theorem uf_RX3_9 : Cond.fieldLink RX3 9 "PlateRoom$Plate" "cut" "I" ∈ wsU := wU_of 95 (by decide +kernel) rfl
theorem uf_RX3_15 : Cond.fieldLink RX3 15 "PlateRoom$Plate" "rub" "I" ∈ wsU := wU_of 97 (by decide +kernel) rfl
theorem uf_RX3_18 : Cond.fieldLink RX3 18 "PlateRoom$Plate" "again" "I" ∈ wsU := wU_of 99 (by decide +kernel) rfl
theorem uf_RX3_21 : Cond.fieldLink RX3 21 "PlateRoom$Plate" "lines" "[I" ∈ wsU := wU_of 101 (by decide +kernel) rfl
theorem uf_RX3_27 : Cond.fieldLink RX3 27 "PlateRoom$Plate" "years" "[LPlateRoom$Years;" ∈ wsU := wU_of 103 (by decide +kernel) rfl
theorem uf_RX3_31 : Cond.fieldLink RX3 31 "PlateRoom$Plate" "stateCount" "I" ∈ wsU := wU_of 105 (by decide +kernel) rfl
theorem uf_RX3_34 : Cond.fieldLink RX3 34 "PlateRoom$Plate" "read" "[I" ∈ wsU := wU_of 107 (by decide +kernel) rfl
theorem uf_RX3_39 : Cond.fieldLink RX3 39 "PlateRoom$Plate" "toCome" "[[I" ∈ wsU := wU_of 108 (by decide +kernel) rfl
theorem uf_RX0_9 : Cond.fieldLink RX0 9 "PlateRoom$Copies" "loss" "I" ∈ wsU := wU_of 132 (by decide +kernel) rfl
theorem uf_RX0_15 : Cond.fieldLink RX0 15 "PlateRoom$Copies" "alone" "I" ∈ wsU := wU_of 134 (by decide +kernel) rfl
theorem uf_RX0_18 : Cond.fieldLink RX0 18 "PlateRoom$Copies" "years" "[I" ∈ wsU := wU_of 136 (by decide +kernel) rfl
theorem uf_RX0_22 : Cond.fieldLink RX0 22 "PlateRoom$Copies" "errors" "[I" ∈ wsU := wU_of 137 (by decide +kernel) rfl
theorem uf_RX0_25 : Cond.fieldLink RX0 25 "PlateRoom$Copies" "mapCount" "I" ∈ wsU := wU_of 139 (by decide +kernel) rfl
theorem uf_RX1_11 : Cond.fieldLink RX1 11 "PlateRoom$Holes" "places" "[I" ∈ wsU := wU_of 168 (by decide +kernel) rfl
theorem uf_RX1_15 : Cond.fieldLink RX1 15 "PlateRoom$Holes" "placeCount" "I" ∈ wsU := wU_of 169 (by decide +kernel) rfl
theorem uf_RX2_9 : Cond.fieldLink RX2 9 "PlateRoom$Leaf" "there" "I" ∈ wsU := wU_of 176 (by decide +kernel) rfl
theorem uf_RX2_15 : Cond.fieldLink RX2 15 "PlateRoom$Leaf" "gone" "I" ∈ wsU := wU_of 178 (by decide +kernel) rfl
theorem uf_RX2_18 : Cond.fieldLink RX2 18 "PlateRoom$Leaf" "worth" "I" ∈ wsU := wU_of 180 (by decide +kernel) rfl
theorem uf_RX2_21 : Cond.fieldLink RX2 21 "PlateRoom$Leaf" "colour" "I" ∈ wsU := wU_of 182 (by decide +kernel) rfl
theorem uf_RX2_24 : Cond.fieldLink RX2 24 "PlateRoom$Leaf" "mould" "I" ∈ wsU := wU_of 184 (by decide +kernel) rfl
theorem uf_RX2_27 : Cond.fieldLink RX2 27 "PlateRoom$Leaf" "imprint" "I" ∈ wsU := wU_of 186 (by decide +kernel) rfl
theorem uf_RX2_33 : Cond.fieldLink RX2 33 "PlateRoom$Leaf" "holes" "LPlateRoom$Holes;" ∈ wsU := wU_of 188 (by decide +kernel) rfl
theorem uf_RX5_10 : Cond.fieldLink RX5 10 "PlateRoom" "plate" "LPlateRoom$Plate;" ∈ wsU := wU_of 207 (by decide +kernel) rfl
theorem uf_RX5_19 : Cond.fieldLink RX5 19 "PlateRoom" "copies" "LPlateRoom$Copies;" ∈ wsU := wU_of 208 (by decide +kernel) rfl
theorem uf_RX5_25 : Cond.fieldLink RX5 25 "PlateRoom" "leaves" "[LPlateRoom$Leaf;" ∈ wsU := wU_of 209 (by decide +kernel) rfl
theorem uf_RX5_29 : Cond.fieldLink RX5 29 "PlateRoom" "leafCount" "I" ∈ wsU := wU_of 210 (by decide +kernel) rfl
theorem uf_RX5_35 : Cond.fieldLink RX5 35 "PlateRoom" "moulds" "[LPlateRoom$Years;" ∈ wsU := wU_of 211 (by decide +kernel) rfl
theorem uf_RX5_39 : Cond.fieldLink RX5 39 "PlateRoom" "mouldCount" "I" ∈ wsU := wU_of 212 (by decide +kernel) rfl
theorem uf_RX5_44 : Cond.fieldLink RX5 44 "PlateRoom" "books" "[LPlateRoom$Holes;" ∈ wsU := wU_of 213 (by decide +kernel) rfl
theorem uf_RX5_48 : Cond.fieldLink RX5 48 "PlateRoom" "pricesAsked" "J" ∈ wsU := wU_of 214 (by decide +kernel) rfl
theorem ul_RL_13 : Cond.methodLink RL 13 yX5_state ∈ wsU := wU_of 232 (by decide +kernel) rfl
theorem ul_RX5_55 : Cond.methodLink RX5 55 yX5_areLines ∈ wsU := wU_of 236 (by decide +kernel) rfl
theorem ul_RX5_59 : Cond.methodLink RX5 59 yX5_areYears ∈ wsU := wU_of 239 (by decide +kernel) rfl
theorem ul_RX5_136 : Cond.methodLink RX5 136 yX5_isYear ∈ wsU := wU_of 242 (by decide +kernel) rfl
theorem ul_RL_18 : Cond.methodLink RL 18 yX5_about ∈ wsU := wU_of 253 (by decide +kernel) rfl
theorem ul_RL_23 : Cond.methodLink RL 23 yX5_set ∈ wsU := wU_of 261 (by decide +kernel) rfl
theorem ul_RX5_83 : Cond.methodLink RX5 83 yX5_mostOfCharge ∈ wsU := wU_of 265 (by decide +kernel) rfl
theorem ul_RX5_87 : Cond.methodLink RX5 87 yX5_chargeOf ∈ wsU := wU_of 268 (by decide +kernel) rfl
theorem ul_RX5_90 : Cond.methodLink RX5 90 yX5_putCharge ∈ wsU := wU_of 272 (by decide +kernel) rfl
theorem ul_RL_27 : Cond.methodLink RL 27 yX5_quarrel ∈ wsU := wU_of 276 (by decide +kernel) rfl
theorem ul_RX3_47 : Cond.methodLink RX3 47 yX3_readOrder ∈ wsU := wU_of 284 (by decide +kernel) rfl
theorem ul_RX3_55 : Cond.methodLink RX3 55 yX3_hasState ∈ wsU := wU_of 288 (by decide +kernel) rfl
theorem ul_RX3_51 : Cond.methodLink RX3 51 yX3_stepQuarrel ∈ wsU := wU_of 292 (by decide +kernel) rfl
theorem ul_RX3_62 : Cond.methodLink RX3 62 yJ6_bitCount_0f7a4 ∈ wsU := wU_of 296 (by decide +kernel) rfl
theorem ul_RL_32 : Cond.methodLink RL 32 yX5_best ∈ wsU := wU_of 302 (by decide +kernel) rfl
theorem ul_RX5_97 : Cond.methodLink RX5 97 yX5_isFirstOrSecond ∈ wsU := wU_of 306 (by decide +kernel) rfl
theorem ul_RX3_68 : Cond.methodLink RX3 68 yX3_weighWhatIsToCome ∈ wsU := wU_of 313 (by decide +kernel) rfl
theorem ul_RX3_71 : Cond.methodLink RX3 71 yX3_bestNext ∈ wsU := wU_of 317 (by decide +kernel) rfl
theorem ul_RX3_75 : Cond.methodLink RX3 75 yX3_quarrelBy ∈ wsU := wU_of 321 (by decide +kernel) rfl
theorem ul_RX3_78 : Cond.methodLink RX3 78 yX3_linesOf ∈ wsU := wU_of 325 (by decide +kernel) rfl
theorem ul_RL_36 : Cond.methodLink RL 36 yX5_leaf ∈ wsU := wU_of 329 (by decide +kernel) rfl
theorem ul_RL_41 : Cond.methodLink RL 41 yX5_see ∈ wsU := wU_of 337 (by decide +kernel) rfl
theorem ul_RX5_111 : Cond.methodLink RX5 111 yX5_isLeaf ∈ wsU := wU_of 341 (by decide +kernel) rfl
theorem ul_RX5_114 : Cond.methodLink RX5 114 yX5_isLine ∈ wsU := wU_of 345 (by decide +kernel) rfl
theorem ul_RL_45 : Cond.methodLink RL 45 yX5_candidates ∈ wsU := wU_of 357 (by decide +kernel) rfl
theorem ul_RX5_123 : Cond.methodLink RX5 123 yX5_candidatesOf ∈ wsU := wU_of 361 (by decide +kernel) rfl
theorem ul_RL_49 : Cond.methodLink RL 49 yX5_mould ∈ wsU := wU_of 369 (by decide +kernel) rfl
theorem ul_RL_53 : Cond.methodLink RL 53 yX5_paper ∈ wsU := wU_of 374 (by decide +kernel) rfl
theorem ul_RX5_130 : Cond.methodLink RX5 130 yX5_isMould ∈ wsU := wU_of 378 (by decide +kernel) rfl
theorem ul_RL_57 : Cond.methodLink RL 57 yX5_imprint ∈ wsU := wU_of 382 (by decide +kernel) rfl
theorem ul_RL_61 : Cond.methodLink RL 61 yX5_span ∈ wsU := wU_of 386 (by decide +kernel) rfl
theorem ul_RX5_142 : Cond.methodLink RX5 142 yX5_earliestByPaper ∈ wsU := wU_of 390 (by decide +kernel) rfl
theorem ul_RX5_148 : Cond.methodLink RX5 148 yJ9_max_7cf53 ∈ wsU := wU_of 394 (by decide +kernel) rfl
theorem ul_RX5_145 : Cond.methodLink RX5 145 yX5_latestByPaper ∈ wsU := wU_of 397 (by decide +kernel) rfl
theorem ul_RX5_154 : Cond.methodLink RX5 154 yJ9_min_7cf53 ∈ wsU := wU_of 401 (by decide +kernel) rfl
theorem ul_RX5_157 : Cond.methodLink RX5 157 yX5_has ∈ wsU := wU_of 404 (by decide +kernel) rfl
theorem ul_RL_65 : Cond.methodLink RL 65 yX5_price ∈ wsU := wU_of 405 (by decide +kernel) rfl
theorem ul_RX5_160 : Cond.methodLink RX5 160 yX5_plainPrice ∈ wsU := wU_of 409 (by decide +kernel) rfl
theorem ul_RX5_253 : Cond.methodLink RX5 253 yJ6_bitCount_0f7a4 ∈ wsU := wU_of 413 (by decide +kernel) rfl
theorem ul_RX5_163 : Cond.methodLink RX5 163 yX5_colouredPrice ∈ wsU := wU_of 414 (by decide +kernel) rfl
theorem ul_RX5_166 : Cond.methodLink RX5 166 yX5_wormPrice ∈ wsU := wU_of 419 (by decide +kernel) rfl
theorem ul_RL_69 : Cond.methodLink RL 69 yX5_map ∈ wsU := wU_of 424 (by decide +kernel) rfl
theorem ul_RL_73 : Cond.methodLink RL 73 yX5_cost ∈ wsU := wU_of 432 (by decide +kernel) rfl
theorem ul_RX0_28 : Cond.methodLink RX0 28 yX0_hasMap ∈ wsU := wU_of 440 (by decide +kernel) rfl
theorem ul_RX0_32 : Cond.methodLink RX0 32 yJ6_bitCount_0f7a4 ∈ wsU := wU_of 448 (by decide +kernel) rfl
theorem ul_RL_77 : Cond.methodLink RL 77 yX5_from ∈ wsU := wU_of 449 (by decide +kernel) rfl
theorem ul_RX0_38 : Cond.methodLink RX0 38 yX0_costOf ∈ wsU := wU_of 458 (by decide +kernel) rfl
theorem ul_RX0_42 : Cond.methodLink RX0 42 yX0_mayComeFrom ∈ wsU := wU_of 459 (by decide +kernel) rfl
theorem ul_RL_81 : Cond.methodLink RL 81 yX5_rivals ∈ wsU := wU_of 460 (by decide +kernel) rfl
theorem ul_RX0_46 : Cond.methodLink RX0 46 yX0_cheapest ∈ wsU := wU_of 468 (by decide +kernel) rfl
theorem ul_RL_85 : Cond.methodLink RL 85 yX5_life ∈ wsU := wU_of 469 (by decide +kernel) rfl
theorem ul_RX0_49 : Cond.methodLink RX0 49 yX0_hasItFrom ∈ wsU := wU_of 477 (by decide +kernel) rfl
theorem ul_RL_89 : Cond.methodLink RL 89 yX5_hole ∈ wsU := wU_of 482 (by decide +kernel) rfl
theorem ul_RX1_19 : Cond.methodLink RX1 19 yX1_isWithin ∈ wsU := wU_of 493 (by decide +kernel) rfl
theorem ul_RX1_23 : Cond.methodLink RX1 23 yJ9_abs_0f7a4 ∈ wsU := wU_of 497 (by decide +kernel) rfl
theorem ul_RX5_203 : Cond.methodLink RX5 203 yX5_isBook ∈ wsU := wU_of 500 (by decide +kernel) rfl
theorem ul_RL_93 : Cond.methodLink RL 93 yX5_fits ∈ wsU := wU_of 503 (by decide +kernel) rfl
theorem ul_RL_97 : Cond.methodLink RL 97 yX5_shift ∈ wsU := wU_of 514 (by decide +kernel) rfl
theorem ul_RX1_33 : Cond.methodLink RX1 33 yX1_fitting ∈ wsU := wU_of 522 (by decide +kernel) rfl
theorem ul_RL_101 : Cond.methodLink RL 101 yX5_home ∈ wsU := wU_of 523 (by decide +kernel) rfl
theorem ul_RX5_217 : Cond.methodLink RX5 217 yX5_homeOf ∈ wsU := wU_of 527 (by decide +kernel) rfl
theorem ul_RX1_29 : Cond.methodLink RX1 29 yX1_bestShift ∈ wsU := wU_of 535 (by decide +kernel) rfl
theorem ul_RX5_220 : Cond.methodLink RX5 220 yX5_othersByChance ∈ wsU := wU_of 536 (by decide +kernel) rfl
theorem ul_RL_105 : Cond.methodLink RL 105 yX5_count ∈ wsU := wU_of 540 (by decide +kernel) rfl
theorem ul_RX5_226 : Cond.methodLink RX5 226 yX5_leavesWithCandidates ∈ wsU := wU_of 544 (by decide +kernel) rfl
theorem ul_RL_109 : Cond.methodLink RL 109 yX5_trace ∈ wsU := wU_of 548 (by decide +kernel) rfl
theorem ul_RL_12 : Cond.methodLink RL 12 yX6_init ∈ wsU := wU_of 554 (by decide +kernel) rfl
theorem uf_RX6_61 : Cond.fieldLink RX6 61 "PlateRoomModel" "thrown" "I" ∈ wsU := wU_of 558 (by decide +kernel) rfl
theorem uf_RX6_100 : Cond.fieldLink RX6 100 "PlateRoomModel" "trace" "J" ∈ wsU := wU_of 559 (by decide +kernel) rfl
theorem uf_RX6_73 : Cond.fieldLink RX6 73 "PlateRoomModel" "states" "I" ∈ wsU := wU_of 560 (by decide +kernel) rfl
theorem uf_RX6_7 : Cond.fieldLink RX6 7 "PlateRoomModel" "lines" "[I" ∈ wsU := wU_of 561 (by decide +kernel) rfl
theorem uf_RX6_13 : Cond.fieldLink RX6 13 "PlateRoomModel" "from" "[I" ∈ wsU := wU_of 562 (by decide +kernel) rfl
theorem uf_RX6_16 : Cond.fieldLink RX6 16 "PlateRoomModel" "to" "[I" ∈ wsU := wU_of 563 (by decide +kernel) rfl
theorem uf_RX6_19 : Cond.fieldLink RX6 19 "PlateRoomModel" "rules" "[I" ∈ wsU := wU_of 564 (by decide +kernel) rfl
theorem uf_RX6_88 : Cond.fieldLink RX6 88 "PlateRoomModel" "leaves" "I" ∈ wsU := wU_of 565 (by decide +kernel) rfl
theorem uf_RX6_22 : Cond.fieldLink RX6 22 "PlateRoomModel" "there" "[I" ∈ wsU := wU_of 566 (by decide +kernel) rfl
theorem uf_RX6_25 : Cond.fieldLink RX6 25 "PlateRoomModel" "gone" "[I" ∈ wsU := wU_of 567 (by decide +kernel) rfl
theorem uf_RX6_28 : Cond.fieldLink RX6 28 "PlateRoomModel" "worth" "[I" ∈ wsU := wU_of 568 (by decide +kernel) rfl
theorem uf_RX6_31 : Cond.fieldLink RX6 31 "PlateRoomModel" "colour" "[I" ∈ wsU := wU_of 569 (by decide +kernel) rfl
theorem uf_RX6_34 : Cond.fieldLink RX6 34 "PlateRoomModel" "paper" "[I" ∈ wsU := wU_of 570 (by decide +kernel) rfl
theorem uf_RX6_37 : Cond.fieldLink RX6 37 "PlateRoomModel" "imprint" "[I" ∈ wsU := wU_of 571 (by decide +kernel) rfl
theorem uf_RX6_97 : Cond.fieldLink RX6 97 "PlateRoomModel" "moulds" "I" ∈ wsU := wU_of 572 (by decide +kernel) rfl
theorem uf_RX6_40 : Cond.fieldLink RX6 40 "PlateRoomModel" "mouldFrom" "[I" ∈ wsU := wU_of 573 (by decide +kernel) rfl
theorem uf_RX6_43 : Cond.fieldLink RX6 43 "PlateRoomModel" "mouldTo" "[I" ∈ wsU := wU_of 574 (by decide +kernel) rfl
theorem uf_RX6_108 : Cond.fieldLink RX6 108 "PlateRoomModel" "maps" "I" ∈ wsU := wU_of 575 (by decide +kernel) rfl
theorem uf_RX6_46 : Cond.fieldLink RX6 46 "PlateRoomModel" "year" "[I" ∈ wsU := wU_of 576 (by decide +kernel) rfl
theorem uf_RX6_49 : Cond.fieldLink RX6 49 "PlateRoomModel" "errors" "[I" ∈ wsU := wU_of 577 (by decide +kernel) rfl
theorem uf_RX6_52 : Cond.fieldLink RX6 52 "PlateRoomModel" "holeMany" "[I" ∈ wsU := wU_of 578 (by decide +kernel) rfl
theorem uf_RX6_55 : Cond.fieldLink RX6 55 "PlateRoomModel" "hole" "[I" ∈ wsU := wU_of 579 (by decide +kernel) rfl
theorem uf_RX6_58 : Cond.fieldLink RX6 58 "PlateRoomModel" "digit" "[I" ∈ wsU := wU_of 580 (by decide +kernel) rfl
theorem ul_RL_17 : Cond.methodLink RL 17 yX6_state ∈ wsU := wU_of 628 (by decide +kernel) rfl
theorem ul_RX6_65 : Cond.methodLink RX6 65 yX6_in ∈ wsU := wU_of 632 (by decide +kernel) rfl
theorem ul_RX6_69 : Cond.methodLink RX6 69 yX6_isYears ∈ wsU := wU_of 635 (by decide +kernel) rfl
theorem ul_RL_22 : Cond.methodLink RL 22 yX6_about ∈ wsU := wU_of 638 (by decide +kernel) rfl
theorem ul_RL_26 : Cond.methodLink RL 26 yX6_set ∈ wsU := wU_of 642 (by decide +kernel) rfl
theorem ul_RL_31 : Cond.methodLink RL 31 yX6_quarrel ∈ wsU := wU_of 646 (by decide +kernel) rfl
theorem ul_RX6_80 : Cond.methodLink RX6 80 yX6_isOrder ∈ wsU := wU_of 650 (by decide +kernel) rfl
theorem ul_RX6_84 : Cond.methodLink RX6 84 yX6_quarrelOf ∈ wsU := wU_of 654 (by decide +kernel) rfl
theorem ul_RX6_76 : Cond.methodLink RX6 76 yX6_bits ∈ wsU := wU_of 658 (by decide +kernel) rfl
theorem ul_RL_35 : Cond.methodLink RL 35 yX6_best ∈ wsU := wU_of 661 (by decide +kernel) rfl
theorem ul_RL_40 : Cond.methodLink RL 40 yX6_leaf ∈ wsU := wU_of 665 (by decide +kernel) rfl
theorem ul_RL_44 : Cond.methodLink RL 44 yX6_see ∈ wsU := wU_of 669 (by decide +kernel) rfl
theorem ul_RX6_91 : Cond.methodLink RX6 91 yX6_isLeaf ∈ wsU := wU_of 673 (by decide +kernel) rfl
theorem ul_RL_48 : Cond.methodLink RL 48 yX6_candidates ∈ wsU := wU_of 677 (by decide +kernel) rfl
theorem ul_RX6_94 : Cond.methodLink RX6 94 yX6_candidatesOf ∈ wsU := wU_of 681 (by decide +kernel) rfl
theorem ul_RL_52 : Cond.methodLink RL 52 yX6_mould ∈ wsU := wU_of 685 (by decide +kernel) rfl
theorem ul_RL_56 : Cond.methodLink RL 56 yX6_paper ∈ wsU := wU_of 689 (by decide +kernel) rfl
theorem ul_RL_60 : Cond.methodLink RL 60 yX6_imprint ∈ wsU := wU_of 693 (by decide +kernel) rfl
theorem ul_RL_64 : Cond.methodLink RL 64 yX6_span ∈ wsU := wU_of 697 (by decide +kernel) rfl
theorem ul_RL_68 : Cond.methodLink RL 68 yX6_price ∈ wsU := wU_of 701 (by decide +kernel) rfl
theorem ul_RL_72 : Cond.methodLink RL 72 yX6_map ∈ wsU := wU_of 707 (by decide +kernel) rfl
theorem ul_RL_76 : Cond.methodLink RL 76 yX6_cost ∈ wsU := wU_of 711 (by decide +kernel) rfl
theorem ul_RX6_111 : Cond.methodLink RX6 111 yX6_isMap ∈ wsU := wU_of 715 (by decide +kernel) rfl
theorem ul_RX6_114 : Cond.methodLink RX6 114 yX6_isFrom ∈ wsU := wU_of 719 (by decide +kernel) rfl
theorem ul_RX6_117 : Cond.methodLink RX6 117 yX6_costOf ∈ wsU := wU_of 723 (by decide +kernel) rfl
theorem ul_RL_80 : Cond.methodLink RL 80 yX6_from ∈ wsU := wU_of 727 (by decide +kernel) rfl
theorem ul_RX6_121 : Cond.methodLink RX6 121 yX6_fromOf ∈ wsU := wU_of 731 (by decide +kernel) rfl
theorem ul_RL_84 : Cond.methodLink RL 84 yX6_rivals ∈ wsU := wU_of 735 (by decide +kernel) rfl
theorem ul_RL_88 : Cond.methodLink RL 88 yX6_life ∈ wsU := wU_of 739 (by decide +kernel) rfl
theorem ul_RL_92 : Cond.methodLink RL 92 yX6_hole ∈ wsU := wU_of 743 (by decide +kernel) rfl
theorem ul_RL_96 : Cond.methodLink RL 96 yX6_fits ∈ wsU := wU_of 747 (by decide +kernel) rfl
theorem ul_RX6_124 : Cond.methodLink RX6 124 yX6_isBook ∈ wsU := wU_of 751 (by decide +kernel) rfl
theorem ul_RX6_127 : Cond.methodLink RX6 127 yX6_fitsOf ∈ wsU := wU_of 754 (by decide +kernel) rfl
theorem ul_RL_100 : Cond.methodLink RL 100 yX6_shift ∈ wsU := wU_of 758 (by decide +kernel) rfl
theorem ul_RX6_131 : Cond.methodLink RX6 131 yX6_shiftOf ∈ wsU := wU_of 762 (by decide +kernel) rfl
theorem ul_RL_104 : Cond.methodLink RL 104 yX6_home ∈ wsU := wU_of 766 (by decide +kernel) rfl
theorem ul_RX6_134 : Cond.methodLink RX6 134 yX6_most ∈ wsU := wU_of 770 (by decide +kernel) rfl
theorem ul_RL_108 : Cond.methodLink RL 108 yX6_count ∈ wsU := wU_of 774 (by decide +kernel) rfl
theorem ul_RL_113 : Cond.methodLink RL 113 yX6_trace ∈ wsU := wU_of 778 (by decide +kernel) rfl
theorem us_max : Cond.static Lib.Math.max.name ∈ wsU := wU_of 395 (by decide +kernel) rfl
theorem uc_max : Cond.code Lib.Math.max.name Lib.Math.max.code 2 (some .int) ∈ wsU := wU_of 396 (by decide +kernel) rfl
theorem us_min : Cond.static Lib.Math.min.name ∈ wsU := wU_of 402 (by decide +kernel) rfl
theorem uc_min : Cond.code Lib.Math.min.name Lib.Math.min.code 2 (some .int) ∈ wsU := wU_of 403 (by decide +kernel) rfl
theorem us_abs : Cond.static Lib.Math.abs.name ∈ wsU := wU_of 498 (by decide +kernel) rfl
theorem uc_abs : Cond.code Lib.Math.abs.name Lib.Math.abs.code 1 (some .int) ∈ wsU := wU_of 499 (by decide +kernel) rfl
theorem ui_Math : Cond.initialized "java/lang/Math" ∈ wsU := wU_of 61 (by decide +kernel) rfl
theorem uk_RJ6_265 : Cond.constant RJ6 265 1431655765 ∈ wsU := wU_of 299 (by decide +kernel) rfl
theorem uk_RJ6_266 : Cond.constant RJ6 266 858993459 ∈ wsU := wU_of 300 (by decide +kernel) rfl
theorem uk_RJ6_267 : Cond.constant RJ6 267 252645135 ∈ wsU := wU_of 301 (by decide +kernel) rfl
theorem uk_RX5_261 : Cond.constantLong RX5 261 10 ∈ wsU := wU_of 418 (by decide +kernel) rfl
theorem uk_RX5_266 : Cond.constantLong RX5 266 100 ∈ wsU := wU_of 423 (by decide +kernel) rfl
theorem uk_RX6_104 : Cond.constantLong RX6 104 11 ∈ wsU := wU_of 705 (by decide +kernel) rfl
theorem uk_RX6_106 : Cond.constantLong RX6 106 111 ∈ wsU := wU_of 706 (by decide +kernel) rfl
theorem uv_X5_state : wVirt yX5_state cX5_state 4 (some .int) 3 := ⟨wU_of 233 (by decide +kernel) rfl, wU_of 234 (by decide +kernel) rfl, wU_of 53 (by decide +kernel) rfl, wU_of 235 (by decide +kernel) rfl, by decide +kernel, by decide +kernel, by decide +kernel⟩
theorem us_X5_areLines : wStat yX5_areLines cX5_areLines 1 (some .boolean) 1 := ⟨wU_of 237 (by decide +kernel) rfl, wU_of 53 (by decide +kernel) rfl, wU_of 238 (by decide +kernel) rfl, by decide +kernel, by decide +kernel, by decide +kernel⟩
theorem us_X5_areYears : wStat yX5_areYears cX5_areYears 2 (some .boolean) 2 := ⟨wU_of 240 (by decide +kernel) rfl, wU_of 53 (by decide +kernel) rfl, wU_of 241 (by decide +kernel) rfl, by decide +kernel, by decide +kernel, by decide +kernel⟩
theorem us_X5_isYear : wStat yX5_isYear cX5_isYear 1 (some .boolean) 1 := ⟨wU_of 243 (by decide +kernel) rfl, wU_of 53 (by decide +kernel) rfl, wU_of 244 (by decide +kernel) rfl, by decide +kernel, by decide +kernel, by decide +kernel⟩
theorem uv_X3_addState : wVirt yX3_addState cX3_addState 4 (some .int) 3 := ⟨wU_of 247 (by decide +kernel) rfl, wU_of 0 (by decide +kernel) rfl, wU_of 54 (by decide +kernel) rfl, wU_of 248 (by decide +kernel) rfl, by decide +kernel, by decide +kernel, by decide +kernel⟩
theorem uv_X4_put : wVirt yX4_put cX4_put 3 none 2 := ⟨wU_of 251 (by decide +kernel) rfl, wU_of 1 (by decide +kernel) rfl, wU_of 55 (by decide +kernel) rfl, wU_of 252 (by decide +kernel) rfl, by decide +kernel, by decide +kernel, by decide +kernel⟩
theorem uv_X5_about : wVirt yX5_about cX5_about 3 (some .int) 2 := ⟨wU_of 254 (by decide +kernel) rfl, wU_of 255 (by decide +kernel) rfl, wU_of 53 (by decide +kernel) rfl, wU_of 256 (by decide +kernel) rfl, by decide +kernel, by decide +kernel, by decide +kernel⟩
theorem uv_X3_hasState : wVirt yX3_hasState cX3_hasState 2 (some .boolean) 1 := ⟨wU_of 259 (by decide +kernel) rfl, wU_of 2 (by decide +kernel) rfl, wU_of 54 (by decide +kernel) rfl, wU_of 260 (by decide +kernel) rfl, by decide +kernel, by decide +kernel, by decide +kernel⟩
theorem uv_X5_set : wVirt yX5_set cX5_set 4 (some .int) 2 := ⟨wU_of 262 (by decide +kernel) rfl, wU_of 263 (by decide +kernel) rfl, wU_of 53 (by decide +kernel) rfl, wU_of 264 (by decide +kernel) rfl, by decide +kernel, by decide +kernel, by decide +kernel⟩
theorem us_X5_mostOfCharge : wStat yX5_mostOfCharge cX5_mostOfCharge 1 (some .int) 1 := ⟨wU_of 266 (by decide +kernel) rfl, wU_of 53 (by decide +kernel) rfl, wU_of 267 (by decide +kernel) rfl, by decide +kernel, by decide +kernel, by decide +kernel⟩
theorem uv_X5_chargeOf : wVirt yX5_chargeOf cX5_chargeOf 2 (some .int) 1 := ⟨wU_of 270 (by decide +kernel) rfl, wU_of 3 (by decide +kernel) rfl, wU_of 53 (by decide +kernel) rfl, wU_of 271 (by decide +kernel) rfl, by decide +kernel, by decide +kernel, by decide +kernel⟩
theorem uv_X5_putCharge : wVirt yX5_putCharge cX5_putCharge 3 none 2 := ⟨wU_of 274 (by decide +kernel) rfl, wU_of 4 (by decide +kernel) rfl, wU_of 53 (by decide +kernel) rfl, wU_of 275 (by decide +kernel) rfl, by decide +kernel, by decide +kernel, by decide +kernel⟩
theorem uv_X5_quarrel : wVirt yX5_quarrel cX5_quarrel 2 (some .int) 1 := ⟨wU_of 277 (by decide +kernel) rfl, wU_of 278 (by decide +kernel) rfl, wU_of 53 (by decide +kernel) rfl, wU_of 279 (by decide +kernel) rfl, by decide +kernel, by decide +kernel, by decide +kernel⟩
theorem uv_X3_quarrelOf : wVirt yX3_quarrelOf cX3_quarrelOf 5 (some .int) 1 := ⟨wU_of 282 (by decide +kernel) rfl, wU_of 5 (by decide +kernel) rfl, wU_of 54 (by decide +kernel) rfl, wU_of 283 (by decide +kernel) rfl, by decide +kernel, by decide +kernel, by decide +kernel⟩
theorem uv_X3_readOrder : wVirt yX3_readOrder cX3_readOrder 6 (some .boolean) 1 := ⟨wU_of 286 (by decide +kernel) rfl, wU_of 6 (by decide +kernel) rfl, wU_of 54 (by decide +kernel) rfl, wU_of 287 (by decide +kernel) rfl, by decide +kernel, by decide +kernel, by decide +kernel⟩
theorem us_X5_has : wStat yX5_has cX5_has 2 (some .boolean) 2 := ⟨wU_of 290 (by decide +kernel) rfl, wU_of 53 (by decide +kernel) rfl, wU_of 291 (by decide +kernel) rfl, by decide +kernel, by decide +kernel, by decide +kernel⟩
theorem uv_X3_stepQuarrel : wVirt yX3_stepQuarrel cX3_stepQuarrel 6 (some .int) 3 := ⟨wU_of 294 (by decide +kernel) rfl, wU_of 7 (by decide +kernel) rfl, wU_of 54 (by decide +kernel) rfl, wU_of 295 (by decide +kernel) rfl, by decide +kernel, by decide +kernel, by decide +kernel⟩
theorem us_J6_bitCount_0f7a4 : wStat yJ6_bitCount_0f7a4 cJ6_bitCount_0f7a4 1 (some .int) 1 := ⟨wU_of 297 (by decide +kernel) rfl, wU_of 60 (by decide +kernel) rfl, wU_of 298 (by decide +kernel) rfl, by decide +kernel, by decide +kernel, by decide +kernel⟩
theorem uv_X5_best : wVirt yX5_best cX5_best 3 (some .int) 1 := ⟨wU_of 303 (by decide +kernel) rfl, wU_of 304 (by decide +kernel) rfl, wU_of 53 (by decide +kernel) rfl, wU_of 305 (by decide +kernel) rfl, by decide +kernel, by decide +kernel, by decide +kernel⟩
theorem us_X5_isFirstOrSecond : wStat yX5_isFirstOrSecond cX5_isFirstOrSecond 1 (some .boolean) 1 := ⟨wU_of 307 (by decide +kernel) rfl, wU_of 53 (by decide +kernel) rfl, wU_of 308 (by decide +kernel) rfl, by decide +kernel, by decide +kernel, by decide +kernel⟩
theorem uv_X3_bestOrder : wVirt yX3_bestOrder cX3_bestOrder 5 (some .int) 0 := ⟨wU_of 311 (by decide +kernel) rfl, wU_of 8 (by decide +kernel) rfl, wU_of 54 (by decide +kernel) rfl, wU_of 312 (by decide +kernel) rfl, by decide +kernel, by decide +kernel, by decide +kernel⟩
theorem uv_X3_weighWhatIsToCome : wVirt yX3_weighWhatIsToCome cX3_weighWhatIsToCome 4 none 0 := ⟨wU_of 315 (by decide +kernel) rfl, wU_of 9 (by decide +kernel) rfl, wU_of 54 (by decide +kernel) rfl, wU_of 316 (by decide +kernel) rfl, by decide +kernel, by decide +kernel, by decide +kernel⟩
theorem uv_X3_bestNext : wVirt yX3_bestNext cX3_bestNext 7 (some .int) 2 := ⟨wU_of 319 (by decide +kernel) rfl, wU_of 10 (by decide +kernel) rfl, wU_of 54 (by decide +kernel) rfl, wU_of 320 (by decide +kernel) rfl, by decide +kernel, by decide +kernel, by decide +kernel⟩
theorem uv_X3_quarrelBy : wVirt yX3_quarrelBy cX3_quarrelBy 5 (some .int) 3 := ⟨wU_of 323 (by decide +kernel) rfl, wU_of 11 (by decide +kernel) rfl, wU_of 54 (by decide +kernel) rfl, wU_of 324 (by decide +kernel) rfl, by decide +kernel, by decide +kernel, by decide +kernel⟩
theorem uv_X3_linesOf : wVirt yX3_linesOf cX3_linesOf 4 (some .int) 1 := ⟨wU_of 327 (by decide +kernel) rfl, wU_of 12 (by decide +kernel) rfl, wU_of 54 (by decide +kernel) rfl, wU_of 328 (by decide +kernel) rfl, by decide +kernel, by decide +kernel, by decide +kernel⟩
theorem uv_X5_leaf : wVirt yX5_leaf cX5_leaf 5 (some .int) 4 := ⟨wU_of 330 (by decide +kernel) rfl, wU_of 331 (by decide +kernel) rfl, wU_of 53 (by decide +kernel) rfl, wU_of 332 (by decide +kernel) rfl, by decide +kernel, by decide +kernel, by decide +kernel⟩
theorem uv_X2_strike : wVirt yX2_strike cX2_strike 5 none 4 := ⟨wU_of 335 (by decide +kernel) rfl, wU_of 13 (by decide +kernel) rfl, wU_of 57 (by decide +kernel) rfl, wU_of 336 (by decide +kernel) rfl, by decide +kernel, by decide +kernel, by decide +kernel⟩
theorem uv_X5_see : wVirt yX5_see cX5_see 5 (some .int) 3 := ⟨wU_of 338 (by decide +kernel) rfl, wU_of 339 (by decide +kernel) rfl, wU_of 53 (by decide +kernel) rfl, wU_of 340 (by decide +kernel) rfl, by decide +kernel, by decide +kernel, by decide +kernel⟩
theorem uv_X5_isLeaf : wVirt yX5_isLeaf cX5_isLeaf 2 (some .boolean) 1 := ⟨wU_of 343 (by decide +kernel) rfl, wU_of 14 (by decide +kernel) rfl, wU_of 53 (by decide +kernel) rfl, wU_of 344 (by decide +kernel) rfl, by decide +kernel, by decide +kernel, by decide +kernel⟩
theorem us_X5_isLine : wStat yX5_isLine cX5_isLine 1 (some .boolean) 1 := ⟨wU_of 346 (by decide +kernel) rfl, wU_of 53 (by decide +kernel) rfl, wU_of 347 (by decide +kernel) rfl, by decide +kernel, by decide +kernel, by decide +kernel⟩
theorem uv_X2_lookOf : wVirt yX2_lookOf cX2_lookOf 2 (some .int) 1 := ⟨wU_of 350 (by decide +kernel) rfl, wU_of 15 (by decide +kernel) rfl, wU_of 57 (by decide +kernel) rfl, wU_of 351 (by decide +kernel) rfl, by decide +kernel, by decide +kernel, by decide +kernel⟩
theorem uv_X2_look : wVirt yX2_look cX2_look 4 none 2 := ⟨wU_of 355 (by decide +kernel) rfl, wU_of 16 (by decide +kernel) rfl, wU_of 57 (by decide +kernel) rfl, wU_of 356 (by decide +kernel) rfl, by decide +kernel, by decide +kernel, by decide +kernel⟩
theorem uv_X5_candidates : wVirt yX5_candidates cX5_candidates 2 (some .int) 1 := ⟨wU_of 358 (by decide +kernel) rfl, wU_of 359 (by decide +kernel) rfl, wU_of 53 (by decide +kernel) rfl, wU_of 360 (by decide +kernel) rfl, by decide +kernel, by decide +kernel, by decide +kernel⟩
theorem uv_X5_candidatesOf : wVirt yX5_candidatesOf cX5_candidatesOf 2 (some .int) 1 := ⟨wU_of 363 (by decide +kernel) rfl, wU_of 17 (by decide +kernel) rfl, wU_of 53 (by decide +kernel) rfl, wU_of 364 (by decide +kernel) rfl, by decide +kernel, by decide +kernel, by decide +kernel⟩
theorem uv_X3_statesWith : wVirt yX3_statesWith cX3_statesWith 5 (some .int) 2 := ⟨wU_of 367 (by decide +kernel) rfl, wU_of 18 (by decide +kernel) rfl, wU_of 54 (by decide +kernel) rfl, wU_of 368 (by decide +kernel) rfl, by decide +kernel, by decide +kernel, by decide +kernel⟩
theorem uv_X5_mould : wVirt yX5_mould cX5_mould 3 (some .int) 2 := ⟨wU_of 370 (by decide +kernel) rfl, wU_of 371 (by decide +kernel) rfl, wU_of 53 (by decide +kernel) rfl, wU_of 372 (by decide +kernel) rfl, by decide +kernel, by decide +kernel, by decide +kernel⟩
theorem uv_X5_paper : wVirt yX5_paper cX5_paper 4 (some .int) 2 := ⟨wU_of 375 (by decide +kernel) rfl, wU_of 376 (by decide +kernel) rfl, wU_of 53 (by decide +kernel) rfl, wU_of 377 (by decide +kernel) rfl, by decide +kernel, by decide +kernel, by decide +kernel⟩
theorem uv_X5_isMould : wVirt yX5_isMould cX5_isMould 2 (some .boolean) 1 := ⟨wU_of 380 (by decide +kernel) rfl, wU_of 19 (by decide +kernel) rfl, wU_of 53 (by decide +kernel) rfl, wU_of 381 (by decide +kernel) rfl, by decide +kernel, by decide +kernel, by decide +kernel⟩
theorem uv_X5_imprint : wVirt yX5_imprint cX5_imprint 4 (some .int) 2 := ⟨wU_of 383 (by decide +kernel) rfl, wU_of 384 (by decide +kernel) rfl, wU_of 53 (by decide +kernel) rfl, wU_of 385 (by decide +kernel) rfl, by decide +kernel, by decide +kernel, by decide +kernel⟩
theorem uv_X5_span : wVirt yX5_span cX5_span 12 (some .int) 2 := ⟨wU_of 387 (by decide +kernel) rfl, wU_of 388 (by decide +kernel) rfl, wU_of 53 (by decide +kernel) rfl, wU_of 389 (by decide +kernel) rfl, by decide +kernel, by decide +kernel, by decide +kernel⟩
theorem uv_X5_earliestByPaper : wVirt yX5_earliestByPaper cX5_earliestByPaper 3 (some .int) 1 := ⟨wU_of 392 (by decide +kernel) rfl, wU_of 20 (by decide +kernel) rfl, wU_of 53 (by decide +kernel) rfl, wU_of 393 (by decide +kernel) rfl, by decide +kernel, by decide +kernel, by decide +kernel⟩
theorem us_J9_max_7cf53 : wStat yJ9_max_7cf53 cJ9_max_7cf53 2 (some .int) 2 := ⟨wU_of 395 (by decide +kernel) rfl, wU_of 61 (by decide +kernel) rfl, wU_of 396 (by decide +kernel) rfl, by decide +kernel, by decide +kernel, by decide +kernel⟩
theorem uv_X5_latestByPaper : wVirt yX5_latestByPaper cX5_latestByPaper 2 (some .int) 1 := ⟨wU_of 399 (by decide +kernel) rfl, wU_of 21 (by decide +kernel) rfl, wU_of 53 (by decide +kernel) rfl, wU_of 400 (by decide +kernel) rfl, by decide +kernel, by decide +kernel, by decide +kernel⟩
theorem us_J9_min_7cf53 : wStat yJ9_min_7cf53 cJ9_min_7cf53 2 (some .int) 2 := ⟨wU_of 402 (by decide +kernel) rfl, wU_of 61 (by decide +kernel) rfl, wU_of 403 (by decide +kernel) rfl, by decide +kernel, by decide +kernel, by decide +kernel⟩
theorem uv_X5_price : wVirt yX5_price cX5_price 3 (some .int) 2 := ⟨wU_of 406 (by decide +kernel) rfl, wU_of 407 (by decide +kernel) rfl, wU_of 53 (by decide +kernel) rfl, wU_of 408 (by decide +kernel) rfl, by decide +kernel, by decide +kernel, by decide +kernel⟩
theorem uv_X5_plainPrice : wVirt yX5_plainPrice cX5_plainPrice 3 (some .int) 1 := ⟨wU_of 411 (by decide +kernel) rfl, wU_of 22 (by decide +kernel) rfl, wU_of 53 (by decide +kernel) rfl, wU_of 412 (by decide +kernel) rfl, by decide +kernel, by decide +kernel, by decide +kernel⟩
theorem uv_X5_colouredPrice : wVirt yX5_colouredPrice cX5_colouredPrice 3 (some .int) 1 := ⟨wU_of 416 (by decide +kernel) rfl, wU_of 23 (by decide +kernel) rfl, wU_of 53 (by decide +kernel) rfl, wU_of 417 (by decide +kernel) rfl, by decide +kernel, by decide +kernel, by decide +kernel⟩
theorem uv_X5_wormPrice : wVirt yX5_wormPrice cX5_wormPrice 2 (some .int) 1 := ⟨wU_of 421 (by decide +kernel) rfl, wU_of 24 (by decide +kernel) rfl, wU_of 53 (by decide +kernel) rfl, wU_of 422 (by decide +kernel) rfl, by decide +kernel, by decide +kernel, by decide +kernel⟩
theorem uv_X5_map : wVirt yX5_map cX5_map 3 (some .int) 2 := ⟨wU_of 425 (by decide +kernel) rfl, wU_of 426 (by decide +kernel) rfl, wU_of 53 (by decide +kernel) rfl, wU_of 427 (by decide +kernel) rfl, by decide +kernel, by decide +kernel, by decide +kernel⟩
theorem uv_X0_addMap : wVirt yX0_addMap cX0_addMap 3 (some .int) 2 := ⟨wU_of 430 (by decide +kernel) rfl, wU_of 25 (by decide +kernel) rfl, wU_of 56 (by decide +kernel) rfl, wU_of 431 (by decide +kernel) rfl, by decide +kernel, by decide +kernel, by decide +kernel⟩
theorem uv_X5_cost : wVirt yX5_cost cX5_cost 3 (some .int) 2 := ⟨wU_of 433 (by decide +kernel) rfl, wU_of 434 (by decide +kernel) rfl, wU_of 53 (by decide +kernel) rfl, wU_of 435 (by decide +kernel) rfl, by decide +kernel, by decide +kernel, by decide +kernel⟩
theorem uv_X0_mayComeFrom : wVirt yX0_mayComeFrom cX0_mayComeFrom 3 (some .boolean) 2 := ⟨wU_of 438 (by decide +kernel) rfl, wU_of 26 (by decide +kernel) rfl, wU_of 56 (by decide +kernel) rfl, wU_of 439 (by decide +kernel) rfl, by decide +kernel, by decide +kernel, by decide +kernel⟩
theorem uv_X0_hasMap : wVirt yX0_hasMap cX0_hasMap 2 (some .boolean) 1 := ⟨wU_of 442 (by decide +kernel) rfl, wU_of 27 (by decide +kernel) rfl, wU_of 56 (by decide +kernel) rfl, wU_of 443 (by decide +kernel) rfl, by decide +kernel, by decide +kernel, by decide +kernel⟩
theorem uv_X0_costOf : wVirt yX0_costOf cX0_costOf 5 (some .int) 2 := ⟨wU_of 446 (by decide +kernel) rfl, wU_of 28 (by decide +kernel) rfl, wU_of 56 (by decide +kernel) rfl, wU_of 447 (by decide +kernel) rfl, by decide +kernel, by decide +kernel, by decide +kernel⟩
theorem uv_X5_from : wVirt yX5_from cX5_from 2 (some .int) 1 := ⟨wU_of 450 (by decide +kernel) rfl, wU_of 451 (by decide +kernel) rfl, wU_of 53 (by decide +kernel) rfl, wU_of 452 (by decide +kernel) rfl, by decide +kernel, by decide +kernel, by decide +kernel⟩
theorem uv_X0_cheapest : wVirt yX0_cheapest cX0_cheapest 5 (some .int) 1 := ⟨wU_of 456 (by decide +kernel) rfl, wU_of 29 (by decide +kernel) rfl, wU_of 56 (by decide +kernel) rfl, wU_of 457 (by decide +kernel) rfl, by decide +kernel, by decide +kernel, by decide +kernel⟩
theorem uv_X5_rivals : wVirt yX5_rivals cX5_rivals 2 (some .int) 1 := ⟨wU_of 461 (by decide +kernel) rfl, wU_of 462 (by decide +kernel) rfl, wU_of 53 (by decide +kernel) rfl, wU_of 463 (by decide +kernel) rfl, by decide +kernel, by decide +kernel, by decide +kernel⟩
theorem uv_X0_rivalCount : wVirt yX0_rivalCount cX0_rivalCount 6 (some .int) 1 := ⟨wU_of 466 (by decide +kernel) rfl, wU_of 30 (by decide +kernel) rfl, wU_of 56 (by decide +kernel) rfl, wU_of 467 (by decide +kernel) rfl, by decide +kernel, by decide +kernel, by decide +kernel⟩
theorem uv_X5_life : wVirt yX5_life cX5_life 3 (some .int) 2 := ⟨wU_of 470 (by decide +kernel) rfl, wU_of 471 (by decide +kernel) rfl, wU_of 53 (by decide +kernel) rfl, wU_of 472 (by decide +kernel) rfl, by decide +kernel, by decide +kernel, by decide +kernel⟩
theorem uv_X0_lifeOf : wVirt yX0_lifeOf cX0_lifeOf 5 (some .int) 2 := ⟨wU_of 475 (by decide +kernel) rfl, wU_of 31 (by decide +kernel) rfl, wU_of 56 (by decide +kernel) rfl, wU_of 476 (by decide +kernel) rfl, by decide +kernel, by decide +kernel, by decide +kernel⟩
theorem uv_X0_hasItFrom : wVirt yX0_hasItFrom cX0_hasItFrom 6 (some .boolean) 3 := ⟨wU_of 479 (by decide +kernel) rfl, wU_of 32 (by decide +kernel) rfl, wU_of 56 (by decide +kernel) rfl, wU_of 480 (by decide +kernel) rfl, by decide +kernel, by decide +kernel, by decide +kernel⟩
theorem uv_X5_hole : wVirt yX5_hole cX5_hole 4 (some .int) 3 := ⟨wU_of 483 (by decide +kernel) rfl, wU_of 484 (by decide +kernel) rfl, wU_of 53 (by decide +kernel) rfl, wU_of 485 (by decide +kernel) rfl, by decide +kernel, by decide +kernel, by decide +kernel⟩
theorem us_X1_isPlace : wStat yX1_isPlace cX1_isPlace 1 (some .boolean) 1 := ⟨wU_of 487 (by decide +kernel) rfl, wU_of 58 (by decide +kernel) rfl, wU_of 488 (by decide +kernel) rfl, by decide +kernel, by decide +kernel, by decide +kernel⟩
theorem uv_X1_bore : wVirt yX1_bore cX1_bore 2 (some .int) 1 := ⟨wU_of 491 (by decide +kernel) rfl, wU_of 33 (by decide +kernel) rfl, wU_of 58 (by decide +kernel) rfl, wU_of 492 (by decide +kernel) rfl, by decide +kernel, by decide +kernel, by decide +kernel⟩
theorem uv_X1_isWithin : wVirt yX1_isWithin cX1_isWithin 4 (some .boolean) 2 := ⟨wU_of 495 (by decide +kernel) rfl, wU_of 34 (by decide +kernel) rfl, wU_of 58 (by decide +kernel) rfl, wU_of 496 (by decide +kernel) rfl, by decide +kernel, by decide +kernel, by decide +kernel⟩
theorem us_J9_abs_0f7a4 : wStat yJ9_abs_0f7a4 cJ9_abs_0f7a4 1 (some .int) 1 := ⟨wU_of 498 (by decide +kernel) rfl, wU_of 61 (by decide +kernel) rfl, wU_of 499 (by decide +kernel) rfl, by decide +kernel, by decide +kernel, by decide +kernel⟩
theorem us_X5_isBook : wStat yX5_isBook cX5_isBook 1 (some .boolean) 1 := ⟨wU_of 501 (by decide +kernel) rfl, wU_of 53 (by decide +kernel) rfl, wU_of 502 (by decide +kernel) rfl, by decide +kernel, by decide +kernel, by decide +kernel⟩
theorem uv_X5_fits : wVirt yX5_fits cX5_fits 4 (some .int) 3 := ⟨wU_of 504 (by decide +kernel) rfl, wU_of 505 (by decide +kernel) rfl, wU_of 53 (by decide +kernel) rfl, wU_of 506 (by decide +kernel) rfl, by decide +kernel, by decide +kernel, by decide +kernel⟩
theorem us_X1_isShift : wStat yX1_isShift cX1_isShift 1 (some .boolean) 1 := ⟨wU_of 508 (by decide +kernel) rfl, wU_of 58 (by decide +kernel) rfl, wU_of 509 (by decide +kernel) rfl, by decide +kernel, by decide +kernel, by decide +kernel⟩
theorem uv_X1_fitting : wVirt yX1_fitting cX1_fitting 5 (some .int) 2 := ⟨wU_of 512 (by decide +kernel) rfl, wU_of 35 (by decide +kernel) rfl, wU_of 58 (by decide +kernel) rfl, wU_of 513 (by decide +kernel) rfl, by decide +kernel, by decide +kernel, by decide +kernel⟩
theorem uv_X5_shift : wVirt yX5_shift cX5_shift 6 (some .int) 3 := ⟨wU_of 515 (by decide +kernel) rfl, wU_of 516 (by decide +kernel) rfl, wU_of 53 (by decide +kernel) rfl, wU_of 517 (by decide +kernel) rfl, by decide +kernel, by decide +kernel, by decide +kernel⟩
theorem uv_X1_bestShift : wVirt yX1_bestShift cX1_bestShift 7 (some .int) 1 := ⟨wU_of 520 (by decide +kernel) rfl, wU_of 36 (by decide +kernel) rfl, wU_of 58 (by decide +kernel) rfl, wU_of 521 (by decide +kernel) rfl, by decide +kernel, by decide +kernel, by decide +kernel⟩
theorem uv_X5_home : wVirt yX5_home cX5_home 4 (some .int) 2 := ⟨wU_of 524 (by decide +kernel) rfl, wU_of 525 (by decide +kernel) rfl, wU_of 53 (by decide +kernel) rfl, wU_of 526 (by decide +kernel) rfl, by decide +kernel, by decide +kernel, by decide +kernel⟩
theorem uv_X5_homeOf : wVirt yX5_homeOf cX5_homeOf 6 (some .int) 1 := ⟨wU_of 529 (by decide +kernel) rfl, wU_of 37 (by decide +kernel) rfl, wU_of 53 (by decide +kernel) rfl, wU_of 530 (by decide +kernel) rfl, by decide +kernel, by decide +kernel, by decide +kernel⟩
theorem uv_X1_mostFitting : wVirt yX1_mostFitting cX1_mostFitting 2 (some .int) 1 := ⟨wU_of 533 (by decide +kernel) rfl, wU_of 38 (by decide +kernel) rfl, wU_of 58 (by decide +kernel) rfl, wU_of 534 (by decide +kernel) rfl, by decide +kernel, by decide +kernel, by decide +kernel⟩
theorem uv_X5_othersByChance : wVirt yX5_othersByChance cX5_othersByChance 6 (some .int) 2 := ⟨wU_of 538 (by decide +kernel) rfl, wU_of 39 (by decide +kernel) rfl, wU_of 53 (by decide +kernel) rfl, wU_of 539 (by decide +kernel) rfl, by decide +kernel, by decide +kernel, by decide +kernel⟩
theorem uv_X5_count : wVirt yX5_count cX5_count 2 (some .int) 1 := ⟨wU_of 541 (by decide +kernel) rfl, wU_of 542 (by decide +kernel) rfl, wU_of 53 (by decide +kernel) rfl, wU_of 543 (by decide +kernel) rfl, by decide +kernel, by decide +kernel, by decide +kernel⟩
theorem uv_X5_leavesWithCandidates : wVirt yX5_leavesWithCandidates cX5_leavesWithCandidates 4 (some .int) 1 := ⟨wU_of 546 (by decide +kernel) rfl, wU_of 40 (by decide +kernel) rfl, wU_of 53 (by decide +kernel) rfl, wU_of 547 (by decide +kernel) rfl, by decide +kernel, by decide +kernel, by decide +kernel⟩
theorem uv_X5_trace : wVirt yX5_trace cX5_trace 1 (some .long) 0 := ⟨wU_of 549 (by decide +kernel) rfl, wU_of 550 (by decide +kernel) rfl, wU_of 53 (by decide +kernel) rfl, wU_of 551 (by decide +kernel) rfl, by decide +kernel, by decide +kernel, by decide +kernel⟩
theorem uv_X6_state : wVirt yX6_state cX6_state 4 (some .int) 3 := ⟨wU_of 629 (by decide +kernel) rfl, wU_of 630 (by decide +kernel) rfl, wU_of 59 (by decide +kernel) rfl, wU_of 631 (by decide +kernel) rfl, by decide +kernel, by decide +kernel, by decide +kernel⟩
theorem us_X6_in : wStat yX6_in cX6_in 3 (some .boolean) 3 := ⟨wU_of 633 (by decide +kernel) rfl, wU_of 59 (by decide +kernel) rfl, wU_of 634 (by decide +kernel) rfl, by decide +kernel, by decide +kernel, by decide +kernel⟩
theorem us_X6_isYears : wStat yX6_isYears cX6_isYears 2 (some .boolean) 2 := ⟨wU_of 636 (by decide +kernel) rfl, wU_of 59 (by decide +kernel) rfl, wU_of 637 (by decide +kernel) rfl, by decide +kernel, by decide +kernel, by decide +kernel⟩
theorem uv_X6_about : wVirt yX6_about cX6_about 3 (some .int) 2 := ⟨wU_of 639 (by decide +kernel) rfl, wU_of 640 (by decide +kernel) rfl, wU_of 59 (by decide +kernel) rfl, wU_of 641 (by decide +kernel) rfl, by decide +kernel, by decide +kernel, by decide +kernel⟩
theorem uv_X6_set : wVirt yX6_set cX6_set 4 (some .int) 2 := ⟨wU_of 643 (by decide +kernel) rfl, wU_of 644 (by decide +kernel) rfl, wU_of 59 (by decide +kernel) rfl, wU_of 645 (by decide +kernel) rfl, by decide +kernel, by decide +kernel, by decide +kernel⟩
theorem uv_X6_quarrel : wVirt yX6_quarrel cX6_quarrel 2 (some .int) 1 := ⟨wU_of 647 (by decide +kernel) rfl, wU_of 648 (by decide +kernel) rfl, wU_of 59 (by decide +kernel) rfl, wU_of 649 (by decide +kernel) rfl, by decide +kernel, by decide +kernel, by decide +kernel⟩
theorem uv_X6_isOrder : wVirt yX6_isOrder cX6_isOrder 5 (some .boolean) 1 := ⟨wU_of 652 (by decide +kernel) rfl, wU_of 41 (by decide +kernel) rfl, wU_of 59 (by decide +kernel) rfl, wU_of 653 (by decide +kernel) rfl, by decide +kernel, by decide +kernel, by decide +kernel⟩
theorem uv_X6_quarrelOf : wVirt yX6_quarrelOf cX6_quarrelOf 7 (some .int) 0 := ⟨wU_of 656 (by decide +kernel) rfl, wU_of 42 (by decide +kernel) rfl, wU_of 59 (by decide +kernel) rfl, wU_of 657 (by decide +kernel) rfl, by decide +kernel, by decide +kernel, by decide +kernel⟩
theorem us_X6_bits : wStat yX6_bits cX6_bits 3 (some .int) 1 := ⟨wU_of 659 (by decide +kernel) rfl, wU_of 59 (by decide +kernel) rfl, wU_of 660 (by decide +kernel) rfl, by decide +kernel, by decide +kernel, by decide +kernel⟩
theorem uv_X6_best : wVirt yX6_best cX6_best 7 (some .int) 1 := ⟨wU_of 662 (by decide +kernel) rfl, wU_of 663 (by decide +kernel) rfl, wU_of 59 (by decide +kernel) rfl, wU_of 664 (by decide +kernel) rfl, by decide +kernel, by decide +kernel, by decide +kernel⟩
theorem uv_X6_leaf : wVirt yX6_leaf cX6_leaf 5 (some .int) 4 := ⟨wU_of 666 (by decide +kernel) rfl, wU_of 667 (by decide +kernel) rfl, wU_of 59 (by decide +kernel) rfl, wU_of 668 (by decide +kernel) rfl, by decide +kernel, by decide +kernel, by decide +kernel⟩
theorem uv_X6_see : wVirt yX6_see cX6_see 5 (some .int) 3 := ⟨wU_of 670 (by decide +kernel) rfl, wU_of 671 (by decide +kernel) rfl, wU_of 59 (by decide +kernel) rfl, wU_of 672 (by decide +kernel) rfl, by decide +kernel, by decide +kernel, by decide +kernel⟩
theorem uv_X6_isLeaf : wVirt yX6_isLeaf cX6_isLeaf 2 (some .boolean) 1 := ⟨wU_of 675 (by decide +kernel) rfl, wU_of 43 (by decide +kernel) rfl, wU_of 59 (by decide +kernel) rfl, wU_of 676 (by decide +kernel) rfl, by decide +kernel, by decide +kernel, by decide +kernel⟩
theorem uv_X6_candidates : wVirt yX6_candidates cX6_candidates 2 (some .int) 1 := ⟨wU_of 678 (by decide +kernel) rfl, wU_of 679 (by decide +kernel) rfl, wU_of 59 (by decide +kernel) rfl, wU_of 680 (by decide +kernel) rfl, by decide +kernel, by decide +kernel, by decide +kernel⟩
theorem uv_X6_candidatesOf : wVirt yX6_candidatesOf cX6_candidatesOf 4 (some .int) 1 := ⟨wU_of 683 (by decide +kernel) rfl, wU_of 44 (by decide +kernel) rfl, wU_of 59 (by decide +kernel) rfl, wU_of 684 (by decide +kernel) rfl, by decide +kernel, by decide +kernel, by decide +kernel⟩
theorem uv_X6_mould : wVirt yX6_mould cX6_mould 3 (some .int) 2 := ⟨wU_of 686 (by decide +kernel) rfl, wU_of 687 (by decide +kernel) rfl, wU_of 59 (by decide +kernel) rfl, wU_of 688 (by decide +kernel) rfl, by decide +kernel, by decide +kernel, by decide +kernel⟩
theorem uv_X6_paper : wVirt yX6_paper cX6_paper 4 (some .int) 2 := ⟨wU_of 690 (by decide +kernel) rfl, wU_of 691 (by decide +kernel) rfl, wU_of 59 (by decide +kernel) rfl, wU_of 692 (by decide +kernel) rfl, by decide +kernel, by decide +kernel, by decide +kernel⟩
theorem uv_X6_imprint : wVirt yX6_imprint cX6_imprint 4 (some .int) 2 := ⟨wU_of 694 (by decide +kernel) rfl, wU_of 695 (by decide +kernel) rfl, wU_of 59 (by decide +kernel) rfl, wU_of 696 (by decide +kernel) rfl, by decide +kernel, by decide +kernel, by decide +kernel⟩
theorem uv_X6_span : wVirt yX6_span cX6_span 8 (some .int) 2 := ⟨wU_of 698 (by decide +kernel) rfl, wU_of 699 (by decide +kernel) rfl, wU_of 59 (by decide +kernel) rfl, wU_of 700 (by decide +kernel) rfl, by decide +kernel, by decide +kernel, by decide +kernel⟩
theorem uv_X6_price : wVirt yX6_price cX6_price 5 (some .int) 2 := ⟨wU_of 702 (by decide +kernel) rfl, wU_of 703 (by decide +kernel) rfl, wU_of 59 (by decide +kernel) rfl, wU_of 704 (by decide +kernel) rfl, by decide +kernel, by decide +kernel, by decide +kernel⟩
theorem uv_X6_map : wVirt yX6_map cX6_map 3 (some .int) 2 := ⟨wU_of 708 (by decide +kernel) rfl, wU_of 709 (by decide +kernel) rfl, wU_of 59 (by decide +kernel) rfl, wU_of 710 (by decide +kernel) rfl, by decide +kernel, by decide +kernel, by decide +kernel⟩
theorem uv_X6_cost : wVirt yX6_cost cX6_cost 3 (some .int) 2 := ⟨wU_of 712 (by decide +kernel) rfl, wU_of 713 (by decide +kernel) rfl, wU_of 59 (by decide +kernel) rfl, wU_of 714 (by decide +kernel) rfl, by decide +kernel, by decide +kernel, by decide +kernel⟩
theorem uv_X6_isMap : wVirt yX6_isMap cX6_isMap 2 (some .boolean) 1 := ⟨wU_of 717 (by decide +kernel) rfl, wU_of 45 (by decide +kernel) rfl, wU_of 59 (by decide +kernel) rfl, wU_of 718 (by decide +kernel) rfl, by decide +kernel, by decide +kernel, by decide +kernel⟩
theorem uv_X6_isFrom : wVirt yX6_isFrom cX6_isFrom 3 (some .boolean) 2 := ⟨wU_of 721 (by decide +kernel) rfl, wU_of 46 (by decide +kernel) rfl, wU_of 59 (by decide +kernel) rfl, wU_of 722 (by decide +kernel) rfl, by decide +kernel, by decide +kernel, by decide +kernel⟩
theorem uv_X6_costOf : wVirt yX6_costOf cX6_costOf 3 (some .int) 2 := ⟨wU_of 725 (by decide +kernel) rfl, wU_of 47 (by decide +kernel) rfl, wU_of 59 (by decide +kernel) rfl, wU_of 726 (by decide +kernel) rfl, by decide +kernel, by decide +kernel, by decide +kernel⟩
theorem uv_X6_from : wVirt yX6_from cX6_from 2 (some .int) 1 := ⟨wU_of 728 (by decide +kernel) rfl, wU_of 729 (by decide +kernel) rfl, wU_of 59 (by decide +kernel) rfl, wU_of 730 (by decide +kernel) rfl, by decide +kernel, by decide +kernel, by decide +kernel⟩
theorem uv_X6_fromOf : wVirt yX6_fromOf cX6_fromOf 4 (some .int) 1 := ⟨wU_of 733 (by decide +kernel) rfl, wU_of 48 (by decide +kernel) rfl, wU_of 59 (by decide +kernel) rfl, wU_of 734 (by decide +kernel) rfl, by decide +kernel, by decide +kernel, by decide +kernel⟩
theorem uv_X6_rivals : wVirt yX6_rivals cX6_rivals 5 (some .int) 1 := ⟨wU_of 736 (by decide +kernel) rfl, wU_of 737 (by decide +kernel) rfl, wU_of 59 (by decide +kernel) rfl, wU_of 738 (by decide +kernel) rfl, by decide +kernel, by decide +kernel, by decide +kernel⟩
theorem uv_X6_life : wVirt yX6_life cX6_life 6 (some .int) 2 := ⟨wU_of 740 (by decide +kernel) rfl, wU_of 741 (by decide +kernel) rfl, wU_of 59 (by decide +kernel) rfl, wU_of 742 (by decide +kernel) rfl, by decide +kernel, by decide +kernel, by decide +kernel⟩
theorem uv_X6_hole : wVirt yX6_hole cX6_hole 6 (some .int) 3 := ⟨wU_of 744 (by decide +kernel) rfl, wU_of 745 (by decide +kernel) rfl, wU_of 59 (by decide +kernel) rfl, wU_of 746 (by decide +kernel) rfl, by decide +kernel, by decide +kernel, by decide +kernel⟩
theorem uv_X6_fits : wVirt yX6_fits cX6_fits 4 (some .int) 3 := ⟨wU_of 748 (by decide +kernel) rfl, wU_of 749 (by decide +kernel) rfl, wU_of 59 (by decide +kernel) rfl, wU_of 750 (by decide +kernel) rfl, by decide +kernel, by decide +kernel, by decide +kernel⟩
theorem us_X6_isBook : wStat yX6_isBook cX6_isBook 1 (some .boolean) 1 := ⟨wU_of 752 (by decide +kernel) rfl, wU_of 59 (by decide +kernel) rfl, wU_of 753 (by decide +kernel) rfl, by decide +kernel, by decide +kernel, by decide +kernel⟩
theorem uv_X6_fitsOf : wVirt yX6_fitsOf cX6_fitsOf 8 (some .int) 3 := ⟨wU_of 756 (by decide +kernel) rfl, wU_of 49 (by decide +kernel) rfl, wU_of 59 (by decide +kernel) rfl, wU_of 757 (by decide +kernel) rfl, by decide +kernel, by decide +kernel, by decide +kernel⟩
theorem uv_X6_shift : wVirt yX6_shift cX6_shift 5 (some .int) 3 := ⟨wU_of 759 (by decide +kernel) rfl, wU_of 760 (by decide +kernel) rfl, wU_of 59 (by decide +kernel) rfl, wU_of 761 (by decide +kernel) rfl, by decide +kernel, by decide +kernel, by decide +kernel⟩
theorem uv_X6_shiftOf : wVirt yX6_shiftOf cX6_shiftOf 5 (some .int) 2 := ⟨wU_of 764 (by decide +kernel) rfl, wU_of 50 (by decide +kernel) rfl, wU_of 59 (by decide +kernel) rfl, wU_of 765 (by decide +kernel) rfl, by decide +kernel, by decide +kernel, by decide +kernel⟩
theorem uv_X6_home : wVirt yX6_home cX6_home 7 (some .int) 2 := ⟨wU_of 767 (by decide +kernel) rfl, wU_of 768 (by decide +kernel) rfl, wU_of 59 (by decide +kernel) rfl, wU_of 769 (by decide +kernel) rfl, by decide +kernel, by decide +kernel, by decide +kernel⟩
theorem uv_X6_most : wVirt yX6_most cX6_most 3 (some .int) 2 := ⟨wU_of 772 (by decide +kernel) rfl, wU_of 51 (by decide +kernel) rfl, wU_of 59 (by decide +kernel) rfl, wU_of 773 (by decide +kernel) rfl, by decide +kernel, by decide +kernel, by decide +kernel⟩
theorem uv_X6_count : wVirt yX6_count cX6_count 6 (some .int) 1 := ⟨wU_of 775 (by decide +kernel) rfl, wU_of 776 (by decide +kernel) rfl, wU_of 59 (by decide +kernel) rfl, wU_of 777 (by decide +kernel) rfl, by decide +kernel, by decide +kernel, by decide +kernel⟩
theorem uv_X6_trace : wVirt yX6_trace cX6_trace 1 (some .long) 0 := ⟨wU_of 779 (by decide +kernel) rfl, wU_of 780 (by decide +kernel) rfl, wU_of 59 (by decide +kernel) rfl, wU_of 781 (by decide +kernel) rfl, by decide +kernel, by decide +kernel, by decide +kernel⟩
end
section
/-! PART 02.a: the state of the whole system, as numbers; what the heap holds for it; the walk's judgement over it -/
/-- the launch, the tables' places, the arrays' classes, the addresses (of the i-th of group g), what may be written -/
abbrev wD : Type := Launch × va_G × (Nat → ClassId) × (Nat → Nat → Nat) × (Nat → Prop)
/-- a method's frame: everything that stays the same while it runs; the last two: the cells and slots that are counted -/
abbrev wX : Type := Program × Env × Room × State × MethodId × Array Value × List Frame × Method × Code × Nat × Nat
/-- the numbers: of group g, number i, slot k; the longs -/
abbrev wSt : Type := (Nat → Nat → Nat → Int32) × (Nat → Int64)
/-- how many there are of each group. 0 the room, 1 the plate, 2 the copies, 3 leaves[], 4 moulds[], 5 books[], 6 plate.lines, 7 plate.years[], 8 plate.read, 9 plate.toCome, 10 its rows, 11 a state's years, 12 copies.years, 13 copies.errors, 14 a leaf, 15 its holes, 16 their places, 17 a mould, 18 a book, 19 its places, 20 the model, 21 .. 37 its arrays -/
def wN (g : Nat) : Nat := match g with
  | 10 => 64
  | 11 => 6
  | 14 => 20
  | 15 => 20
  | 16 => 20
  | 17 => 8
  | 18 => 4
  | 19 => 4
  | g => if g < 38 then 1 else 0
/-- the lengths of the int arrays -/
def wLen (g : Nat) : Nat := match g with
  | 12 => 8
  | 13 => 8
  | 24 => 5
  | 25 => 20
  | 26 => 20
  | 27 => 20
  | 28 => 20
  | 29 => 20
  | 30 => 20
  | 31 => 8
  | 32 => 8
  | 33 => 8
  | 34 => 8
  | 35 => 24
  | 36 => 144
  | _ => 6
def wCt (cy : Nat → ClassId) (E : Nat → Nat → Nat) (s : wSt) (g i : Nat) : va_E := match g with
  | 0 => .inr (5, [.ref (E 1 0), .ref (E 2 0), .ref (E 3 0), .int (s.1 0 i 3), .ref (E 4 0), .int (s.1 0 i 5), .ref (E 5 0), .long (s.2 0)])
  | 1 => .inr (3, [.int (s.1 1 i 0), .int (s.1 1 i 1), .int (s.1 1 i 2), .ref (E 6 0), .ref (E 7 0), .int (s.1 1 i 5), .ref (E 8 0), .ref (E 9 0)])
  | 2 => .inr (0, [.int (s.1 2 i 0), .int (s.1 2 i 1), .ref (E 12 0), .ref (E 13 0), .int (s.1 2 i 4)])
  | 3 => .inl (cy 1, 20, .inr (.inr (.inr (.inr (fun j => some (E 14 j))))))
  | 4 => .inl (cy 2, 8, .inr (.inr (.inr (.inr (fun j => some (E 17 j))))))
  | 5 => .inl (cy 3, 4, .inr (.inr (.inr (.inr (fun j => some (E 18 j))))))
  | 7 => .inl (cy 2, 6, .inr (.inr (.inr (.inr (fun j => some (E 11 j))))))
  | 9 => .inl (cy 4, 64, .inr (.inr (.inr (.inr (fun j => some (E 10 j))))))
  | 11 => .inr (4, [.int (s.1 11 i 0), .int (s.1 11 i 1)])
  | 14 => .inr (2, [.int (s.1 14 i 0), .int (s.1 14 i 1), .int (s.1 14 i 2), .int (s.1 14 i 3), .int (s.1 14 i 4), .int (s.1 14 i 5), .ref (E 15 i)])
  | 15 => .inr (1, [.ref (E 16 i), .int (s.1 15 i 1)])
  | 17 => .inr (4, [.int (s.1 17 i 0), .int (s.1 17 i 1)])
  | 18 => .inr (1, [.ref (E 19 i), .int (s.1 18 i 1)])
  | 20 => .inr (6, [.int (s.1 20 i 0), .long (s.2 1), .int (s.1 20 i 2), .ref (E 21 0), .ref (E 22 0), .ref (E 23 0), .ref (E 24 0), .int (s.1 20 i 7), .ref (E 25 0), .ref (E 26 0), .ref (E 27 0), .ref (E 28 0), .ref (E 29 0), .ref (E 30 0), .int (s.1 20 i 14), .ref (E 31 0), .ref (E 32 0), .int (s.1 20 i 17), .ref (E 33 0), .ref (E 34 0), .ref (E 35 0), .ref (E 36 0), .ref (E 37 0)])
  | g => .inl (cy 0, wLen g, .inl (s.1 g i))
/-- the heap holds the numbers -/
def wInv (w : wD) (s : wSt) (H : Heap) : Prop := ∀ g i : Nat, i < wN g → va_at w.2.1 vwCl (w.2.2.2.1 g i, wCt w.2.2.1 w.2.2.2.1 s g i) H
/-- the addresses are apart, and may be written -/
def wOK (w : wD) : Prop := (∀ g i g' i' : Nat, i < wN g → i' < wN g' → w.2.2.2.1 g i = w.2.2.2.1 g' i' → g = g' ∧ i = i') ∧ ∀ g i : Nat, i < wN g → w.2.2.2.2 (w.2.2.2.1 g i)
def wTys (w : wD) : List (ClassId × FieldType) := [(w.2.2.1 0, .int), (w.2.2.1 1, .object RX2), (w.2.2.1 2, .object RX4), (w.2.2.1 3, .object RX1), (w.2.2.1 4, .array .int)]
/-- the links between nest mates -/
def wNF : List (String × Nat × String × String × String × String) := [(RX5, 77, "PlateRoom$Years", "first", "I", "PlateRoom"), (RX5, 80, "PlateRoom$Years", "last", "I", "PlateRoom"), (RX5, 229, "PlateRoom$Plate", "cut", "I", "PlateRoom"), (RX5, 232, "PlateRoom$Plate", "rub", "I", "PlateRoom"), (RX5, 235, "PlateRoom$Plate", "again", "I", "PlateRoom"), (RX5, 70, "PlateRoom$Plate", "lines", "[I", "PlateRoom"), (RX5, 74, "PlateRoom$Plate", "years", "[LPlateRoom$Years;", "PlateRoom"), (RX5, 100, "PlateRoom$Plate", "stateCount", "I", "PlateRoom"), (RX5, 238, "PlateRoom$Copies", "loss", "I", "PlateRoom"), (RX5, 241, "PlateRoom$Copies", "alone", "I", "PlateRoom"), (RX5, 187, "PlateRoom$Copies", "errors", "[I", "PlateRoom"), (RX5, 223, "PlateRoom$Copies", "mapCount", "I", "PlateRoom"), (RX5, 268, "PlateRoom$Holes", "placeCount", "I", "PlateRoom"), (RX5, 244, "PlateRoom$Leaf", "there", "I", "PlateRoom"), (RX5, 247, "PlateRoom$Leaf", "gone", "I", "PlateRoom"), (RX5, 258, "PlateRoom$Leaf", "worth", "I", "PlateRoom"), (RX5, 263, "PlateRoom$Leaf", "colour", "I", "PlateRoom"), (RX5, 133, "PlateRoom$Leaf", "mould", "I", "PlateRoom"), (RX5, 139, "PlateRoom$Leaf", "imprint", "I", "PlateRoom"), (RX5, 196, "PlateRoom$Leaf", "holes", "LPlateRoom$Holes;", "PlateRoom")]
def wNM : List (String × Nat × MethodName × String) := [(RX5, 9, yX3_init, "PlateRoom"), (RX3, 42, yX4_init, "PlateRoom"), (RX5, 18, yX0_init, "PlateRoom"), (RX5, 52, yX2_init, "PlateRoom"), (RX2, 32, yX1_init, "PlateRoom"), (RX5, 53, yX4_init, "PlateRoom"), (RX5, 54, yX1_init, "PlateRoom"), (RX5, 63, yX3_addState, "PlateRoom"), (RX3, 43, yX4_put, "PlateRoom"), (RX5, 67, yX3_hasState, "PlateRoom"), (RX5, 94, yX3_quarrelOf, "PlateRoom"), (RX3, 58, yX5_has, "PlateRoom"), (RX5, 103, yX3_bestOrder, "PlateRoom"), (RX5, 107, yX2_strike, "PlateRoom"), (RX5, 117, yX2_lookOf, "PlateRoom"), (RX2, 37, yX5_has, "PlateRoom"), (RX5, 120, yX2_look, "PlateRoom"), (RX5, 250, yX3_statesWith, "PlateRoom"), (RX5, 127, yX4_put, "PlateRoom"), (RX5, 169, yX0_addMap, "PlateRoom"), (RX5, 172, yX0_mayComeFrom, "PlateRoom"), (RX5, 175, yX0_costOf, "PlateRoom"), (RX5, 178, yX0_hasMap, "PlateRoom"), (RX5, 181, yX0_cheapest, "PlateRoom"), (RX5, 184, yX0_rivalCount, "PlateRoom"), (RX5, 190, yX0_lifeOf, "PlateRoom"), (RX0, 53, yX5_has, "PlateRoom"), (RX5, 193, yX1_isPlace, "PlateRoom"), (RX5, 200, yX1_bore, "PlateRoom"), (RX5, 206, yX1_isShift, "PlateRoom"), (RX5, 209, yX1_fitting, "PlateRoom"), (RX5, 213, yX1_bestShift, "PlateRoom"), (RX5, 271, yX1_mostFitting, "PlateRoom")]
end
section
/-! PART 02.b: the walk over the world: one judgement G, a row an instruction -/
/-- what the tables say, in any state that stands behind the start -/
def wK (w : wD) (U : State) : Prop := va_K w.2.1 vwCl (wTys w) U ∧ (∀ q ∈ wNF, va_Nw (.fieldLinkNest q.1 q.2.1 q.2.2.1 q.2.2.2.1 q.2.2.2.2.1 q.2.2.2.2.2) U) ∧ ∀ q ∈ wNM, va_Nw (.methodLinkNest q.1 q.2.1 q.2.2.1 q.2.2.2) U
theorem wK.warm {w : wD} {s U : State} (h : wK w s) (hW : s.WarmedH U.vm) : wK w U := ⟨va_K.moved hW.alike h.1, fun q hq => va_Nw.warmF hW (h.2.1 q hq), fun q hq => va_Nw.warmM hW (h.2.2 q hq)⟩
theorem wK.calling {w : wD} {s : State} {g : JFrame} {mk : MethodId} {a : Array Value} (h : wK w s) : wK w (s.calling g mk a) := ⟨va_K.moved (u := s) (U := s.calling g mk a) (Vm.Alike.refl s.vm) h.1, fun q hq => va_Nw.same rfl (rfl : s.vm = (s.calling g mk a).vm) (h.2.1 q hq), fun q hq => va_Nw.same rfl (rfl : s.vm = (s.calling g mk a).vm) (h.2.2 q hq)⟩
/-- a frame of a method of the bytes cc, nL locals, the class own, room for fr frames below it and lo locals -/
def Cf (w : wD) (x : wX) (cc : ByteArray) (nL : Nat) (own : String) (fr lo : Nat) : Prop := match x with
  | (p, _, R, s, m, args, _, meth, c, kc, ks) => p.tables.exec = Jvm.exec ∧ c.code = cc ∧ c.maxLocals = nL ∧ s.vm.findClass own = some m.cls ∧ (∀ q ∈ wsU, q.before args s = true) ∧ wK w s ∧ meth.locks = false ∧ fr ≤ R.frames ∧ lo ≤ R.locals ∧ kc ≤ R.cells ∧ ks ≤ R.slots ∧ wOK w
def G (w : wD) (x : wX) (nL : Nat) (Q : State → Prop) (pc : Nat) (L : List (Nat × Value)) (S : List Value) (σ : wSt) : Prop := match x with
  | (p, e, R, s, m, args, below, meth, c, kc, ks) => ∀ (H : Heap) (locs : List Loc) (ls : Array Slot), wInv w σ H → va_S w.2.2.2.2 s.heap H locs → lv_has ls nL L → W p w.1 e R s m args below meth c H locs kc ks Q (F0 m pc ls S)
def Rt (x : wX) (ty : Option FieldType) : Prop := match x with
  | (_, _, _, _, _, _, _, meth, _, _, _) => meth.sig.returnType = ty
def QI (w : wD) (x : wX) (Post : Int32 → wSt → Prop) : State → Prop := match x with
  | (_, _, _, s, _, args, below, _, _, kc, ks) => MQ below (va_Qi Post (fun σ t => wInv w σ t.heap) w.2.2.2.2) args s kc ks w.2.2.2.2
def QL (w : wD) (x : wX) (Post : Int64 → wSt → Prop) : State → Prop := match x with
  | (_, _, _, s, _, args, below, _, _, kc, ks) => MQ below (va_Ql Post (fun σ t => wInv w σ t.heap) w.2.2.2.2) args s kc ks w.2.2.2.2
def QV (w : wD) (x : wX) (Post : wSt → Prop) : State → Prop := match x with
  | (_, _, _, s, _, args, below, _, _, kc, ks) => MQ below (va_Qv Post (fun σ t => wInv w σ t.heap) w.2.2.2.2) args s kc ks w.2.2.2.2
/-- the contracts: from the numbers σ, with the arguments av, the method returns, and Post holds of its answer and the numbers behind it -/
def MI (w : wD) (y : MethodName) (cc : ByteArray) (nL : Nat) (ret : Option FieldType) (fr lo : Nat) (av : List Value) (σ : wSt) (Post : Int32 → wSt → Prop) : Prop :=
  Met w.1 y (.code y cc nL ret :: wsU) { frames := fr, cells := 0, slots := 0, locals := lo } (va_Pc av (fun U => wInv w σ U.heap ∧ wK w U)) (va_Qi Post (fun σ t => wInv w σ t.heap) w.2.2.2.2) 0 0 w.2.2.2.2
def ML (w : wD) (y : MethodName) (cc : ByteArray) (nL : Nat) (ret : Option FieldType) (fr lo : Nat) (av : List Value) (σ : wSt) (Post : Int64 → wSt → Prop) : Prop :=
  Met w.1 y (.code y cc nL ret :: wsU) { frames := fr, cells := 0, slots := 0, locals := lo } (va_Pc av (fun U => wInv w σ U.heap ∧ wK w U)) (va_Ql Post (fun σ t => wInv w σ t.heap) w.2.2.2.2) 0 0 w.2.2.2.2
def MV (w : wD) (y : MethodName) (cc : ByteArray) (nL : Nat) (ret : Option FieldType) (fr lo : Nat) (av : List Value) (σ : wSt) (Post : wSt → Prop) : Prop :=
  Met w.1 y (.code y cc nL ret :: wsU) { frames := fr, cells := 0, slots := 0, locals := lo } (va_Pc av (fun U => wInv w σ U.heap ∧ wK w U)) (va_Qv Post (fun σ t => wInv w σ t.heap) w.2.2.2.2) 0 0 w.2.2.2.2
section MOF
variable {w : wD} {y : MethodName} {cc : ByteArray} {nL : Nat} {ret : Option FieldType} {fr lo : Nat} {av : List Value} {σ : wSt}
theorem MI.of {Post : Int32 → wSt → Prop} (hw : wOK w) (hy : plainName y.cls = true) (hn : (lg_sl av).length ≤ nL) (k : ∀ x : wX, Cf w x cc nL y.cls fr lo → Rt x ret → G w x nL (QI w x Post) 0 (lv_args 0 av) [] σ) : MI w y cc nL ret fr lo av σ Post := by
  refine Met.ofW (cc := cc) (maxL := nL) (ret := ret) hy rfl ?_
  intro p e s m args below meth c s₁ B hml hv
  obtain ⟨rfl, hI, hK⟩ := hv
  have hts := atoms_spec (ws := .code y cc nL ret :: wsU) B.pre
  have h := k (p, e, (headSpec (.code y cc nL ret :: wsU) { frames := fr, cells := 0, slots := 0, locals := lo }).room, s, m, av.toArray, below, meth, c, 0, 0) ⟨B.exec, B.bytes, hml, findClass_of_methodNamed B.named, fun q hq => hts q (List.mem_cons_of_mem _ hq), hK, B.notSynchronized, Nat.le_refl _, Nat.le_refl _, Nat.le_refl _, Nat.le_refl _, hw⟩ B.returns
  rw [lg_entry_eq]
  exact h s.heap [] _ hI va_S.rf (lv_entry av hn)
theorem ML.of {Post : Int64 → wSt → Prop} (hw : wOK w) (hy : plainName y.cls = true) (hn : (lg_sl av).length ≤ nL) (k : ∀ x : wX, Cf w x cc nL y.cls fr lo → Rt x ret → G w x nL (QL w x Post) 0 (lv_args 0 av) [] σ) : ML w y cc nL ret fr lo av σ Post := by
  refine Met.ofW (cc := cc) (maxL := nL) (ret := ret) hy rfl ?_
  intro p e s m args below meth c s₁ B hml hv
  obtain ⟨rfl, hI, hK⟩ := hv
  have hts := atoms_spec (ws := .code y cc nL ret :: wsU) B.pre
  have h := k (p, e, (headSpec (.code y cc nL ret :: wsU) { frames := fr, cells := 0, slots := 0, locals := lo }).room, s, m, av.toArray, below, meth, c, 0, 0) ⟨B.exec, B.bytes, hml, findClass_of_methodNamed B.named, fun q hq => hts q (List.mem_cons_of_mem _ hq), hK, B.notSynchronized, Nat.le_refl _, Nat.le_refl _, Nat.le_refl _, Nat.le_refl _, hw⟩ B.returns
  rw [lg_entry_eq]
  exact h s.heap [] _ hI va_S.rf (lv_entry av hn)
theorem MV.of {Post : wSt → Prop} (hw : wOK w) (hy : plainName y.cls = true) (hn : (lg_sl av).length ≤ nL) (k : ∀ x : wX, Cf w x cc nL y.cls fr lo → Rt x ret → G w x nL (QV w x Post) 0 (lv_args 0 av) [] σ) : MV w y cc nL ret fr lo av σ Post := by
  refine Met.ofW (cc := cc) (maxL := nL) (ret := ret) hy rfl ?_
  intro p e s m args below meth c s₁ B hml hv
  obtain ⟨rfl, hI, hK⟩ := hv
  have hts := atoms_spec (ws := .code y cc nL ret :: wsU) B.pre
  have h := k (p, e, (headSpec (.code y cc nL ret :: wsU) { frames := fr, cells := 0, slots := 0, locals := lo }).room, s, m, av.toArray, below, meth, c, 0, 0) ⟨B.exec, B.bytes, hml, findClass_of_methodNamed B.named, fun q hq => hts q (List.mem_cons_of_mem _ hq), hK, B.notSynchronized, Nat.le_refl _, Nat.le_refl _, Nat.le_refl _, Nat.le_refl _, hw⟩ B.returns
  rw [lg_entry_eq]
  exact h s.heap [] _ hI va_S.rf (lv_entry av hn)
end MOF
/-! the plain rows -/
section GROWS
variable {w : wD} {x : wX} {cc : ByteArray} {nL : Nat} {own : String} {fr lo : Nat} {Q : State → Prop} {pc : Nat} {L : List (Nat × Value)} {S : List Value} {σ : wSt}
theorem G.iconst (C : Cf w x cc nL own fr lo) {n : Int} {v : Int32} (hdg : decode cc pc = .ok (.iconst n, 1)) (hv : Int32.ofInt n = v) (kk : G w x nL Q (pc + 1) L (.int v :: S) σ) : G w x nL Q pc L (S) σ := by
  obtain ⟨p, e, R, s, m, args, below, meth, c, kc, ks⟩ := x
  obtain ⟨hx, hb, -⟩ := C
  intro H locs ls hI hS hl
  exact lv_iconst hx hb hdg hv (kk H locs ls hI hS hl)
theorem G.bipush (C : Cf w x cc nL own fr lo) {n : Int} {v : Int32} (hdg : decode cc pc = .ok (.bipush n, 2)) (hv : (Int8.ofInt n).toInt32 = v) (kk : G w x nL Q (pc + 2) L (.int v :: S) σ) : G w x nL Q pc L (S) σ := by
  obtain ⟨p, e, R, s, m, args, below, meth, c, kc, ks⟩ := x
  obtain ⟨hx, hb, -⟩ := C
  intro H locs ls hI hS hl
  exact lv_bipush hx hb hdg hv (kk H locs ls hI hS hl)
theorem G.sipush (C : Cf w x cc nL own fr lo) {n : Int} {v : Int32} (hdg : decode cc pc = .ok (.sipush n, 3)) (hv : (Int16.ofInt n).toInt32 = v) (kk : G w x nL Q (pc + 3) L (.int v :: S) σ) : G w x nL Q pc L (S) σ := by
  obtain ⟨p, e, R, s, m, args, below, meth, c, kc, ks⟩ := x
  obtain ⟨hx, hb, -⟩ := C
  intro H locs ls hI hS hl
  exact lv_sipush hx hb hdg hv (kk H locs ls hI hS hl)
theorem G.lconst (C : Cf w x cc nL own fr lo) {n : Fin 2} {v : Int64} (hdg : decode cc pc = .ok (.lconst n, 1)) (hv : Int64.ofNat (n : Nat) = v) (kk : G w x nL Q (pc + 1) L (.long v :: S) σ) : G w x nL Q pc L (S) σ := by
  obtain ⟨p, e, R, s, m, args, below, meth, c, kc, ks⟩ := x
  obtain ⟨hx, hb, -⟩ := C
  intro H locs ls hI hS hl
  exact lv_lconst hx hb hdg hv (kk H locs ls hI hS hl)
theorem G.iload_n (C : Cf w x cc nL own fr lo) (q : Nat) {k : Fin 4} {i : Nat} {v : Int32} (hdg : decode cc pc = .ok (.iload_n k, 1)) (hi : (k : Nat) = i) (hq : L[q]? = some (i, .int v)) (kk : G w x nL Q (pc + 1) L (.int v :: S) σ) : G w x nL Q pc L (S) σ := by
  obtain ⟨p, e, R, s, m, args, below, meth, c, kc, ks⟩ := x
  obtain ⟨hx, hb, -⟩ := C
  intro H locs ls hI hS hl
  exact lv_iload_n hx hb hdg hi (lv_at hl q hq) (kk H locs ls hI hS hl)
theorem G.iload (C : Cf w x cc nL own fr lo) (q : Nat) {i : Nat} {v : Int32} (hdg : decode cc pc = .ok (.iload i, 2)) (hq : L[q]? = some (i, .int v)) (kk : G w x nL Q (pc + 2) L (.int v :: S) σ) : G w x nL Q pc L (S) σ := by
  obtain ⟨p, e, R, s, m, args, below, meth, c, kc, ks⟩ := x
  obtain ⟨hx, hb, -⟩ := C
  intro H locs ls hI hS hl
  exact lv_iload hx hb hdg (lv_at hl q hq) (kk H locs ls hI hS hl)
theorem G.aload_n (C : Cf w x cc nL own fr lo) (q : Nat) {k : Fin 4} {i v : Nat} (hdg : decode cc pc = .ok (.aload_n k, 1)) (hi : (k : Nat) = i) (hq : L[q]? = some (i, .ref v)) (kk : G w x nL Q (pc + 1) L (.ref v :: S) σ) : G w x nL Q pc L (S) σ := by
  obtain ⟨p, e, R, s, m, args, below, meth, c, kc, ks⟩ := x
  obtain ⟨hx, hb, -⟩ := C
  intro H locs ls hI hS hl
  exact lv_aload_n hx hb hdg hi (lv_at hl q hq) (kk H locs ls hI hS hl)
theorem G.aload (C : Cf w x cc nL own fr lo) (q : Nat) {i v : Nat} (hdg : decode cc pc = .ok (.aload i, 2)) (hq : L[q]? = some (i, .ref v)) (kk : G w x nL Q (pc + 2) L (.ref v :: S) σ) : G w x nL Q pc L (S) σ := by
  obtain ⟨p, e, R, s, m, args, below, meth, c, kc, ks⟩ := x
  obtain ⟨hx, hb, -⟩ := C
  intro H locs ls hI hS hl
  exact lv_aload hx hb hdg (lv_at hl q hq) (kk H locs ls hI hS hl)
theorem G.iadd (C : Cf w x cc nL own fr lo) {u v : Int32} (hdg : decode cc pc = .ok (.iadd, 1)) (kk : G w x nL Q (pc + 1) L (.int (u + v) :: S) σ) : G w x nL Q pc L (.int v :: .int u :: S) σ := by
  obtain ⟨p, e, R, s, m, args, below, meth, c, kc, ks⟩ := x
  obtain ⟨hx, hb, -⟩ := C
  intro H locs ls hI hS hl
  exact lv_iadd hx hb hdg (kk H locs ls hI hS hl)
theorem G.isub (C : Cf w x cc nL own fr lo) {u v : Int32} (hdg : decode cc pc = .ok (.isub, 1)) (kk : G w x nL Q (pc + 1) L (.int (u - v) :: S) σ) : G w x nL Q pc L (.int v :: .int u :: S) σ := by
  obtain ⟨p, e, R, s, m, args, below, meth, c, kc, ks⟩ := x
  obtain ⟨hx, hb, -⟩ := C
  intro H locs ls hI hS hl
  exact lv_isub hx hb hdg (kk H locs ls hI hS hl)
theorem G.imul (C : Cf w x cc nL own fr lo) {u v : Int32} (hdg : decode cc pc = .ok (.imul, 1)) (kk : G w x nL Q (pc + 1) L (.int (u * v) :: S) σ) : G w x nL Q pc L (.int v :: .int u :: S) σ := by
  obtain ⟨p, e, R, s, m, args, below, meth, c, kc, ks⟩ := x
  obtain ⟨hx, hb, -⟩ := C
  intro H locs ls hI hS hl
  exact lv_imul hx hb hdg (kk H locs ls hI hS hl)
theorem G.iand (C : Cf w x cc nL own fr lo) {u v : Int32} (hdg : decode cc pc = .ok (.iand, 1)) (kk : G w x nL Q (pc + 1) L (.int (u &&& v) :: S) σ) : G w x nL Q pc L (.int v :: .int u :: S) σ := by
  obtain ⟨p, e, R, s, m, args, below, meth, c, kc, ks⟩ := x
  obtain ⟨hx, hb, -⟩ := C
  intro H locs ls hI hS hl
  exact lv_iand hx hb hdg (kk H locs ls hI hS hl)
theorem G.ior (C : Cf w x cc nL own fr lo) {u v : Int32} (hdg : decode cc pc = .ok (.ior, 1)) (kk : G w x nL Q (pc + 1) L (.int (u ||| v) :: S) σ) : G w x nL Q pc L (.int v :: .int u :: S) σ := by
  obtain ⟨p, e, R, s, m, args, below, meth, c, kc, ks⟩ := x
  obtain ⟨hx, hb, -⟩ := C
  intro H locs ls hI hS hl
  exact lv_ior hx hb hdg (kk H locs ls hI hS hl)
theorem G.ixor (C : Cf w x cc nL own fr lo) {u v : Int32} (hdg : decode cc pc = .ok (.ixor, 1)) (kk : G w x nL Q (pc + 1) L (.int (u ^^^ v) :: S) σ) : G w x nL Q pc L (.int v :: .int u :: S) σ := by
  obtain ⟨p, e, R, s, m, args, below, meth, c, kc, ks⟩ := x
  obtain ⟨hx, hb, -⟩ := C
  intro H locs ls hI hS hl
  exact lv_ixor hx hb hdg (kk H locs ls hI hS hl)
theorem G.ishl (C : Cf w x cc nL own fr lo) {u v : Int32} (hdg : decode cc pc = .ok (.ishl, 1)) (kk : G w x nL Q (pc + 1) L (.int (u <<< (v &&& 31)) :: S) σ) : G w x nL Q pc L (.int v :: .int u :: S) σ := by
  obtain ⟨p, e, R, s, m, args, below, meth, c, kc, ks⟩ := x
  obtain ⟨hx, hb, -⟩ := C
  intro H locs ls hI hS hl
  exact lv_ishl hx hb hdg (kk H locs ls hI hS hl)
theorem G.ishr (C : Cf w x cc nL own fr lo) {u v : Int32} (hdg : decode cc pc = .ok (.ishr, 1)) (kk : G w x nL Q (pc + 1) L (.int (u >>> (v &&& 31)) :: S) σ) : G w x nL Q pc L (.int v :: .int u :: S) σ := by
  obtain ⟨p, e, R, s, m, args, below, meth, c, kc, ks⟩ := x
  obtain ⟨hx, hb, -⟩ := C
  intro H locs ls hI hS hl
  exact lv_ishr hx hb hdg (kk H locs ls hI hS hl)
theorem G.idiv (C : Cf w x cc nL own fr lo) {u v : Int32} (hdg : decode cc pc = .ok (.idiv, 1)) (hne : ¬ v = 0) (kk : G w x nL Q (pc + 1) L (.int (u / v) :: S) σ) : G w x nL Q pc L (.int v :: .int u :: S) σ := by
  obtain ⟨p, e, R, s, m, args, below, meth, c, kc, ks⟩ := x
  obtain ⟨hx, hb, -⟩ := C
  intro H locs ls hI hS hl
  exact lv_idiv hx hb hdg hne (kk H locs ls hI hS hl)
theorem G.irem (C : Cf w x cc nL own fr lo) {u v : Int32} (hdg : decode cc pc = .ok (.irem, 1)) (hne : ¬ v = 0) (kk : G w x nL Q (pc + 1) L (.int (u - u / v * v) :: S) σ) : G w x nL Q pc L (.int v :: .int u :: S) σ := by
  obtain ⟨p, e, R, s, m, args, below, meth, c, kc, ks⟩ := x
  obtain ⟨hx, hb, -⟩ := C
  intro H locs ls hI hS hl
  exact lv_irem hx hb hdg hne (kk H locs ls hI hS hl)
theorem G.ineg (C : Cf w x cc nL own fr lo) {u : Int32} (hdg : decode cc pc = .ok (.ineg, 1)) (kk : G w x nL Q (pc + 1) L (.int (-u) :: S) σ) : G w x nL Q pc L (.int u :: S) σ := by
  obtain ⟨p, e, R, s, m, args, below, meth, c, kc, ks⟩ := x
  obtain ⟨hx, hb, -⟩ := C
  intro H locs ls hI hS hl
  exact lv_ineg hx hb hdg (kk H locs ls hI hS hl)
theorem G.ladd (C : Cf w x cc nL own fr lo) {u v : Int64} (hdg : decode cc pc = .ok (.ladd, 1)) (kk : G w x nL Q (pc + 1) L (.long (u + v) :: S) σ) : G w x nL Q pc L (.long v :: .long u :: S) σ := by
  obtain ⟨p, e, R, s, m, args, below, meth, c, kc, ks⟩ := x
  obtain ⟨hx, hb, -⟩ := C
  intro H locs ls hI hS hl
  exact lv_ladd hx hb hdg (kk H locs ls hI hS hl)
theorem G.lcmp (C : Cf w x cc nL own fr lo) {u v : Int64} (hdg : decode cc pc = .ok (.lcmp, 1)) (kk : G w x nL Q (pc + 1) L (.int (lg_cmp u v) :: S) σ) : G w x nL Q pc L (.long v :: .long u :: S) σ := by
  obtain ⟨p, e, R, s, m, args, below, meth, c, kc, ks⟩ := x
  obtain ⟨hx, hb, -⟩ := C
  intro H locs ls hI hS hl
  exact W.lcmp hx hb hdg (kk H locs ls hI hS hl)
theorem G.iushr (C : Cf w x cc nL own fr lo) {u v r : Int32} (hdg : decode cc pc = .ok (.iushr, 1)) (hv : (u.toUInt32 >>> (v.toUInt32 &&& Int32.toUInt32 31)).toInt32 = r) (kk : G w x nL Q (pc + 1) L (.int r :: S) σ) : G w x nL Q pc L (.int v :: .int u :: S) σ := by
  obtain ⟨p, e, R, s, m, args, below, meth, c, kc, ks⟩ := x
  obtain ⟨hx, hb, -⟩ := C
  intro H locs ls hI hS hl
  exact lv_iushr hx hb hdg hv (kk H locs ls hI hS hl)
theorem G.dup (C : Cf w x cc nL own fr lo) {va : Value} (hdg : decode cc pc = .ok (.dup, 1)) (hva : va.category = 1) (kk : G w x nL Q (pc + 1) L (va :: va :: S) σ) : G w x nL Q pc L (va :: S) σ := by
  obtain ⟨p, e, R, s, m, args, below, meth, c, kc, ks⟩ := x
  obtain ⟨hx, hb, -⟩ := C
  intro H locs ls hI hS hl
  exact lv_dup hx hb hdg hva (kk H locs ls hI hS hl)
theorem G.pop (C : Cf w x cc nL own fr lo) {va : Value} (hdg : decode cc pc = .ok (.pop, 1)) (hva : va.category = 1) (kk : G w x nL Q (pc + 1) L (S) σ) : G w x nL Q pc L (va :: S) σ := by
  obtain ⟨p, e, R, s, m, args, below, meth, c, kc, ks⟩ := x
  obtain ⟨hx, hb, -⟩ := C
  intro H locs ls hI hS hl
  exact lv_pop hx hb hdg hva (kk H locs ls hI hS hl)
theorem G.dup_x1 (C : Cf w x cc nL own fr lo) {va vb : Value} (hdg : decode cc pc = .ok (.dup_x1, 1)) (hva : va.category = 1) (hvb : vb.category = 1) (kk : G w x nL Q (pc + 1) L (va :: vb :: va :: S) σ) : G w x nL Q pc L (va :: vb :: S) σ := by
  obtain ⟨p, e, R, s, m, args, below, meth, c, kc, ks⟩ := x
  obtain ⟨hx, hb, -⟩ := C
  intro H locs ls hI hS hl
  exact lv_dup_x1 hx hb hdg hva hvb (kk H locs ls hI hS hl)
theorem G.dup_x2 (C : Cf w x cc nL own fr lo) {va vb vd : Value} (hdg : decode cc pc = .ok (.dup_x2, 1)) (hva : va.category = 1) (hvb : vb.category = 1) (hvd : vd.category = 1) (kk : G w x nL Q (pc + 1) L (va :: vb :: vd :: va :: S) σ) : G w x nL Q pc L (va :: vb :: vd :: S) σ := by
  obtain ⟨p, e, R, s, m, args, below, meth, c, kc, ks⟩ := x
  obtain ⟨hx, hb, -⟩ := C
  intro H locs ls hI hS hl
  exact lv_dup_x2 hx hb hdg hva hvb hvd (kk H locs ls hI hS hl)
theorem G.dup2 (C : Cf w x cc nL own fr lo) {va vb : Value} (hdg : decode cc pc = .ok (.dup2, 1)) (hva : va.category = 1) (hvb : vb.category = 1) (kk : G w x nL Q (pc + 1) L (va :: vb :: va :: vb :: S) σ) : G w x nL Q pc L (va :: vb :: S) σ := by
  obtain ⟨p, e, R, s, m, args, below, meth, c, kc, ks⟩ := x
  obtain ⟨hx, hb, -⟩ := C
  intro H locs ls hI hS hl
  exact lv_dup2_11 hx hb hdg hva hvb (kk H locs ls hI hS hl)
theorem G.goto (C : Cf w x cc nL own fr lo) {off : Int} {tgt : Nat} (hdg : decode cc pc = .ok (.goto off, 3)) (ht : (pc : Int) + off = (tgt : Int)) (kk : G w x nL Q tgt L (S) σ) : G w x nL Q pc L (S) σ := by
  obtain ⟨p, e, R, s, m, args, below, meth, c, kc, ks⟩ := x
  obtain ⟨hx, hb, -⟩ := C
  intro H locs ls hI hS hl
  exact lv_goto hx hb hdg ht (kk H locs ls hI hS hl)
theorem G.if_eq (C : Cf w x cc nL own fr lo) {u : Int32} {off : Int} {tgt : Nat} (hdg : decode cc pc = .ok (.ifCond .eq off, 3)) (ht : (pc : Int) + off = (tgt : Int)) (kt : u = 0 → G w x nL Q tgt L S σ) (kf : ¬ (u = 0) → G w x nL Q (pc + 3) L S σ) : G w x nL Q pc L (.int u :: S) σ := by
  obtain ⟨p, e, R, s, m, args, below, meth, c, kc, ks⟩ := x
  obtain ⟨hx, hb, -⟩ := C
  intro H locs ls hI hS hl
  exact lv_if_eq hx hb hdg ht (fun h => kt h H locs ls hI hS hl) (fun h => kf (h) H locs ls hI hS hl)
theorem G.icmp_eq (C : Cf w x cc nL own fr lo) {u v : Int32} {off : Int} {tgt : Nat} (hdg : decode cc pc = .ok (.if_icmp .eq off, 3)) (ht : (pc : Int) + off = (tgt : Int)) (kt : u = v → G w x nL Q tgt L S σ) (kf : ¬ (u = v) → G w x nL Q (pc + 3) L S σ) : G w x nL Q pc L (.int v :: .int u :: S) σ := by
  obtain ⟨p, e, R, s, m, args, below, meth, c, kc, ks⟩ := x
  obtain ⟨hx, hb, -⟩ := C
  intro H locs ls hI hS hl
  exact lv_icmp_eq hx hb hdg ht (fun h => kt h H locs ls hI hS hl) (fun h => kf (h) H locs ls hI hS hl)
theorem G.if_ne (C : Cf w x cc nL own fr lo) {u : Int32} {off : Int} {tgt : Nat} (hdg : decode cc pc = .ok (.ifCond .ne off, 3)) (ht : (pc : Int) + off = (tgt : Int)) (kt : ¬ u = 0 → G w x nL Q tgt L S σ) (kf : u = 0 → G w x nL Q (pc + 3) L S σ) : G w x nL Q pc L (.int u :: S) σ := by
  obtain ⟨p, e, R, s, m, args, below, meth, c, kc, ks⟩ := x
  obtain ⟨hx, hb, -⟩ := C
  intro H locs ls hI hS hl
  exact lv_if_ne hx hb hdg ht (fun h => kt h H locs ls hI hS hl) (fun h => kf (h) H locs ls hI hS hl)
theorem G.icmp_ne (C : Cf w x cc nL own fr lo) {u v : Int32} {off : Int} {tgt : Nat} (hdg : decode cc pc = .ok (.if_icmp .ne off, 3)) (ht : (pc : Int) + off = (tgt : Int)) (kt : ¬ u = v → G w x nL Q tgt L S σ) (kf : u = v → G w x nL Q (pc + 3) L S σ) : G w x nL Q pc L (.int v :: .int u :: S) σ := by
  obtain ⟨p, e, R, s, m, args, below, meth, c, kc, ks⟩ := x
  obtain ⟨hx, hb, -⟩ := C
  intro H locs ls hI hS hl
  exact lv_icmp_ne hx hb hdg ht (fun h => kt h H locs ls hI hS hl) (fun h => kf (h) H locs ls hI hS hl)
theorem G.if_lt (C : Cf w x cc nL own fr lo) {u : Int32} {off : Int} {tgt : Nat} (hdg : decode cc pc = .ok (.ifCond .lt off, 3)) (ht : (pc : Int) + off = (tgt : Int)) (kt : u < 0 → G w x nL Q tgt L S σ) (kf : ¬ (u < 0) → G w x nL Q (pc + 3) L S σ) : G w x nL Q pc L (.int u :: S) σ := by
  obtain ⟨p, e, R, s, m, args, below, meth, c, kc, ks⟩ := x
  obtain ⟨hx, hb, -⟩ := C
  intro H locs ls hI hS hl
  exact lv_if_lt hx hb hdg ht (fun h => kt h H locs ls hI hS hl) (fun h => kf (h) H locs ls hI hS hl)
theorem G.icmp_lt (C : Cf w x cc nL own fr lo) {u v : Int32} {off : Int} {tgt : Nat} (hdg : decode cc pc = .ok (.if_icmp .lt off, 3)) (ht : (pc : Int) + off = (tgt : Int)) (kt : u < v → G w x nL Q tgt L S σ) (kf : ¬ (u < v) → G w x nL Q (pc + 3) L S σ) : G w x nL Q pc L (.int v :: .int u :: S) σ := by
  obtain ⟨p, e, R, s, m, args, below, meth, c, kc, ks⟩ := x
  obtain ⟨hx, hb, -⟩ := C
  intro H locs ls hI hS hl
  exact lv_icmp_lt hx hb hdg ht (fun h => kt h H locs ls hI hS hl) (fun h => kf (h) H locs ls hI hS hl)
theorem G.if_ge (C : Cf w x cc nL own fr lo) {u : Int32} {off : Int} {tgt : Nat} (hdg : decode cc pc = .ok (.ifCond .ge off, 3)) (ht : (pc : Int) + off = (tgt : Int)) (kt : 0 ≤ u → G w x nL Q tgt L S σ) (kf : ¬ (0 ≤ u) → G w x nL Q (pc + 3) L S σ) : G w x nL Q pc L (.int u :: S) σ := by
  obtain ⟨p, e, R, s, m, args, below, meth, c, kc, ks⟩ := x
  obtain ⟨hx, hb, -⟩ := C
  intro H locs ls hI hS hl
  exact lv_if_ge hx hb hdg ht (fun h => kt h H locs ls hI hS hl) (fun h => kf (h) H locs ls hI hS hl)
theorem G.icmp_ge (C : Cf w x cc nL own fr lo) {u v : Int32} {off : Int} {tgt : Nat} (hdg : decode cc pc = .ok (.if_icmp .ge off, 3)) (ht : (pc : Int) + off = (tgt : Int)) (kt : v ≤ u → G w x nL Q tgt L S σ) (kf : ¬ (v ≤ u) → G w x nL Q (pc + 3) L S σ) : G w x nL Q pc L (.int v :: .int u :: S) σ := by
  obtain ⟨p, e, R, s, m, args, below, meth, c, kc, ks⟩ := x
  obtain ⟨hx, hb, -⟩ := C
  intro H locs ls hI hS hl
  exact lv_icmp_ge hx hb hdg ht (fun h => kt h H locs ls hI hS hl) (fun h => kf (h) H locs ls hI hS hl)
theorem G.if_gt (C : Cf w x cc nL own fr lo) {u : Int32} {off : Int} {tgt : Nat} (hdg : decode cc pc = .ok (.ifCond .gt off, 3)) (ht : (pc : Int) + off = (tgt : Int)) (kt : 0 < u → G w x nL Q tgt L S σ) (kf : ¬ (0 < u) → G w x nL Q (pc + 3) L S σ) : G w x nL Q pc L (.int u :: S) σ := by
  obtain ⟨p, e, R, s, m, args, below, meth, c, kc, ks⟩ := x
  obtain ⟨hx, hb, -⟩ := C
  intro H locs ls hI hS hl
  exact lv_if_gt hx hb hdg ht (fun h => kt h H locs ls hI hS hl) (fun h => kf (h) H locs ls hI hS hl)
theorem G.icmp_gt (C : Cf w x cc nL own fr lo) {u v : Int32} {off : Int} {tgt : Nat} (hdg : decode cc pc = .ok (.if_icmp .gt off, 3)) (ht : (pc : Int) + off = (tgt : Int)) (kt : v < u → G w x nL Q tgt L S σ) (kf : ¬ (v < u) → G w x nL Q (pc + 3) L S σ) : G w x nL Q pc L (.int v :: .int u :: S) σ := by
  obtain ⟨p, e, R, s, m, args, below, meth, c, kc, ks⟩ := x
  obtain ⟨hx, hb, -⟩ := C
  intro H locs ls hI hS hl
  exact lv_icmp_gt hx hb hdg ht (fun h => kt h H locs ls hI hS hl) (fun h => kf (h) H locs ls hI hS hl)
theorem G.if_le (C : Cf w x cc nL own fr lo) {u : Int32} {off : Int} {tgt : Nat} (hdg : decode cc pc = .ok (.ifCond .le off, 3)) (ht : (pc : Int) + off = (tgt : Int)) (kt : u ≤ 0 → G w x nL Q tgt L S σ) (kf : ¬ (u ≤ 0) → G w x nL Q (pc + 3) L S σ) : G w x nL Q pc L (.int u :: S) σ := by
  obtain ⟨p, e, R, s, m, args, below, meth, c, kc, ks⟩ := x
  obtain ⟨hx, hb, -⟩ := C
  intro H locs ls hI hS hl
  exact lv_if_le hx hb hdg ht (fun h => kt h H locs ls hI hS hl) (fun h => kf (h) H locs ls hI hS hl)
theorem G.icmp_le (C : Cf w x cc nL own fr lo) {u v : Int32} {off : Int} {tgt : Nat} (hdg : decode cc pc = .ok (.if_icmp .le off, 3)) (ht : (pc : Int) + off = (tgt : Int)) (kt : u ≤ v → G w x nL Q tgt L S σ) (kf : ¬ (u ≤ v) → G w x nL Q (pc + 3) L S σ) : G w x nL Q pc L (.int v :: .int u :: S) σ := by
  obtain ⟨p, e, R, s, m, args, below, meth, c, kc, ks⟩ := x
  obtain ⟨hx, hb, -⟩ := C
  intro H locs ls hI hS hl
  exact lv_icmp_le hx hb hdg ht (fun h => kt h H locs ls hI hS hl) (fun h => kf (h) H locs ls hI hS hl)
theorem G.istore_n (C : Cf w x cc nL own fr lo) {L1 : List (Nat × Value)} {k : Fin 4} {i : Nat} {v : Int32} (hdg : decode cc pc = .ok (.istore_n k, 1)) (hi : (k : Nat) = i) (hn : i < nL) (hL : (i, Value.int v) :: L.filter (fun q => !(q.1 == i) && !(q.1 + 1 == i && q.2.category == 2)) = L1) (kk : G w x nL Q (pc + 1) L1 S σ) : G w x nL Q pc L (.int v :: S) σ := by
  obtain ⟨p, e, R, s, m, args, below, meth, c, kc, ks⟩ := x
  obtain ⟨hx, hb, -⟩ := C
  intro H locs ls hI hS hl
  exact lv_istore_n hx hb hdg hi hl hn hL (fun ls2 hl2 => kk H locs ls2 hI hS hl2)
theorem G.istore (C : Cf w x cc nL own fr lo) {L1 : List (Nat × Value)} {i : Nat} {v : Int32} (hdg : decode cc pc = .ok (.istore i, 2)) (hn : i < nL) (hL : (i, Value.int v) :: L.filter (fun q => !(q.1 == i) && !(q.1 + 1 == i && q.2.category == 2)) = L1) (kk : G w x nL Q (pc + 2) L1 S σ) : G w x nL Q pc L (.int v :: S) σ := by
  obtain ⟨p, e, R, s, m, args, below, meth, c, kc, ks⟩ := x
  obtain ⟨hx, hb, -⟩ := C
  intro H locs ls hI hS hl
  exact lv_istore hx hb hdg hl hn hL (fun ls2 hl2 => kk H locs ls2 hI hS hl2)
theorem G.astore_n (C : Cf w x cc nL own fr lo) {L1 : List (Nat × Value)} {k : Fin 4} {i v : Nat} (hdg : decode cc pc = .ok (.astore_n k, 1)) (hi : (k : Nat) = i) (hn : i < nL) (hL : (i, Value.ref v) :: L.filter (fun q => !(q.1 == i) && !(q.1 + 1 == i && q.2.category == 2)) = L1) (kk : G w x nL Q (pc + 1) L1 S σ) : G w x nL Q pc L (.ref v :: S) σ := by
  obtain ⟨p, e, R, s, m, args, below, meth, c, kc, ks⟩ := x
  obtain ⟨hx, hb, -⟩ := C
  intro H locs ls hI hS hl
  exact lv_astore_n hx hb hdg hi hl hn hL (fun ls2 hl2 => kk H locs ls2 hI hS hl2)
theorem G.astore (C : Cf w x cc nL own fr lo) {L1 : List (Nat × Value)} {i v : Nat} (hdg : decode cc pc = .ok (.astore i, 2)) (hn : i < nL) (hL : (i, Value.ref v) :: L.filter (fun q => !(q.1 == i) && !(q.1 + 1 == i && q.2.category == 2)) = L1) (kk : G w x nL Q (pc + 2) L1 S σ) : G w x nL Q pc L (.ref v :: S) σ := by
  obtain ⟨p, e, R, s, m, args, below, meth, c, kc, ks⟩ := x
  obtain ⟨hx, hb, -⟩ := C
  intro H locs ls hI hS hl
  exact lv_astore hx hb hdg hl hn hL (fun ls2 hl2 => kk H locs ls2 hI hS hl2)
theorem G.iinc (C : Cf w x cc nL own fr lo) {L1 : List (Nat × Value)} (q : Nat) {i : Nat} {n : Int} {u v : Int32} (hdg : decode cc pc = .ok (.iinc i n, 3)) (hq : L[q]? = some (i, .int u)) (hv : u + Int32.ofInt n = v) (hn : i < nL) (hL : (i, Value.int v) :: L.filter (fun q => !(q.1 == i) && !(q.1 + 1 == i && q.2.category == 2)) = L1) (kk : G w x nL Q (pc + 3) L1 S σ) : G w x nL Q pc L S σ := by
  obtain ⟨p, e, R, s, m, args, below, meth, c, kc, ks⟩ := x
  obtain ⟨hx, hb, -⟩ := C
  intro H locs ls hI hS hl
  exact lv_iinc hx hb hdg hl hq hv hn hL (fun ls2 hl2 => kk H locs ls2 hI hS hl2)
/-- fewer locals, in another order -/
theorem G.sub {L1 : List (Nat × Value)} (ks : List Nat) (hL : lv_pick L ks = L1) (kk : G w x nL Q pc L1 S σ) : G w x nL Q pc L S σ := by
  obtain ⟨p, e, R, s, m, args, below, meth, c, kc, kt⟩ := x
  intro H locs ls hI hS hl
  exact kk H locs ls hI hS (lv_sub hl ks hL)
theorem G.ldc (C : Cf w x cc nL own fr lo) {index : Nat} {v : Int32} (hw : Cond.constant own index v ∈ wsU) (hdg : decode cc pc = .ok (.ldc index, 2)) (kk : G w x nL Q (pc + 2) L (.int v :: S) σ) : G w x nL Q pc L S σ := by
  obtain ⟨p, e, R, s, m, args, below, meth, c, kc, ks⟩ := x
  obtain ⟨hx, hb, -, hown, hts, -⟩ := C
  intro H locs ls hI hS hl
  exact lv_ldc hx hb hown (hts _ hw) hdg (kk H locs ls hI hS hl)
theorem G.ldc_w (C : Cf w x cc nL own fr lo) {index : Nat} {v : Int32} (hw : Cond.constant own index v ∈ wsU) (hdg : decode cc pc = .ok (.ldc_w index, 3)) (kk : G w x nL Q (pc + 3) L (.int v :: S) σ) : G w x nL Q pc L S σ := by
  obtain ⟨p, e, R, s, m, args, below, meth, c, kc, ks⟩ := x
  obtain ⟨hx, hb, -, hown, hts, -⟩ := C
  intro H locs ls hI hS hl
  exact lv_ldcw hx hb hown (hts _ hw) hdg (kk H locs ls hI hS hl)
theorem G.ldc2 (C : Cf w x cc nL own fr lo) {index : Nat} {v : Int64} (hw : Cond.constantLong own index v ∈ wsU) (hdg : decode cc pc = .ok (.ldc2_w index, 3)) (kk : G w x nL Q (pc + 3) L (.long v :: S) σ) : G w x nL Q pc L S σ := by
  obtain ⟨p, e, R, s, m, args, below, meth, c, kc, ks⟩ := x
  obtain ⟨hx, hb, -, hown, hts, -⟩ := C
  intro H locs ls hI hS hl
  exact lv_ldc2 hx hb hown (hts _ hw) hdg (kk H locs ls hI hS hl)
theorem G.iret (C : Cf w x cc nL own fr lo) {Post : Int32 → wSt → Prop} {v : Int32} (hr : Rt x (some .int)) (hdg : decode cc pc = .ok (.ireturn, 1)) (hp : Post v σ) : G w x nL (QI w x Post) pc L [.int v] σ := by
  obtain ⟨p, e, R, s, m, args, below, meth, c, kc, ks⟩ := x
  obtain ⟨hx, hb, -, -, -, -, hlocks, -⟩ := C
  intro H locs ls hI hS hl
  exact W.iret hx hb hr (fun t ht hW => ⟨⟨v, σ, rfl, hp, show wInv w σ t.heap by rw [ht]; exact hI⟩, hS.F ht⟩) hS.2.2 hdg hlocks
theorem G.lret (C : Cf w x cc nL own fr lo) {Post : Int64 → wSt → Prop} {v : Int64} (hr : Rt x (some .long)) (hdg : decode cc pc = .ok (.lreturn, 1)) (hp : Post v σ) : G w x nL (QL w x Post) pc L [.long v] σ := by
  obtain ⟨p, e, R, s, m, args, below, meth, c, kc, ks⟩ := x
  obtain ⟨hx, hb, -, -, -, -, hlocks, -⟩ := C
  intro H locs ls hI hS hl
  exact W.lret hx hb hr (fun t ht hW => ⟨⟨v, σ, rfl, hp, show wInv w σ t.heap by rw [ht]; exact hI⟩, hS.F ht⟩) hS.2.2 hdg hlocks
theorem G.zret (C : Cf w x cc nL own fr lo) {Post : Int32 → wSt → Prop} {v : Int32} (hr : Rt x (some .boolean)) (hn : narrow .boolean (.int v) = .int v) (hdg : decode cc pc = .ok (.ireturn, 1)) (hp : Post v σ) : G w x nL (QI w x Post) pc L [.int v] σ := by
  obtain ⟨p, e, R, s, m, args, below, meth, c, kc, ks⟩ := x
  obtain ⟨hx, hb, -, -, -, -, hlocks, -⟩ := C
  intro H locs ls hI hS hl
  exact W.zret hx hb hr hn (fun t ht hW => ⟨⟨v, σ, rfl, hp, show wInv w σ t.heap by rw [ht]; exact hI⟩, hS.F ht⟩) hS.2.2 hdg hlocks
theorem G.vret (C : Cf w x cc nL own fr lo) {Post : wSt → Prop} (hr : Rt x none) (hdg : decode cc pc = .ok (.return_, 1)) (hp : Post σ) : G w x nL (QV w x Post) pc L [] σ := by
  obtain ⟨p, e, R, s, m, args, below, meth, c, kc, ks⟩ := x
  obtain ⟨hx, hb, -, -, -, -, hlocks, -⟩ := C
  intro H locs ls hI hS hl
  exact W.vret hx hb hr (fun t ht hW => ⟨⟨σ, rfl, hp, show wInv w σ t.heap by rw [ht]; exact hI⟩, hS.F ht⟩) hS.2.2 hdg hlocks
end GROWS
end
section
/-! PART 02.c: the rows that read and write the heap, and the calls -/
/-- one number becomes v -/
def wUp (s : wSt) (g i k : Nat) (v : Int32) : wSt := (fun g1 i1 k1 => if g1 = g ∧ i1 = i ∧ k1 = k then v else s.1 g1 i1 k1, s.2)
def wUpL (s : wSt) (j : Nat) (v : Int64) : wSt := (s.1, fun j1 => if j1 = j then v else s.2 j1)
theorem wUp_eq {s : wSt} {g i k : Nat} {v : Int32} : (wUp s g i k v).1 g i k = v := by simp [wUp]
theorem wUp_ne {s : wSt} {g i k g1 i1 k1 : Nat} {v : Int32} (h : ¬ (g1 = g ∧ i1 = i ∧ k1 = k)) : (wUp s g i k v).1 g1 i1 k1 = s.1 g1 i1 k1 := by
  show (if g1 = g ∧ i1 = i ∧ k1 = k then v else s.1 g1 i1 k1) = _
  rw [if_neg h]
theorem wUp_2 {s : wSt} {g i k : Nat} {v : Int32} : (wUp s g i k v).2 = s.2 := rfl
theorem wUpL_1 {s : wSt} {j : Nat} {v : Int64} : (wUpL s j v).1 = s.1 := rfl
theorem wUpL_eq {s : wSt} {j : Nat} {v : Int64} : (wUpL s j v).2 j = v := by simp [wUpL]
theorem wUpL_ne {s : wSt} {j j1 : Nat} {v : Int64} (h : ¬ j1 = j) : (wUpL s j v).2 j1 = s.2 j1 := by simp [wUpL, h]
/-- a cell's picture speaks of its own numbers alone -/
theorem wCt_congr {cy : Nat → ClassId} {E : Nat → Nat → Nat} {s t : wSt} {g i : Nat} (h1 : t.1 g i = s.1 g i) (h2 : t.2 = s.2) : wCt cy E t g i = wCt cy E s g i := by
  unfold wCt
  split <;> first | (rw [h1, h2]; done) | (rw [h1]; done) | rfl
theorem wCt_congrL {cy : Nat → ClassId} {E : Nat → Nat → Nat} {s t : wSt} {g i : Nat} (h1 : t.1 g i = s.1 g i) (h2 : ¬ g = 0) (h3 : ¬ g = 20) : wCt cy E t g i = wCt cy E s g i := by
  unfold wCt
  split <;> first | exact absurd rfl h2 | exact absurd rfl h3 | (rw [h1]; done) | rfl
theorem wInv.up {w : wD} {σ : wSt} {H H1 : Heap} {g i k : Nat} {v : Int32} (hI : wInv w σ H) (hw : wOK w) (hi : i < wN g) (h1 : va_at w.2.1 vwCl (w.2.2.2.1 g i, wCt w.2.2.1 w.2.2.2.1 (wUp σ g i k v) g i) H1) (hq : ∀ q, q ≠ w.2.2.2.1 g i → H1[q]? = H[q]?) : wInv w (wUp σ g i k v) H1 := by
  intro g1 i1 hi1
  by_cases e : g1 = g ∧ i1 = i
  · obtain ⟨rfl, rfl⟩ := e
    exact h1
  · rw [wCt_congr (s := σ) (t := wUp σ g i k v) (funext fun k1 => wUp_ne fun z => e ⟨z.1, z.2.1⟩) rfl]
    exact (hI g1 i1 hi1).kept (hq _ fun z => e (hw.1 g1 i1 g i hi1 hi z))
theorem wInv.upL {w : wD} {σ : wSt} {H H1 : Heap} {g i j : Nat} {v : Int64} (hI : wInv w σ H) (hw : wOK w) (hi : i < wN g) (hg : (j = 0 ∧ g = 0) ∨ (j = 1 ∧ g = 20)) (h1 : va_at w.2.1 vwCl (w.2.2.2.1 g i, wCt w.2.2.1 w.2.2.2.1 (wUpL σ j v) g i) H1) (hq : ∀ q, q ≠ w.2.2.2.1 g i → H1[q]? = H[q]?) : wInv w (wUpL σ j v) H1 := by
  have hi0 : i = 0 := by
    rcases hg with ⟨-, rfl⟩ | ⟨-, rfl⟩
    · exact Nat.lt_one_iff.mp hi
    · exact Nat.lt_one_iff.mp hi
  subst hi0
  intro g1 i1 hi1
  by_cases e : g1 = g ∧ i1 = 0
  · obtain ⟨rfl, rfl⟩ := e
    exact h1
  · have hc : wCt w.2.2.1 w.2.2.2.1 (wUpL σ j v) g1 i1 = wCt w.2.2.1 w.2.2.2.1 σ g1 i1 := by
      by_cases e0 : g1 = 0
      · subst e0
        have e1 : i1 = 0 := Nat.lt_one_iff.mp hi1
        rcases hg with ⟨rfl, rfl⟩ | ⟨rfl, rfl⟩
        · exact absurd ⟨rfl, e1⟩ e
        · rfl
      · by_cases e2 : g1 = 20
        · subst e2
          have e1 : i1 = 0 := Nat.lt_one_iff.mp hi1
          rcases hg with ⟨rfl, rfl⟩ | ⟨rfl, rfl⟩
          · rfl
          · exact absurd ⟨rfl, e1⟩ e
        · exact wCt_congrL rfl e0 e2
    rw [hc]
    exact (hI g1 i1 hi1).kept (hq _ fun z => e (hw.1 g1 i1 g 0 hi1 hi z))
def wLkB (own : String) (index : Nat) (ref n d : String) (args : Array Value) (s : State) : Option String → Bool
  | none => (Cond.fieldLink own index ref n d).before args s
  | some h => (Cond.fieldLinkNest own index ref n d h).before args s
section HV
variable {p : Program} {l : Launch} {e : Env} {R : Room} {s : State} {m : MethodId} {args : Array Value} {below : List Frame} {meth : Method} {c : Code} {H : Heap} {locs : List Loc} {cells slots : Nat} {Q : State → Prop}
variable {cc : ByteArray} {pc : Nat} {ls : Array Slot} {rest : List Value} {D : va_G} {cl : List vw_C} {a : Nat} {tys : List (ClassId × FieldType)}
theorem xw_one {q : Nat × va_E} (h : va_at D cl q H) : va_P D cl [q] H := fun k q1 hq => by
  have h0 : k = 0 := by
    have := (List.getElem?_eq_some_iff.mp hq).1
    simp at this
    exact this
  subst h0
  cases hq
  exact h
theorem xw_put (hexec : p.tables.exec = Jvm.exec) (hb : c.code = cc) {own ref C : String} {T : u_T} {N ci index : Nat} (hin : ∀ w ∈ u_ws C T N, w.before args s = true) (ty0 : Nat → FieldType) (hty : ∀ k, k < N → parseFieldDescriptor (T k).2.2.1 = some (ty0 k)) (hnm : ∀ a, a < N → ∀ b, b < N → a ≠ b → (T a).2.1 ≠ (T b).2.1) (hown : s.vm.findClass own = some m.cls) (hK : va_K D cl tys s) {fs : List Value} (hP : va_at D cl (a, .inr (ci, fs)) H) (hc : cl[ci]? = some (C, T, N)) (k : Nat) (hk : k < N) (host : Option String) (hlink : wLkB own index ref (T k).2.1 (T k).2.2.1 args s host = true) (hsame : (T k).1 = ref) (hfin : (T k).2.2.2 = false) {ty : FieldType} {v : Value} (hd : parseFieldDescriptor (T k).2.2.1 = some ty) (hn : narrow ty v = v) (hfit : fits ty v = true) (hl : k < fs.length)
    (hdg : decode cc pc = .ok (.putfield index, 3)) (kk : ∀ (H1 : Heap) (i : Nat), va_at D cl (a, .inr (ci, fs.set k v)) H1 → H1.size = H.size → (∀ q, q ≠ a → H1[q]? = H[q]?) → W p l e R s m args below meth c H1 (locs ++ [⟨a, i⟩]) cells slots Q (F0 m (pc + 3) ls rest)) : W p l e R s m args below meth c H locs cells slots Q (F0 m pc ls (v :: .ref a :: rest)) := by
  have hap := va_apart (own := own) (args := args) (Ts := u_ws C T N) hin (fun _ h => h) ty0 hty hnm hK hc
  obtain ⟨r, h1, cell, q1, q2, q3, q4⟩ := hP
  have hr : r = (C, T, N) := Option.some.inj (h1.symm.trans hc)
  subst hr
  obtain ⟨hS, hfc, kC, hkC, hkind⟩ := hK.1 ci _ hc
  obtain ⟨cf, kf, fi, f, hi, hsl⟩ := hS k hk
  have hlay := hin _ (u_in_lay hk)
  unfold u_lay at hlay
  rw [if_neg (by rw [hfin]; decide)] at hlay
  have hst := (u_facts hfc hkC (u_lays (ws := u_ws C T N) hin (fun _ h => h) hk) hi).1
  have h6 := u_store hfc hkC hkind hlay hi hd hn hfit
  have hi2 : s.fieldFound? ref (T k).2.1 (T k).2.2.1 = some (cf, kf, fi, f) := by rw [← hsame]; exact hi
  have go : ∀ H' : Heap, H'[a]? = some (cell.setSlot f.slot v) → H'.size = H.size → (∀ q, q ≠ a → H'[q]? = H[q]?) → W p l e R s m args below meth c H' (locs ++ [⟨a, f.slot⟩]) cells slots Q (F0 m (pc + 3) ls rest) := fun H' e1 e2 e3 => by
    rw [hsl] at e1 ⊢
    exact kk H' _ ⟨_, hc, t_OB.to (V := updV (vp_V fs) k v) ⟨_, e1, q2, q3, t_set q4 hap hk v⟩ (fun j _ => vp_updV_set hl v j)⟩ e2 e3
  cases host with
  | none => exact W.putK hexec hb (f := f) ⟨hown, hlink, ⟨_, _, _, hi2⟩, hst⟩ (by rw [q2]; exact h6) q1 q3 (by rw [hsl]; exact k2_hasslot (q4 k hk)) rfl rfl hdg go
  | some h => exact va_WputK hexec hb (f := f) hown hlink hi2 hst (by rw [q2]; exact h6) q1 q3 (by rw [hsl]; exact k2_hasslot (q4 k hk)) rfl rfl hdg go
theorem xw_get (hexec : p.tables.exec = Jvm.exec) (hb : c.code = cc) {own ref C : String} {T : u_T} {N ci index : Nat} (hin : ∀ w ∈ u_ws C T N, w.before args s = true) (hown : s.vm.findClass own = some m.cls) (hK : va_K D cl tys s) {fs : List Value} (hP : va_at D cl (a, .inr (ci, fs)) H) (hc : cl[ci]? = some (C, T, N)) (k : Nat) (hk : k < N) (host : Option String) (hlink : wLkB own index ref (T k).2.1 (T k).2.2.1 args s host = true) (hsame : (T k).1 = ref) {v : Value} (hv : fs[k]? = some v) (hdg : decode cc pc = .ok (.getfield index, 3))
    (kk : W p l e R s m args below meth c H locs cells slots Q (F0 m (pc + 3) ls (v :: rest))) : W p l e R s m args below meth c H locs cells slots Q (F0 m pc ls (.ref a :: rest)) := by
  cases host with
  | none => exact va_get (D := D) (Ts := u_ws C T N) hexec hb hin (fun _ h => h) hown hK (xw_one hP) 0 rfl hc k hk hlink (fun x h => by rw [← hsame]; exact h) hv hdg kk
  | some h => exact va_getN (D := D) (Ts := u_ws C T N) hexec hb hin (fun _ h => h) hown hK (xw_one hP) 0 rfl hc k hk hlink (fun x h => by rw [← hsame]; exact h) hv hdg kk
theorem xw_iast (hexec : p.tables.exec = Jvm.exec) (hb : c.code = cc) (hK : va_K D cl tys s) (t0 : Nat) {cA : ClassId} {n : Nat} {f : Nat → Int32} (hP : va_at D cl (a, .inl (cA, n, .inl f)) H) (ht : tys[t0]? = some (cA, .int)) {i : Int32} {x : Int32} (hin : vp_in i n) (hdg : decode cc pc = .ok (.iastore, 1))
    (kk : ∀ H1 : Heap, va_at D cl (a, .inl (cA, n, .inl (upd f i.toNatClampNeg x))) H1 → H1.size = H.size → (∀ q, q ≠ a → H1[q]? = H[q]?) → W p l e R s m args below meth c H1 (locs ++ [⟨a, i.toNatClampNeg⟩]) cells slots Q (F0 m (pc + 1) ls rest)) : W p l e R s m args below meth c H locs cells slots Q (F0 m pc ls (.int x :: .int i :: .ref a :: rest)) := by
  refine W.iast hexec hb hP ((hK.2 t0 _ ht).1 n (fun j => .int (f j))) (fun q => by cases q) (by show ¬ (i < 0 ∨ (arrV _ _ _).slots.size ≤ _); rw [arrV_size]; exact hin) rfl rfl hdg fun H1 e z oq => ?_
  refine kk H1 ?_ z oq
  show H1[a]? = some (vp_cell _ _)
  rw [e, vp_cell_i, vp_cell_i, arrV_store]
  congr 2
  funext q
  by_cases hq : q = i.toNatClampNeg
  · subst hq
    simp [updV, upd]
  · simp [updV, upd, hq]
theorem xw_aald (hexec : p.tables.exec = Jvm.exec) (hb : c.code = cc) (hK : va_K D cl tys s) (t0 : Nat) {cA : ClassId} {ty : FieldType} {n : Nat} {f : Nat → Option Nat} (hP : va_at D cl (a, .inl (cA, n, .inr (.inr (.inr (.inr f))))) H) (ht : tys[t0]? = some (cA, ty)) (hty : ty.isReference = true) {i : Int32} (hin : vp_in i n) (hdg : decode cc pc = .ok (.aaload, 1))
    (kk : W p l e R s m args below meth c H locs cells slots Q (F0 m (pc + 1) ls (va_rf (f i.toNatClampNeg) :: rest))) : W p l e R s m args below meth c H locs cells slots Q (F0 m pc ls (.int i :: .ref a :: rest)) := by
  have hlt : i.toNatClampNeg < n := Nat.not_le.mp fun q => hin (Or.inr q)
  exact W.aald (v := va_rf (f i.toNatClampNeg)) (ty := ty) hexec hb hP ((hK.2 t0 _ ht).1 n (fun j => va_rf (f j))) hty (fun q => by cases q) (by show ¬ (i < 0 ∨ (arrV _ _ _).slots.size ≤ _); rw [arrV_size]; exact hin) (by show (arrV _ _ _).slots[_]? = _; rw [arrV_read _ _ hlt]) rfl rfl hdg kk
end HV
theorem va_S.put1 {A : Nat → Prop} {H0 H H1 : Heap} {locs : List Loc} {a k : Nat} (h : va_S A H0 H locs) (z : H1.size = H.size) (oq : ∀ q : Nat, q ≠ a → H1[q]? = H[q]?) (ha : A a) : va_S A H0 H1 (locs ++ [⟨a, k⟩]) := h.put z oq ha
section GHEAP
variable {w : wD} {x : wX} {cc : ByteArray} {nL : Nat} {own : String} {fr lo : Nat} {Q : State → Prop} {pc : Nat} {L : List (Nat × Value)} {S : List Value} {σ : wSt}
/-- which words of the tables a link stands on: its own class's, or a nest mate's -/
def wLink (own : String) (index : Nat) (ref n d : String) : Option String → Prop
  | none => Cond.fieldLink own index ref n d ∈ wsU
  | some h => (own, index, ref, n, d, h) ∈ wNF
theorem wLink.at {own : String} {index : Nat} {ref n d : String} {host : Option String} {args : Array Value} {s : State} (h : wLink own index ref n d host) (hts : ∀ q ∈ wsU, q.before args s = true) (hK : wK w s) : wLkB own index ref n d args s host = true := by
  cases host with
  | none => exact hts _ h
  | some k => exact va_Nw.use rfl (hK.2.1 _ h)
theorem G.get (C : Cf w x cc nL own fr lo) {g i ci index N : Nat} {Cn ref : String} {T : u_T} {fs : List Value} {v : Value} (k : Nat) (host : Option String) (hdg : decode cc pc = .ok (.getfield index, 3)) (hi : i < wN g) (he : wCt w.2.2.1 w.2.2.2.1 σ g i = .inr (ci, fs)) (hc : vwCl[ci]? = some (Cn, T, N)) (hin : ∀ q ∈ u_ws Cn T N, q ∈ wsU) (hk : k < N) (hlink : wLink own index ref (T k).2.1 (T k).2.2.1 host) (hsame : (T k).1 = ref) (hv : fs[k]? = some v) (kk : G w x nL Q (pc + 3) L (v :: S) σ) : G w x nL Q pc L (.ref (w.2.2.2.1 g i) :: S) σ := by
  obtain ⟨p, e, R, s, m, args, below, meth, c, kc, ks⟩ := x
  obtain ⟨hx, hb, -, hown, hts, hK, -⟩ := C
  intro H locs ls hI hS hl
  have h := hI g i hi
  rw [he] at h
  exact xw_get hx hb (fun q hq => hts q (hin q hq)) hown hK.1 h hc k hk host (hlink.at hts hK) hsame hv hdg (kk H locs ls hI hS hl)
theorem G.put (C : Cf w x cc nL own fr lo) {g i ci index N : Nat} {Cn ref : String} {T : u_T} {fs : List Value} {v : Int32} (k : Nat) (host : Option String) (hdg : decode cc pc = .ok (.putfield index, 3)) (hi : i < wN g) (he : wCt w.2.2.1 w.2.2.2.1 σ g i = .inr (ci, fs)) (hc : vwCl[ci]? = some (Cn, T, N)) (hin : ∀ q ∈ u_ws Cn T N, q ∈ wsU) (ty0 : Nat → FieldType) (hty : ∀ k, k < N → parseFieldDescriptor (T k).2.2.1 = some (ty0 k)) (hnm : ∀ a, a < N → ∀ b, b < N → a ≠ b → (T a).2.1 ≠ (T b).2.1) (hk : k < N) (hlink : wLink own index ref (T k).2.1 (T k).2.2.1 host) (hsame : (T k).1 = ref) (hfin : (T k).2.2.2 = false) (hd : parseFieldDescriptor (T k).2.2.1 = some .int) (hl : k < fs.length) (he2 : wCt w.2.2.1 w.2.2.2.1 (wUp σ g i k v) g i = .inr (ci, fs.set k (.int v))) (kk : G w x nL Q (pc + 3) L S (wUp σ g i k v)) : G w x nL Q pc L (.int v :: .ref (w.2.2.2.1 g i) :: S) σ := by
  obtain ⟨p, e, R, s, m, args, below, meth, c, kc, ks⟩ := x
  obtain ⟨hx, hb, -, hown, hts, hK, -, -, -, -, -, hw⟩ := C
  intro H locs ls hI hS hl2
  have h := hI g i hi
  rw [he] at h
  refine xw_put hx hb (fun q hq => hts q (hin q hq)) ty0 hty hnm hown hK.1 h hc k hk host (hlink.at hts hK) hsame hfin hd rfl rfl hl hdg (fun H1 j h1 z oq => ?_)
  exact kk H1 _ ls (hI.up hw hi (by rw [he2]; exact h1) oq) (hS.put z oq (hw.2 g i hi)) hl2
theorem G.putL (C : Cf w x cc nL own fr lo) {g i ci index N j : Nat} {Cn ref : String} {T : u_T} {fs : List Value} {v : Int64} (k : Nat) (host : Option String) (hdg : decode cc pc = .ok (.putfield index, 3)) (hi : i < wN g) (hg : (j = 0 ∧ g = 0) ∨ (j = 1 ∧ g = 20)) (he : wCt w.2.2.1 w.2.2.2.1 σ g i = .inr (ci, fs)) (hc : vwCl[ci]? = some (Cn, T, N)) (hin : ∀ q ∈ u_ws Cn T N, q ∈ wsU) (ty0 : Nat → FieldType) (hty : ∀ k, k < N → parseFieldDescriptor (T k).2.2.1 = some (ty0 k)) (hnm : ∀ a, a < N → ∀ b, b < N → a ≠ b → (T a).2.1 ≠ (T b).2.1) (hk : k < N) (hlink : wLink own index ref (T k).2.1 (T k).2.2.1 host) (hsame : (T k).1 = ref) (hfin : (T k).2.2.2 = false) (hd : parseFieldDescriptor (T k).2.2.1 = some .long) (hl : k < fs.length) (he2 : wCt w.2.2.1 w.2.2.2.1 (wUpL σ j v) g i = .inr (ci, fs.set k (.long v))) (kk : G w x nL Q (pc + 3) L S (wUpL σ j v)) : G w x nL Q pc L (.long v :: .ref (w.2.2.2.1 g i) :: S) σ := by
  obtain ⟨p, e, R, s, m, args, below, meth, c, kc, ks⟩ := x
  obtain ⟨hx, hb, -, hown, hts, hK, -, -, -, -, -, hw⟩ := C
  intro H locs ls hI hS hl2
  have h := hI g i hi
  rw [he] at h
  refine xw_put hx hb (fun q hq => hts q (hin q hq)) ty0 hty hnm hown hK.1 h hc k hk host (hlink.at hts hK) hsame hfin hd rfl rfl hl hdg (fun H1 j h1 z oq => ?_)
  exact kk H1 _ ls (hI.upL hw hi hg (by rw [he2]; exact h1) oq) (hS.put z oq (hw.2 g i hi)) hl2
theorem G.iald (C : Cf w x cc nL own fr lo) {g i n : Nat} {f : Nat → Int32} {j : Int32} (hdg : decode cc pc = .ok (.iaload, 1)) (hi : i < wN g) (he : wCt w.2.2.1 w.2.2.2.1 σ g i = .inl (w.2.2.1 0, n, .inl f)) (hj : vp_in j n) (kk : G w x nL Q (pc + 1) L (.int (f j.toNatClampNeg) :: S) σ) : G w x nL Q pc L (.int j :: .ref (w.2.2.2.1 g i) :: S) σ := by
  obtain ⟨p, e, R, s, m, args, below, meth, c, kc, ks⟩ := x
  obtain ⟨hx, hb, -, hown, hts, hK, -⟩ := C
  intro H locs ls hI hS hl
  have h := hI g i hi
  rw [he] at h
  exact va_iald hx hb hK.1 (xw_one h) 0 0 rfl rfl hj hdg (kk H locs ls hI hS hl)
theorem G.aald (C : Cf w x cc nL own fr lo) {g i n : Nat} {f : Nat → Nat} {cA : ClassId} {ty : FieldType} {j : Int32} (t0 : Nat) (hdg : decode cc pc = .ok (.aaload, 1)) (hi : i < wN g) (he : wCt w.2.2.1 w.2.2.2.1 σ g i = .inl (cA, n, .inr (.inr (.inr (.inr (fun q => some (f q))))))) (ht : (wTys w)[t0]? = some (cA, ty)) (hty : ty.isReference = true) (hj : vp_in j n) (kk : G w x nL Q (pc + 1) L (.ref (f j.toNatClampNeg) :: S) σ) : G w x nL Q pc L (.int j :: .ref (w.2.2.2.1 g i) :: S) σ := by
  obtain ⟨p, e, R, s, m, args, below, meth, c, kc, ks⟩ := x
  obtain ⟨hx, hb, -, hown, hts, hK, -⟩ := C
  intro H locs ls hI hS hl
  have h := hI g i hi
  rw [he] at h
  exact xw_aald hx hb hK.1 t0 h ht hty hj hdg (kk H locs ls hI hS hl)
theorem G.iast (C : Cf w x cc nL own fr lo) {g i n : Nat} {f : Nat → Int32} {j v : Int32} (hdg : decode cc pc = .ok (.iastore, 1)) (hi : i < wN g) (he : wCt w.2.2.1 w.2.2.2.1 σ g i = .inl (w.2.2.1 0, n, .inl f)) (hj : vp_in j n) (he2 : wCt w.2.2.1 w.2.2.2.1 (wUp σ g i j.toNatClampNeg v) g i = .inl (w.2.2.1 0, n, .inl (upd f j.toNatClampNeg v))) (kk : G w x nL Q (pc + 1) L S (wUp σ g i j.toNatClampNeg v)) : G w x nL Q pc L (.int v :: .int j :: .ref (w.2.2.2.1 g i) :: S) σ := by
  obtain ⟨p, e, R, s, m, args, below, meth, c, kc, ks⟩ := x
  obtain ⟨hx, hb, -, hown, hts, hK, -, -, -, -, -, hw⟩ := C
  intro H locs ls hI hS hl
  have h := hI g i hi
  rw [he] at h
  refine xw_iast hx hb hK.1 0 h rfl hj hdg (fun H1 h1 z oq => ?_)
  exact kk H1 _ ls (hI.up hw hi (by rw [he2]; exact h1) oq) (hS.put z oq (hw.2 g i hi)) hl
end GHEAP
end
section
/-! PART 02.d: the calls -/
def wLinkM (own : String) (index : Nat) (y : MethodName) : Option String → Prop
  | none => Cond.methodLink own index y ∈ wsU
  | some h => (own, index, y, h) ∈ wNM
theorem w_blind {w : wD} {av : List Value} {σ : wSt} : FrameBlind (va_Pc av (fun U => wInv w σ U.heap ∧ wK w U)) := fun a U g mk q => ⟨q.1, q.2.1, q.2.2.calling⟩
theorem w_pre {w : wD} {av : List Value} {σ : wSt} {s : State} {H : Heap} (hI : wInv w σ H) (hK : wK w s) : ∀ U : State, U.heap = H → s.WarmedH U.vm → va_Pc av (fun U => wInv w σ U.heap ∧ wK w U) av.toArray U := fun U hU hW => ⟨rfl, by rw [hU]; exact hI, hK.warm hW⟩
theorem w_recv {w : wD} {σ : wSt} {s : State} {H : Heap} {g i ci N : Nat} {Cn : String} {T : u_T} {fs : List Value} (hI : wInv w σ H) (hK : wK w s) (hi : i < wN g) (he : wCt w.2.2.1 w.2.2.2.1 σ g i = .inr (ci, fs)) (hc : vwCl[ci]? = some (Cn, T, N)) : ∃ cell : Cell, H[w.2.2.2.1 g i]? = some cell ∧ cell.vm.isStatics = false ∧ s.vm.findClass Cn = some cell.cls := by
  have h := hI g i hi
  rw [he] at h
  exact va_recv hK.1 (xw_one h) hc (q0 := 0) rfl
theorem w_tab {u a b : Int} {n : Nat} (h1 : ¬ u < a) (h2 : ¬ b < u) (hz : (b - a + 1).toNat ≤ n) : (u - a).toNat < n := by omega
theorem w_tab2 {u a : Int} (h1 : ¬ u < a) : u = a + ((u - a).toNat : Int) := by omega
section GCALL
variable {w : wD} {x : wX} {cc : ByteArray} {nL : Nat} {own : String} {fr lo : Nat} {Q : State → Prop} {pc : Nat} {L : List (Nat × Value)} {S st : List Value} {σ : wSt} {y : MethodName} {cc2 : ByteArray} {nL2 fr2 lo2 index n : Nat} {ret : Option FieldType} {As : List Value}
theorem G.callV (C : Cf w x cc nL own fr lo) {Post : Int32 → wSt → Prop} {g i ci N : Nat} {Cn : String} {T : u_T} {fs : List Value} (host : Option String) (hM : MI w y cc2 nL2 ret fr2 lo2 (.ref (w.2.2.2.1 g i) :: As) σ Post) (hdg : decode cc pc = .ok (.invokevirtual index, 3)) (hi : i < wN g) (he : wCt w.2.2.1 w.2.2.2.1 σ g i = .inr (ci, fs)) (hc : vwCl[ci]? = some (Cn, T, N)) (hCn : Cn = y.cls) (hv : wVirt y cc2 nL2 ret n) (hlink : wLinkM own index y host) (hst : st = As.reverse ++ .ref (w.2.2.2.1 g i) :: S) (hn : As.length = n) (hR : fr2 + 1 ≤ fr ∧ 8 + (nL2 + 11) + lo2 ≤ lo) (hcat : (S.map fun v => v.category).sum ≤ 8) (kk : ∀ (r : Int32) (τ : wSt), Post r τ → G w x nL Q (pc + 3) L (.int r :: S) τ) : G w x nL Q pc L st σ := by
  obtain ⟨p, e, R, s, m, args, below, meth, c, kc, ks⟩ := x
  obtain ⟨hx, hb, hml, hown, hts, hK, -, hfr, hlo, hkc, hks, hw⟩ := C
  obtain ⟨h1, h2, h3, h4, h5⟩ := hv
  subst hCn
  subst hst
  intro H locs ls hI hS hl
  have hRR : ({ frames := fr2, cells := 0, slots := 0, locals := lo2 } : Room).frames + 1 ≤ R.frames ∧ 8 + (nL2 + 11) + ({ frames := fr2, cells := 0, slots := 0, locals := lo2 } : Room).locals ≤ R.locals := ⟨Nat.le_trans hR.1 hfr, Nat.le_trans hR.2 hlo⟩
  have hrecv := w_recv hI hK hi he hc
  have fin : va_Run p w.1 e R s m args below meth c H locs kc ks 0 0 (F0 m pc ls (As.reverse ++ .ref (w.2.2.2.1 g i) :: S)) S (va_Qi Post (fun σ t => wInv w σ t.heap) w.2.2.2.2 (Value.ref (w.2.2.2.1 g i) :: As).toArray) w.2.2.2.2 := by
    cases host with
    | none => exact va_runV (As := As) (rest := S) ⟨hx, hb, hml, hown, hts⟩ hM ⟨callB_of n hts (wU_call h4) rfl rfl rfl (hts _ h3) (hts _ hlink) h5 hRR, hts _ h1, hts _ h2⟩ ⟨w_blind, hrecv, w_pre hI hK⟩ rfl hn hl.1 rfl (lv_room hcat) hdg ⟨hkc, hks⟩
    | some k => exact va_runVN (As := As) (rest := S) ⟨hx, hb, hml, hown, hts⟩ hM ⟨va_cnB n hts (wU_call h4) rfl rfl rfl (hK.2.2 _ hlink) (hts _ h3) h5 hRR, hts _ h1, hts _ h2⟩ ⟨w_blind, hrecv, w_pre hI hK⟩ rfl hn hl.1 rfl (lv_room hcat) hdg ⟨hkc, hks⟩
  exact va_calli fin hS (fun _ _ h => h) (fun _ h => h) (fun r τ t H1 locs1 ht _ hp hB _ _ hS1 => kk r τ hp H1 locs1 ls (by rw [← ht]; exact hB) hS1 hl)
theorem G.callVv (C : Cf w x cc nL own fr lo) {Post : wSt → Prop} {g i ci N : Nat} {Cn : String} {T : u_T} {fs : List Value} (host : Option String) (hM : MV w y cc2 nL2 ret fr2 lo2 (.ref (w.2.2.2.1 g i) :: As) σ Post) (hdg : decode cc pc = .ok (.invokevirtual index, 3)) (hi : i < wN g) (he : wCt w.2.2.1 w.2.2.2.1 σ g i = .inr (ci, fs)) (hc : vwCl[ci]? = some (Cn, T, N)) (hCn : Cn = y.cls) (hv : wVirt y cc2 nL2 ret n) (hlink : wLinkM own index y host) (hst : st = As.reverse ++ .ref (w.2.2.2.1 g i) :: S) (hn : As.length = n) (hR : fr2 + 1 ≤ fr ∧ 8 + (nL2 + 11) + lo2 ≤ lo) (hcat : (S.map fun v => v.category).sum ≤ 8) (kk : ∀ (τ : wSt), Post τ → G w x nL Q (pc + 3) L S τ) : G w x nL Q pc L st σ := by
  obtain ⟨p, e, R, s, m, args, below, meth, c, kc, ks⟩ := x
  obtain ⟨hx, hb, hml, hown, hts, hK, -, hfr, hlo, hkc, hks, hw⟩ := C
  obtain ⟨h1, h2, h3, h4, h5⟩ := hv
  subst hCn
  subst hst
  intro H locs ls hI hS hl
  have hRR : ({ frames := fr2, cells := 0, slots := 0, locals := lo2 } : Room).frames + 1 ≤ R.frames ∧ 8 + (nL2 + 11) + ({ frames := fr2, cells := 0, slots := 0, locals := lo2 } : Room).locals ≤ R.locals := ⟨Nat.le_trans hR.1 hfr, Nat.le_trans hR.2 hlo⟩
  have hrecv := w_recv hI hK hi he hc
  have fin : va_Run p w.1 e R s m args below meth c H locs kc ks 0 0 (F0 m pc ls (As.reverse ++ .ref (w.2.2.2.1 g i) :: S)) S (va_Qv Post (fun σ t => wInv w σ t.heap) w.2.2.2.2 (Value.ref (w.2.2.2.1 g i) :: As).toArray) w.2.2.2.2 := by
    cases host with
    | none => exact va_runV (As := As) (rest := S) ⟨hx, hb, hml, hown, hts⟩ hM ⟨callB_of n hts (wU_call h4) rfl rfl rfl (hts _ h3) (hts _ hlink) h5 hRR, hts _ h1, hts _ h2⟩ ⟨w_blind, hrecv, w_pre hI hK⟩ rfl hn hl.1 rfl (lv_room hcat) hdg ⟨hkc, hks⟩
    | some k => exact va_runVN (As := As) (rest := S) ⟨hx, hb, hml, hown, hts⟩ hM ⟨va_cnB n hts (wU_call h4) rfl rfl rfl (hK.2.2 _ hlink) (hts _ h3) h5 hRR, hts _ h1, hts _ h2⟩ ⟨w_blind, hrecv, w_pre hI hK⟩ rfl hn hl.1 rfl (lv_room hcat) hdg ⟨hkc, hks⟩
  exact va_callv fin hS (fun _ _ h => h) (fun _ h => h) (fun τ t H1 locs1 ht _ hp hB _ _ hS1 => kk τ hp H1 locs1 ls (by rw [← ht]; exact hB) hS1 hl)
theorem G.callVl (C : Cf w x cc nL own fr lo) {Post : Int64 → wSt → Prop} {g i ci N : Nat} {Cn : String} {T : u_T} {fs : List Value} (host : Option String) (hM : ML w y cc2 nL2 ret fr2 lo2 (.ref (w.2.2.2.1 g i) :: As) σ Post) (hdg : decode cc pc = .ok (.invokevirtual index, 3)) (hi : i < wN g) (he : wCt w.2.2.1 w.2.2.2.1 σ g i = .inr (ci, fs)) (hc : vwCl[ci]? = some (Cn, T, N)) (hCn : Cn = y.cls) (hv : wVirt y cc2 nL2 ret n) (hlink : wLinkM own index y host) (hst : st = As.reverse ++ .ref (w.2.2.2.1 g i) :: S) (hn : As.length = n) (hR : fr2 + 1 ≤ fr ∧ 8 + (nL2 + 11) + lo2 ≤ lo) (hcat : (S.map fun v => v.category).sum ≤ 8) (kk : ∀ (r : Int64) (τ : wSt), Post r τ → G w x nL Q (pc + 3) L (.long r :: S) τ) : G w x nL Q pc L st σ := by
  obtain ⟨p, e, R, s, m, args, below, meth, c, kc, ks⟩ := x
  obtain ⟨hx, hb, hml, hown, hts, hK, -, hfr, hlo, hkc, hks, hw⟩ := C
  obtain ⟨h1, h2, h3, h4, h5⟩ := hv
  subst hCn
  subst hst
  intro H locs ls hI hS hl
  have hRR : ({ frames := fr2, cells := 0, slots := 0, locals := lo2 } : Room).frames + 1 ≤ R.frames ∧ 8 + (nL2 + 11) + ({ frames := fr2, cells := 0, slots := 0, locals := lo2 } : Room).locals ≤ R.locals := ⟨Nat.le_trans hR.1 hfr, Nat.le_trans hR.2 hlo⟩
  have hrecv := w_recv hI hK hi he hc
  have fin : va_Run p w.1 e R s m args below meth c H locs kc ks 0 0 (F0 m pc ls (As.reverse ++ .ref (w.2.2.2.1 g i) :: S)) S (va_Ql Post (fun σ t => wInv w σ t.heap) w.2.2.2.2 (Value.ref (w.2.2.2.1 g i) :: As).toArray) w.2.2.2.2 := by
    cases host with
    | none => exact va_runV (As := As) (rest := S) ⟨hx, hb, hml, hown, hts⟩ hM ⟨callB_of n hts (wU_call h4) rfl rfl rfl (hts _ h3) (hts _ hlink) h5 hRR, hts _ h1, hts _ h2⟩ ⟨w_blind, hrecv, w_pre hI hK⟩ rfl hn hl.1 rfl (lv_room hcat) hdg ⟨hkc, hks⟩
    | some k => exact va_runVN (As := As) (rest := S) ⟨hx, hb, hml, hown, hts⟩ hM ⟨va_cnB n hts (wU_call h4) rfl rfl rfl (hK.2.2 _ hlink) (hts _ h3) h5 hRR, hts _ h1, hts _ h2⟩ ⟨w_blind, hrecv, w_pre hI hK⟩ rfl hn hl.1 rfl (lv_room hcat) hdg ⟨hkc, hks⟩
  exact va_calll fin hS (fun _ _ h => h) (fun _ h => h) (fun r τ t H1 locs1 ht _ hp hB _ _ hS1 => kk r τ hp H1 locs1 ls (by rw [← ht]; exact hB) hS1 hl)
theorem G.callS (C : Cf w x cc nL own fr lo) {Post : Int32 → wSt → Prop} (host : Option String) (hM : MI w y cc2 nL2 ret fr2 lo2 As σ Post) (hdg : decode cc pc = .ok (.invokestatic index, 3)) (hv : wStat y cc2 nL2 ret n) (hlink : wLinkM own index y host) (hst : st = As.reverse ++ S) (hn : As.length = n) (hR : fr2 + 1 ≤ fr ∧ 8 + (nL2 + 11) + lo2 ≤ lo) (hcat : (S.map fun v => v.category).sum ≤ 8) (kk : ∀ (r : Int32) (τ : wSt), Post r τ → G w x nL Q (pc + 3) L (.int r :: S) τ) : G w x nL Q pc L st σ := by
  obtain ⟨p, e, R, s, m, args, below, meth, c, kc, ks⟩ := x
  obtain ⟨hx, hb, hml, hown, hts, hK, -, hfr, hlo, hkc, hks, hw⟩ := C
  obtain ⟨h1, h3, h4, h5⟩ := hv
  subst hst
  intro H locs ls hI hS hl
  have hRR : ({ frames := fr2, cells := 0, slots := 0, locals := lo2 } : Room).frames + 1 ≤ R.frames ∧ 8 + (nL2 + 11) + ({ frames := fr2, cells := 0, slots := 0, locals := lo2 } : Room).locals ≤ R.locals := ⟨Nat.le_trans hR.1 hfr, Nat.le_trans hR.2 hlo⟩
  have fin : va_Run p w.1 e R s m args below meth c H locs kc ks 0 0 (F0 m pc ls (As.reverse ++ S)) S (va_Qi Post (fun σ t => wInv w σ t.heap) w.2.2.2.2 As.toArray) w.2.2.2.2 := by
    cases host with
    | none => exact va_runS (As := As) (rest := S) ⟨hx, hb, hml, hown, hts⟩ hM ⟨callB_of n hts (wU_call h4) rfl rfl rfl (hts _ h3) (hts _ hlink) h5 hRR, hts _ h1⟩ ⟨w_blind, w_pre hI hK⟩ rfl hn hl.1 rfl (lv_room hcat) hdg ⟨hkc, hks⟩
    | some k => exact va_runSN (As := As) (rest := S) ⟨hx, hb, hml, hown, hts⟩ hM ⟨va_cnB n hts (wU_call h4) rfl rfl rfl (hK.2.2 _ hlink) (hts _ h3) h5 hRR, hts _ h1, trivial⟩ ⟨w_blind, w_pre hI hK⟩ rfl hn hl.1 rfl (lv_room hcat) hdg ⟨hkc, hks⟩
  exact va_calli fin hS (fun _ _ h => h) (fun _ h => h) (fun r τ t H1 locs1 ht _ hp hB _ _ hS1 => kk r τ hp H1 locs1 ls (by rw [← ht]; exact hB) hS1 hl)
theorem G.mmax (C : Cf w x cc nL own fr lo) {u v : Int32} (hdg : decode cc pc = .ok (.invokestatic index, 3)) (hlink : Cond.methodLink own index Lib.Math.max.name ∈ wsU) (hR : 1 ≤ fr ∧ 21 ≤ lo) (hcat : (S.map fun v => v.category).sum ≤ 8) (kk : G w x nL Q (pc + 3) L (.int (if u < v then v else u) :: S) σ) : G w x nL Q pc L (.int v :: .int u :: S) σ := by
  obtain ⟨p, e, R, s, m, args, below, meth, c, kc, ks⟩ := x
  obtain ⟨hx, hb, hml, hown, hts, hK, -, hfr, hlo, hkc, hks, hw⟩ := C
  intro H locs ls hI hS hl
  exact va_mmax hx hb (hml.trans hl.1.symm) hown (hts _ hlink) (hts _ us_max) (hts _ ui_Math) (hts _ uc_max) (Nat.le_trans hR.1 hfr) (by have := hR.2; omega) hkc hks hdg (kk H locs ls hI hS hl)
theorem G.mmin (C : Cf w x cc nL own fr lo) {u v : Int32} (hdg : decode cc pc = .ok (.invokestatic index, 3)) (hlink : Cond.methodLink own index Lib.Math.min.name ∈ wsU) (hR : 1 ≤ fr ∧ 21 ≤ lo) (hcat : (S.map fun v => v.category).sum ≤ 8) (kk : G w x nL Q (pc + 3) L (.int (if v < u then v else u) :: S) σ) : G w x nL Q pc L (.int v :: .int u :: S) σ := by
  obtain ⟨p, e, R, s, m, args, below, meth, c, kc, ks⟩ := x
  obtain ⟨hx, hb, hml, hown, hts, hK, -, hfr, hlo, hkc, hks, hw⟩ := C
  intro H locs ls hI hS hl
  exact va_mmin hx hb (hml.trans hl.1.symm) hown (hts _ hlink) (hts _ us_min) (hts _ ui_Math) (hts _ uc_min) (Nat.le_trans hR.1 hfr) (by have := hR.2; omega) hkc hks hdg (kk H locs ls hI hS hl)
theorem G.mabs (C : Cf w x cc nL own fr lo) {u : Int32} (hdg : decode cc pc = .ok (.invokestatic index, 3)) (hlink : Cond.methodLink own index Lib.Math.abs.name ∈ wsU) (hR : 1 ≤ fr ∧ 21 ≤ lo) (hcat : (S.map fun v => v.category).sum ≤ 8) (kk : G w x nL Q (pc + 3) L (.int (if 0 ≤ u then u else 0 - u) :: S) σ) : G w x nL Q pc L (.int u :: S) σ := by
  obtain ⟨p, e, R, s, m, args, below, meth, c, kc, ks⟩ := x
  obtain ⟨hx, hb, hml, hown, hts, hK, -, hfr, hlo, hkc, hks, hw⟩ := C
  intro H locs ls hI hS hl
  exact va_mabs hx hb (hml.trans hl.1.symm) hown (hts _ hlink) (hts _ us_abs) (hts _ ui_Math) (hts _ uc_abs) (Nat.le_trans hR.1 hfr) (by have := hR.2; omega) hkc hks hdg (kk H locs ls hI hS hl)
/-- a switch: inside its table, and outside -/
theorem G.tableIn (C : Cf w x cc nL own fr lo) {dflt a b : Int} {offs : Array Int} {len : Nat} {u : Int32} {off : Int} {tgt : Nat} (hdg : decode cc pc = .ok (.tableswitch dflt a b offs, len)) (h1 : ¬ u.toInt < a) (h2 : ¬ b < u.toInt) (ho : offs[(u.toInt - a).toNat]? = some off) (ht : (pc : Int) + off = (tgt : Int)) (kk : G w x nL Q tgt L S σ) : G w x nL Q pc L (.int u :: S) σ := by
  obtain ⟨p, e, R, s, m, args, below, meth, c, kc, ks⟩ := x
  obtain ⟨hx, hb, -⟩ := C
  intro H locs ls hI hS hl
  exact lv_tableIn hx hb hdg h1 h2 ho ht (kk H locs ls hI hS hl)
theorem G.tableOut (C : Cf w x cc nL own fr lo) {dflt a b : Int} {offs : Array Int} {len : Nat} {u : Int32} {tgt : Nat} (hdg : decode cc pc = .ok (.tableswitch dflt a b offs, len)) (h : u.toInt < a ∨ b < u.toInt) (ht : (pc : Int) + dflt = (tgt : Int)) (kk : G w x nL Q tgt L S σ) : G w x nL Q pc L (.int u :: S) σ := by
  obtain ⟨p, e, R, s, m, args, below, meth, c, kc, ks⟩ := x
  obtain ⟨hx, hb, -⟩ := C
  intro H locs ls hI hS hl
  exact lv_tableOut hx hb hdg h ht (kk H locs ls hI hS hl)
/-- a switch's cases, one by one: the number is one of them, or none -/
theorem G.table (C : Cf w x cc nL own fr lo) {dflt a b : Int} {offs : Array Int} {len : Nat} {u : Int32} (hdg : decode cc pc = .ok (.tableswitch dflt a b offs, len)) (kin : ∀ (j : Nat) (off : Int), u.toInt = a + (j : Int) → u.toInt ≤ b → offs[j]? = some off → ∃ tgt : Nat, (pc : Int) + off = (tgt : Int) ∧ G w x nL Q tgt L S σ) (hz : (b - a + 1).toNat ≤ offs.size) (kout : u.toInt < a ∨ b < u.toInt → ∃ tgt : Nat, (pc : Int) + dflt = (tgt : Int) ∧ G w x nL Q tgt L S σ) : G w x nL Q pc L (.int u :: S) σ := by
  by_cases h1 : u.toInt < a
  · obtain ⟨tgt, ht, kk⟩ := kout (Or.inl h1)
    exact G.tableOut C hdg (Or.inl h1) ht kk
  · by_cases h2 : b < u.toInt
    · obtain ⟨tgt, ht, kk⟩ := kout (Or.inr h2)
      exact G.tableOut C hdg (Or.inr h2) ht kk
    · have hlt : (u.toInt - a).toNat < offs.size := w_tab h1 h2 hz
      obtain ⟨tgt, ht, kk⟩ := kin (u.toInt - a).toNat offs[(u.toInt - a).toNat] (w_tab2 h1) (Int.not_lt.mp h2) (Array.getElem?_eq_getElem hlt)
      exact G.tableIn C hdg h1 h2 (Array.getElem?_eq_getElem hlt) ht kk
end GCALL
end
