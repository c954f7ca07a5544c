section
-- ===== PART A: goes FIRST, ahead of the names: the tables' words, and 'selects' of the private methods out of them =====
/-- a private method of a class that the tables say can be made, by its rows of tables_1 -/
def lw_okq (q : MethodName × Nat) : Prop := (q.1.cls ≠ "java/lang/invoke/MethodHandle" ∧ q.1.cls ≠ "java/lang/invoke/VarHandle") ∧ Cond.instantiable q.1.cls q.2 ∈ tables_1 ∧ Cond.privateMethod q.1 ∈ tables_1 ∧ Cond.instanceMethod q.1 ∈ tables_1
theorem lw_p0 : lw_okq (⟨"PlateRoom$Plate", "addState", "(III)I"⟩, 8) := ⟨⟨by decide +kernel, by decide +kernel⟩, List.mem_of_getElem? (i := 19) (by decide +kernel), List.mem_of_getElem? (i := 194) (by decide +kernel), List.mem_of_getElem? (i := 195) (by decide +kernel)⟩
theorem lw_p1 : lw_okq (⟨"PlateRoom$Years", "put", "(II)V"⟩, 2) := ⟨⟨by decide +kernel, by decide +kernel⟩, List.mem_of_getElem? (i := 28) (by decide +kernel), List.mem_of_getElem? (i := 198) (by decide +kernel), List.mem_of_getElem? (i := 199) (by decide +kernel)⟩
theorem lw_p2 : lw_okq (⟨"PlateRoom$Plate", "hasState", "(I)Z"⟩, 8) := ⟨⟨by decide +kernel, by decide +kernel⟩, List.mem_of_getElem? (i := 19) (by decide +kernel), List.mem_of_getElem? (i := 206) (by decide +kernel), List.mem_of_getElem? (i := 207) (by decide +kernel)⟩
theorem lw_p3 : lw_okq (⟨"PlateRoom", "chargeOf", "(I)I"⟩, 8) := ⟨⟨by decide +kernel, by decide +kernel⟩, List.mem_of_getElem? (i := 11) (by decide +kernel), List.mem_of_getElem? (i := 217) (by decide +kernel), List.mem_of_getElem? (i := 218) (by decide +kernel)⟩
theorem lw_p4 : lw_okq (⟨"PlateRoom", "putCharge", "(II)V"⟩, 8) := ⟨⟨by decide +kernel, by decide +kernel⟩, List.mem_of_getElem? (i := 11) (by decide +kernel), List.mem_of_getElem? (i := 221) (by decide +kernel), List.mem_of_getElem? (i := 222) (by decide +kernel)⟩
theorem lw_p5 : lw_okq (⟨"PlateRoom$Plate", "quarrelOf", "(I)I"⟩, 8) := ⟨⟨by decide +kernel, by decide +kernel⟩, List.mem_of_getElem? (i := 19) (by decide +kernel), List.mem_of_getElem? (i := 229) (by decide +kernel), List.mem_of_getElem? (i := 230) (by decide +kernel)⟩
theorem lw_p6 : lw_okq (⟨"PlateRoom$Plate", "readOrder", "(I)Z"⟩, 8) := ⟨⟨by decide +kernel, by decide +kernel⟩, List.mem_of_getElem? (i := 19) (by decide +kernel), List.mem_of_getElem? (i := 233) (by decide +kernel), List.mem_of_getElem? (i := 234) (by decide +kernel)⟩
theorem lw_p7 : lw_okq (⟨"PlateRoom$Plate", "stepQuarrel", "(III)I"⟩, 8) := ⟨⟨by decide +kernel, by decide +kernel⟩, List.mem_of_getElem? (i := 19) (by decide +kernel), List.mem_of_getElem? (i := 241) (by decide +kernel), List.mem_of_getElem? (i := 242) (by decide +kernel)⟩
theorem lw_p8 : lw_okq (⟨"PlateRoom$Plate", "bestOrder", "()I"⟩, 8) := ⟨⟨by decide +kernel, by decide +kernel⟩, List.mem_of_getElem? (i := 19) (by decide +kernel), List.mem_of_getElem? (i := 258) (by decide +kernel), List.mem_of_getElem? (i := 259) (by decide +kernel)⟩
theorem lw_p9 : lw_okq (⟨"PlateRoom$Plate", "weighWhatIsToCome", "()V"⟩, 8) := ⟨⟨by decide +kernel, by decide +kernel⟩, List.mem_of_getElem? (i := 19) (by decide +kernel), List.mem_of_getElem? (i := 262) (by decide +kernel), List.mem_of_getElem? (i := 263) (by decide +kernel)⟩
theorem lw_p10 : lw_okq (⟨"PlateRoom$Plate", "bestNext", "(II)I"⟩, 8) := ⟨⟨by decide +kernel, by decide +kernel⟩, List.mem_of_getElem? (i := 19) (by decide +kernel), List.mem_of_getElem? (i := 266) (by decide +kernel), List.mem_of_getElem? (i := 267) (by decide +kernel)⟩
theorem lw_p11 : lw_okq (⟨"PlateRoom$Plate", "quarrelBy", "(III)I"⟩, 8) := ⟨⟨by decide +kernel, by decide +kernel⟩, List.mem_of_getElem? (i := 19) (by decide +kernel), List.mem_of_getElem? (i := 270) (by decide +kernel), List.mem_of_getElem? (i := 271) (by decide +kernel)⟩
theorem lw_p12 : lw_okq (⟨"PlateRoom$Plate", "linesOf", "(I)I"⟩, 8) := ⟨⟨by decide +kernel, by decide +kernel⟩, List.mem_of_getElem? (i := 19) (by decide +kernel), List.mem_of_getElem? (i := 274) (by decide +kernel), List.mem_of_getElem? (i := 275) (by decide +kernel)⟩
theorem lw_p13 : lw_okq (⟨"PlateRoom$Leaf", "strike", "(IIII)V"⟩, 7) := ⟨⟨by decide +kernel, by decide +kernel⟩, List.mem_of_getElem? (i := 105) (by decide +kernel), List.mem_of_getElem? (i := 282) (by decide +kernel), List.mem_of_getElem? (i := 283) (by decide +kernel)⟩
theorem lw_p14 : lw_okq (⟨"PlateRoom", "isLeaf", "(I)Z"⟩, 8) := ⟨⟨by decide +kernel, by decide +kernel⟩, List.mem_of_getElem? (i := 11) (by decide +kernel), List.mem_of_getElem? (i := 290) (by decide +kernel), List.mem_of_getElem? (i := 291) (by decide +kernel)⟩
theorem lw_p15 : lw_okq (⟨"PlateRoom$Leaf", "lookOf", "(I)I"⟩, 7) := ⟨⟨by decide +kernel, by decide +kernel⟩, List.mem_of_getElem? (i := 105) (by decide +kernel), List.mem_of_getElem? (i := 297) (by decide +kernel), List.mem_of_getElem? (i := 298) (by decide +kernel)⟩
def lw_privs_1 : List (MethodName × Nat) := [(⟨"PlateRoom$Plate", "addState", "(III)I"⟩, 8), (⟨"PlateRoom$Years", "put", "(II)V"⟩, 2), (⟨"PlateRoom$Plate", "hasState", "(I)Z"⟩, 8), (⟨"PlateRoom", "chargeOf", "(I)I"⟩, 8), (⟨"PlateRoom", "putCharge", "(II)V"⟩, 8), (⟨"PlateRoom$Plate", "quarrelOf", "(I)I"⟩, 8), (⟨"PlateRoom$Plate", "readOrder", "(I)Z"⟩, 8), (⟨"PlateRoom$Plate", "stepQuarrel", "(III)I"⟩, 8), (⟨"PlateRoom$Plate", "bestOrder", "()I"⟩, 8), (⟨"PlateRoom$Plate", "weighWhatIsToCome", "()V"⟩, 8), (⟨"PlateRoom$Plate", "bestNext", "(II)I"⟩, 8), (⟨"PlateRoom$Plate", "quarrelBy", "(III)I"⟩, 8), (⟨"PlateRoom$Plate", "linesOf", "(I)I"⟩, 8), (⟨"PlateRoom$Leaf", "strike", "(IIII)V"⟩, 7), (⟨"PlateRoom", "isLeaf", "(I)Z"⟩, 8), (⟨"PlateRoom$Leaf", "lookOf", "(I)I"⟩, 7)]
theorem lw_r1 : ∀ q ∈ lw_privs_1, lw_okq q := List.forall_mem_cons.mpr ⟨lw_p0, List.forall_mem_cons.mpr ⟨lw_p1, List.forall_mem_cons.mpr ⟨lw_p2, List.forall_mem_cons.mpr ⟨lw_p3, List.forall_mem_cons.mpr ⟨lw_p4, List.forall_mem_cons.mpr ⟨lw_p5, List.forall_mem_cons.mpr ⟨lw_p6, List.forall_mem_cons.mpr ⟨lw_p7, List.forall_mem_cons.mpr ⟨lw_p8, List.forall_mem_cons.mpr ⟨lw_p9, List.forall_mem_cons.mpr ⟨lw_p10, List.forall_mem_cons.mpr ⟨lw_p11, List.forall_mem_cons.mpr ⟨lw_p12, List.forall_mem_cons.mpr ⟨lw_p13, List.forall_mem_cons.mpr ⟨lw_p14, List.forall_mem_cons.mpr ⟨lw_p15, fun _ h => absurd h List.not_mem_nil⟩⟩⟩⟩⟩⟩⟩⟩⟩⟩⟩⟩⟩⟩⟩⟩
theorem lw_p16 : lw_okq (⟨"PlateRoom$Leaf", "look", "(II)V"⟩, 7) := ⟨⟨by decide +kernel, by decide +kernel⟩, List.mem_of_getElem? (i := 105) (by decide +kernel), List.mem_of_getElem? (i := 302) (by decide +kernel), List.mem_of_getElem? (i := 303) (by decide +kernel)⟩
theorem lw_p17 : lw_okq (⟨"PlateRoom", "candidatesOf", "(LPlateRoom$Leaf;)I"⟩, 8) := ⟨⟨by decide +kernel, by decide +kernel⟩, List.mem_of_getElem? (i := 11) (by decide +kernel), List.mem_of_getElem? (i := 310) (by decide +kernel), List.mem_of_getElem? (i := 311) (by decide +kernel)⟩
theorem lw_p18 : lw_okq (⟨"PlateRoom$Plate", "statesWith", "(II)I"⟩, 8) := ⟨⟨by decide +kernel, by decide +kernel⟩, List.mem_of_getElem? (i := 19) (by decide +kernel), List.mem_of_getElem? (i := 314) (by decide +kernel), List.mem_of_getElem? (i := 315) (by decide +kernel)⟩
theorem lw_p19 : lw_okq (⟨"PlateRoom", "isMould", "(I)Z"⟩, 8) := ⟨⟨by decide +kernel, by decide +kernel⟩, List.mem_of_getElem? (i := 11) (by decide +kernel), List.mem_of_getElem? (i := 327) (by decide +kernel), List.mem_of_getElem? (i := 328) (by decide +kernel)⟩
theorem lw_p20 : lw_okq (⟨"PlateRoom", "earliestByPaper", "(LPlateRoom$Leaf;)I"⟩, 8) := ⟨⟨by decide +kernel, by decide +kernel⟩, List.mem_of_getElem? (i := 11) (by decide +kernel), List.mem_of_getElem? (i := 339) (by decide +kernel), List.mem_of_getElem? (i := 340) (by decide +kernel)⟩
theorem lw_p21 : lw_okq (⟨"PlateRoom", "latestByPaper", "(LPlateRoom$Leaf;)I"⟩, 8) := ⟨⟨by decide +kernel, by decide +kernel⟩, List.mem_of_getElem? (i := 11) (by decide +kernel), List.mem_of_getElem? (i := 346) (by decide +kernel), List.mem_of_getElem? (i := 347) (by decide +kernel)⟩
theorem lw_p22 : lw_okq (⟨"PlateRoom", "plainPrice", "(LPlateRoom$Leaf;)I"⟩, 8) := ⟨⟨by decide +kernel, by decide +kernel⟩, List.mem_of_getElem? (i := 11) (by decide +kernel), List.mem_of_getElem? (i := 358) (by decide +kernel), List.mem_of_getElem? (i := 359) (by decide +kernel)⟩
theorem lw_p23 : lw_okq (⟨"PlateRoom", "colouredPrice", "(LPlateRoom$Leaf;)I"⟩, 8) := ⟨⟨by decide +kernel, by decide +kernel⟩, List.mem_of_getElem? (i := 11) (by decide +kernel), List.mem_of_getElem? (i := 363) (by decide +kernel), List.mem_of_getElem? (i := 364) (by decide +kernel)⟩
theorem lw_p24 : lw_okq (⟨"PlateRoom", "wormPrice", "(LPlateRoom$Leaf;)I"⟩, 8) := ⟨⟨by decide +kernel, by decide +kernel⟩, List.mem_of_getElem? (i := 11) (by decide +kernel), List.mem_of_getElem? (i := 368) (by decide +kernel), List.mem_of_getElem? (i := 369) (by decide +kernel)⟩
theorem lw_p25 : lw_okq (⟨"PlateRoom$Copies", "addMap", "(II)I"⟩, 5) := ⟨⟨by decide +kernel, by decide +kernel⟩, List.mem_of_getElem? (i := 75) (by decide +kernel), List.mem_of_getElem? (i := 377) (by decide +kernel), List.mem_of_getElem? (i := 378) (by decide +kernel)⟩
theorem lw_p26 : lw_okq (⟨"PlateRoom$Copies", "mayComeFrom", "(II)Z"⟩, 5) := ⟨⟨by decide +kernel, by decide +kernel⟩, List.mem_of_getElem? (i := 75) (by decide +kernel), List.mem_of_getElem? (i := 385) (by decide +kernel), List.mem_of_getElem? (i := 386) (by decide +kernel)⟩
theorem lw_p27 : lw_okq (⟨"PlateRoom$Copies", "hasMap", "(I)Z"⟩, 5) := ⟨⟨by decide +kernel, by decide +kernel⟩, List.mem_of_getElem? (i := 75) (by decide +kernel), List.mem_of_getElem? (i := 389) (by decide +kernel), List.mem_of_getElem? (i := 390) (by decide +kernel)⟩
theorem lw_p28 : lw_okq (⟨"PlateRoom$Copies", "costOf", "(II)I"⟩, 5) := ⟨⟨by decide +kernel, by decide +kernel⟩, List.mem_of_getElem? (i := 75) (by decide +kernel), List.mem_of_getElem? (i := 393) (by decide +kernel), List.mem_of_getElem? (i := 394) (by decide +kernel)⟩
theorem lw_p29 : lw_okq (⟨"PlateRoom$Copies", "cheapest", "(I)I"⟩, 5) := ⟨⟨by decide +kernel, by decide +kernel⟩, List.mem_of_getElem? (i := 75) (by decide +kernel), List.mem_of_getElem? (i := 403) (by decide +kernel), List.mem_of_getElem? (i := 404) (by decide +kernel)⟩
theorem lw_p30 : lw_okq (⟨"PlateRoom$Copies", "rivalCount", "(I)I"⟩, 5) := ⟨⟨by decide +kernel, by decide +kernel⟩, List.mem_of_getElem? (i := 75) (by decide +kernel), List.mem_of_getElem? (i := 413) (by decide +kernel), List.mem_of_getElem? (i := 414) (by decide +kernel)⟩
theorem lw_p31 : lw_okq (⟨"PlateRoom$Copies", "lifeOf", "(II)I"⟩, 5) := ⟨⟨by decide +kernel, by decide +kernel⟩, List.mem_of_getElem? (i := 75) (by decide +kernel), List.mem_of_getElem? (i := 422) (by decide +kernel), List.mem_of_getElem? (i := 423) (by decide +kernel)⟩
def lw_privs_2 : List (MethodName × Nat) := [(⟨"PlateRoom$Leaf", "look", "(II)V"⟩, 7), (⟨"PlateRoom", "candidatesOf", "(LPlateRoom$Leaf;)I"⟩, 8), (⟨"PlateRoom$Plate", "statesWith", "(II)I"⟩, 8), (⟨"PlateRoom", "isMould", "(I)Z"⟩, 8), (⟨"PlateRoom", "earliestByPaper", "(LPlateRoom$Leaf;)I"⟩, 8), (⟨"PlateRoom", "latestByPaper", "(LPlateRoom$Leaf;)I"⟩, 8), (⟨"PlateRoom", "plainPrice", "(LPlateRoom$Leaf;)I"⟩, 8), (⟨"PlateRoom", "colouredPrice", "(LPlateRoom$Leaf;)I"⟩, 8), (⟨"PlateRoom", "wormPrice", "(LPlateRoom$Leaf;)I"⟩, 8), (⟨"PlateRoom$Copies", "addMap", "(II)I"⟩, 5), (⟨"PlateRoom$Copies", "mayComeFrom", "(II)Z"⟩, 5), (⟨"PlateRoom$Copies", "hasMap", "(I)Z"⟩, 5), (⟨"PlateRoom$Copies", "costOf", "(II)I"⟩, 5), (⟨"PlateRoom$Copies", "cheapest", "(I)I"⟩, 5), (⟨"PlateRoom$Copies", "rivalCount", "(I)I"⟩, 5), (⟨"PlateRoom$Copies", "lifeOf", "(II)I"⟩, 5)]
theorem lw_r2 : ∀ q ∈ lw_privs_2, lw_okq q := List.forall_mem_cons.mpr ⟨lw_p16, List.forall_mem_cons.mpr ⟨lw_p17, List.forall_mem_cons.mpr ⟨lw_p18, List.forall_mem_cons.mpr ⟨lw_p19, List.forall_mem_cons.mpr ⟨lw_p20, List.forall_mem_cons.mpr ⟨lw_p21, List.forall_mem_cons.mpr ⟨lw_p22, List.forall_mem_cons.mpr ⟨lw_p23, List.forall_mem_cons.mpr ⟨lw_p24, List.forall_mem_cons.mpr ⟨lw_p25, List.forall_mem_cons.mpr ⟨lw_p26, List.forall_mem_cons.mpr ⟨lw_p27, List.forall_mem_cons.mpr ⟨lw_p28, List.forall_mem_cons.mpr ⟨lw_p29, List.forall_mem_cons.mpr ⟨lw_p30, List.forall_mem_cons.mpr ⟨lw_p31, fun _ h => absurd h List.not_mem_nil⟩⟩⟩⟩⟩⟩⟩⟩⟩⟩⟩⟩⟩⟩⟩⟩
theorem lw_p32 : lw_okq (⟨"PlateRoom$Copies", "hasItFrom", "(III)Z"⟩, 5) := ⟨⟨by decide +kernel, by decide +kernel⟩, List.mem_of_getElem? (i := 75) (by decide +kernel), List.mem_of_getElem? (i := 426) (by decide +kernel), List.mem_of_getElem? (i := 427) (by decide +kernel)⟩
theorem lw_p33 : lw_okq (⟨"PlateRoom$Holes", "bore", "(I)I"⟩, 2) := ⟨⟨by decide +kernel, by decide +kernel⟩, List.mem_of_getElem? (i := 111) (by decide +kernel), List.mem_of_getElem? (i := 438) (by decide +kernel), List.mem_of_getElem? (i := 439) (by decide +kernel)⟩
theorem lw_p34 : lw_okq (⟨"PlateRoom$Holes", "isWithin", "(II)Z"⟩, 2) := ⟨⟨by decide +kernel, by decide +kernel⟩, List.mem_of_getElem? (i := 111) (by decide +kernel), List.mem_of_getElem? (i := 442) (by decide +kernel), List.mem_of_getElem? (i := 443) (by decide +kernel)⟩
theorem lw_p35 : lw_okq (⟨"PlateRoom$Holes", "fitting", "(LPlateRoom$Holes;I)I"⟩, 2) := ⟨⟨by decide +kernel, by decide +kernel⟩, List.mem_of_getElem? (i := 111) (by decide +kernel), List.mem_of_getElem? (i := 459) (by decide +kernel), List.mem_of_getElem? (i := 460) (by decide +kernel)⟩
theorem lw_p36 : lw_okq (⟨"PlateRoom$Holes", "bestShift", "(LPlateRoom$Holes;)I"⟩, 2) := ⟨⟨by decide +kernel, by decide +kernel⟩, List.mem_of_getElem? (i := 111) (by decide +kernel), List.mem_of_getElem? (i := 467) (by decide +kernel), List.mem_of_getElem? (i := 468) (by decide +kernel)⟩
theorem lw_p37 : lw_okq (⟨"PlateRoom", "homeOf", "(I)I"⟩, 8) := ⟨⟨by decide +kernel, by decide +kernel⟩, List.mem_of_getElem? (i := 11) (by decide +kernel), List.mem_of_getElem? (i := 476) (by decide +kernel), List.mem_of_getElem? (i := 477) (by decide +kernel)⟩
theorem lw_p38 : lw_okq (⟨"PlateRoom$Holes", "mostFitting", "(LPlateRoom$Holes;)I"⟩, 2) := ⟨⟨by decide +kernel, by decide +kernel⟩, List.mem_of_getElem? (i := 111) (by decide +kernel), List.mem_of_getElem? (i := 480) (by decide +kernel), List.mem_of_getElem? (i := 481) (by decide +kernel)⟩
theorem lw_p39 : lw_okq (⟨"PlateRoom", "othersByChance", "(II)I"⟩, 8) := ⟨⟨by decide +kernel, by decide +kernel⟩, List.mem_of_getElem? (i := 11) (by decide +kernel), List.mem_of_getElem? (i := 485) (by decide +kernel), List.mem_of_getElem? (i := 486) (by decide +kernel)⟩
theorem lw_p40 : lw_okq (⟨"PlateRoom", "leavesWithCandidates", "(I)I"⟩, 8) := ⟨⟨by decide +kernel, by decide +kernel⟩, List.mem_of_getElem? (i := 11) (by decide +kernel), List.mem_of_getElem? (i := 493) (by decide +kernel), List.mem_of_getElem? (i := 494) (by decide +kernel)⟩
theorem lw_p41 : lw_okq (⟨"PlateRoomModel", "isOrder", "(I)Z"⟩, 23) := ⟨⟨by decide +kernel, by decide +kernel⟩, List.mem_of_getElem? (i := 501) (by decide +kernel), List.mem_of_getElem? (i := 599) (by decide +kernel), List.mem_of_getElem? (i := 600) (by decide +kernel)⟩
theorem lw_p42 : lw_okq (⟨"PlateRoomModel", "quarrelOf", "()I"⟩, 23) := ⟨⟨by decide +kernel, by decide +kernel⟩, List.mem_of_getElem? (i := 501) (by decide +kernel), List.mem_of_getElem? (i := 603) (by decide +kernel), List.mem_of_getElem? (i := 604) (by decide +kernel)⟩
theorem lw_p43 : lw_okq (⟨"PlateRoomModel", "isLeaf", "(I)Z"⟩, 23) := ⟨⟨by decide +kernel, by decide +kernel⟩, List.mem_of_getElem? (i := 501) (by decide +kernel), List.mem_of_getElem? (i := 622) (by decide +kernel), List.mem_of_getElem? (i := 623) (by decide +kernel)⟩
theorem lw_p44 : lw_okq (⟨"PlateRoomModel", "candidatesOf", "(I)I"⟩, 23) := ⟨⟨by decide +kernel, by decide +kernel⟩, List.mem_of_getElem? (i := 501) (by decide +kernel), List.mem_of_getElem? (i := 630) (by decide +kernel), List.mem_of_getElem? (i := 631) (by decide +kernel)⟩
theorem lw_p45 : lw_okq (⟨"PlateRoomModel", "isMap", "(I)Z"⟩, 23) := ⟨⟨by decide +kernel, by decide +kernel⟩, List.mem_of_getElem? (i := 501) (by decide +kernel), List.mem_of_getElem? (i := 664) (by decide +kernel), List.mem_of_getElem? (i := 665) (by decide +kernel)⟩
theorem lw_p46 : lw_okq (⟨"PlateRoomModel", "isFrom", "(II)Z"⟩, 23) := ⟨⟨by decide +kernel, by decide +kernel⟩, List.mem_of_getElem? (i := 501) (by decide +kernel), List.mem_of_getElem? (i := 668) (by decide +kernel), List.mem_of_getElem? (i := 669) (by decide +kernel)⟩
theorem lw_p47 : lw_okq (⟨"PlateRoomModel", "costOf", "(II)I"⟩, 23) := ⟨⟨by decide +kernel, by decide +kernel⟩, List.mem_of_getElem? (i := 501) (by decide +kernel), List.mem_of_getElem? (i := 672) (by decide +kernel), List.mem_of_getElem? (i := 673) (by decide +kernel)⟩
def lw_privs_3 : List (MethodName × Nat) := [(⟨"PlateRoom$Copies", "hasItFrom", "(III)Z"⟩, 5), (⟨"PlateRoom$Holes", "bore", "(I)I"⟩, 2), (⟨"PlateRoom$Holes", "isWithin", "(II)Z"⟩, 2), (⟨"PlateRoom$Holes", "fitting", "(LPlateRoom$Holes;I)I"⟩, 2), (⟨"PlateRoom$Holes", "bestShift", "(LPlateRoom$Holes;)I"⟩, 2), (⟨"PlateRoom", "homeOf", "(I)I"⟩, 8), (⟨"PlateRoom$Holes", "mostFitting", "(LPlateRoom$Holes;)I"⟩, 2), (⟨"PlateRoom", "othersByChance", "(II)I"⟩, 8), (⟨"PlateRoom", "leavesWithCandidates", "(I)I"⟩, 8), (⟨"PlateRoomModel", "isOrder", "(I)Z"⟩, 23), (⟨"PlateRoomModel", "quarrelOf", "()I"⟩, 23), (⟨"PlateRoomModel", "isLeaf", "(I)Z"⟩, 23), (⟨"PlateRoomModel", "candidatesOf", "(I)I"⟩, 23), (⟨"PlateRoomModel", "isMap", "(I)Z"⟩, 23), (⟨"PlateRoomModel", "isFrom", "(II)Z"⟩, 23), (⟨"PlateRoomModel", "costOf", "(II)I"⟩, 23)]
theorem lw_r3 : ∀ q ∈ lw_privs_3, lw_okq q := List.forall_mem_cons.mpr ⟨lw_p32, List.forall_mem_cons.mpr ⟨lw_p33, List.forall_mem_cons.mpr ⟨lw_p34, List.forall_mem_cons.mpr ⟨lw_p35, List.forall_mem_cons.mpr ⟨lw_p36, List.forall_mem_cons.mpr ⟨lw_p37, List.forall_mem_cons.mpr ⟨lw_p38, List.forall_mem_cons.mpr ⟨lw_p39, List.forall_mem_cons.mpr ⟨lw_p40, List.forall_mem_cons.mpr ⟨lw_p41, List.forall_mem_cons.mpr ⟨lw_p42, List.forall_mem_cons.mpr ⟨lw_p43, List.forall_mem_cons.mpr ⟨lw_p44, List.forall_mem_cons.mpr ⟨lw_p45, List.forall_mem_cons.mpr ⟨lw_p46, List.forall_mem_cons.mpr ⟨lw_p47, fun _ h => absurd h List.not_mem_nil⟩⟩⟩⟩⟩⟩⟩⟩⟩⟩⟩⟩⟩⟩⟩⟩
theorem lw_p48 : lw_okq (⟨"PlateRoomModel", "fromOf", "(I)I"⟩, 23) := ⟨⟨by decide +kernel, by decide +kernel⟩, List.mem_of_getElem? (i := 501) (by decide +kernel), List.mem_of_getElem? (i := 680) (by decide +kernel), List.mem_of_getElem? (i := 681) (by decide +kernel)⟩
theorem lw_p49 : lw_okq (⟨"PlateRoomModel", "fitsOf", "(III)I"⟩, 23) := ⟨⟨by decide +kernel, by decide +kernel⟩, List.mem_of_getElem? (i := 501) (by decide +kernel), List.mem_of_getElem? (i := 703) (by decide +kernel), List.mem_of_getElem? (i := 704) (by decide +kernel)⟩
theorem lw_p50 : lw_okq (⟨"PlateRoomModel", "shiftOf", "(II)I"⟩, 23) := ⟨⟨by decide +kernel, by decide +kernel⟩, List.mem_of_getElem? (i := 501) (by decide +kernel), List.mem_of_getElem? (i := 711) (by decide +kernel), List.mem_of_getElem? (i := 712) (by decide +kernel)⟩
theorem lw_p51 : lw_okq (⟨"PlateRoomModel", "most", "(II)I"⟩, 23) := ⟨⟨by decide +kernel, by decide +kernel⟩, List.mem_of_getElem? (i := 501) (by decide +kernel), List.mem_of_getElem? (i := 719) (by decide +kernel), List.mem_of_getElem? (i := 720) (by decide +kernel)⟩
def lw_privs_4 : List (MethodName × Nat) := [(⟨"PlateRoomModel", "fromOf", "(I)I"⟩, 23), (⟨"PlateRoomModel", "fitsOf", "(III)I"⟩, 23), (⟨"PlateRoomModel", "shiftOf", "(II)I"⟩, 23), (⟨"PlateRoomModel", "most", "(II)I"⟩, 23)]
theorem lw_r4 : ∀ q ∈ lw_privs_4, lw_okq q := List.forall_mem_cons.mpr ⟨lw_p48, List.forall_mem_cons.mpr ⟨lw_p49, List.forall_mem_cons.mpr ⟨lw_p50, List.forall_mem_cons.mpr ⟨lw_p51, fun _ h => absurd h List.not_mem_nil⟩⟩⟩⟩
def lw_privs : List (MethodName × Nat) := lw_privs_1 ++ (lw_privs_2 ++ (lw_privs_3 ++ (lw_privs_4)))
def lw_tbl : List Cond := k2_sels lw_privs ++ tables_1
theorem lw_privs_ok : ∀ q ∈ lw_privs, lw_okq q := by
  show ∀ q ∈ lw_privs_1 ++ (lw_privs_2 ++ (lw_privs_3 ++ (lw_privs_4))), lw_okq q
  exact List.forall_mem_append.mpr ⟨lw_r1, List.forall_mem_append.mpr ⟨lw_r2, List.forall_mem_append.mpr ⟨lw_r3, lw_r4⟩⟩⟩
-- ===== end of PART A; then your names; then what follows =====
/-! ===== BEGIN words of one list among another's, by their places ===== -/
theorem goodIn_r {big : List Cond} (ws : List Cond) (ps : List Nat) (hp : ws = ps.filterMap (fun i => big[i]?)) (h : ws.all goodWord = true) : GoodIn big ws := by
  intro w hw
  have h1 := List.all_eq_true.mp h w hw
  rw [hp] at hw
  obtain ⟨i, -, hi⟩ := List.mem_filterMap.mp hw
  have hm : w ∈ big := by first | exact List.mem_of_getElem? hi | exact List.getElem?_mem hi
  exact ⟨hm, good_of_word h1⟩
theorem goodIn_app {big a b : List Cond} (ha : GoodIn big a) (hb : GoodIn big b) : GoodIn big (a ++ b) := fun w h => (List.mem_append.mp h).elim (ha w) (hb w)
theorem goodIn_ca {big a b : List Cond} {c : Cond} (ha : GoodIn big (c :: a)) (hb : GoodIn big b) : GoodIn big (c :: (a ++ b)) := fun w h => (List.mem_cons.mp h).elim (fun e => ha w (List.mem_cons.mpr (Or.inl e))) (fun h => (List.mem_append.mp h).elim (fun h => ha w (List.mem_cons.mpr (Or.inr h))) (hb w))
theorem goodIn_sub {big ws : List Cond} (hm : ∀ w ∈ ws, w ∈ big) (h : ws.all goodWord = true) : GoodIn big ws := fun w hw => ⟨hm w hw, good_of_word (List.all_eq_true.mp h w hw)⟩
/-! ===== END ===== -/

/-! ===== BEGIN printed: names, fields, word lists, decode rows ===== -/
def RX0 : String := "PlateRoom$Copies"
def TX0 : u_T := fun k => match k with
  | 0 => ("PlateRoom$Copies", "loss", "I", false)
  | 1 => ("PlateRoom$Copies", "alone", "I", false)
  | 2 => ("PlateRoom$Copies", "years", "[I", true)
  | 3 => ("PlateRoom$Copies", "errors", "[I", true)
  | _ => ("PlateRoom$Copies", "mapCount", "I", false)
def tyX0 : Nat → FieldType := fun k => match k with
  | 0 => .int
  | 1 => .int
  | 2 => .array .int
  | 3 => .array .int
  | _ => .int
abbrev wsX00 : List Cond := u_ws RX0 TX0 5
theorem nmX0 : ∀ a, a < 5 → ∀ b, b < 5 → a ≠ b → (TX0 a).2.1 ≠ (TX0 b).2.1 := by decide +kernel
theorem tyX0_ok : ∀ k, k < 5 → parseFieldDescriptor (TX0 k).2.2.1 = some (tyX0 k) := by decide +kernel
abbrev cX0_init : ByteArray := prog_2_method_1_code
def yX0_init : MethodName := ⟨RX0, "<init>", "()V"⟩
abbrev cX0_hasMap : ByteArray := prog_2_method_2_code
def yX0_hasMap : MethodName := ⟨RX0, "hasMap", "(I)Z"⟩
abbrev cX0_addMap : ByteArray := prog_2_method_3_code
def yX0_addMap : MethodName := ⟨RX0, "addMap", "(II)I"⟩
abbrev cX0_mayComeFrom : ByteArray := prog_2_method_4_code
def yX0_mayComeFrom : MethodName := ⟨RX0, "mayComeFrom", "(II)Z"⟩
abbrev cX0_costOf : ByteArray := prog_2_method_5_code
def yX0_costOf : MethodName := ⟨RX0, "costOf", "(II)I"⟩
abbrev cX0_cheapest : ByteArray := prog_2_method_6_code
def yX0_cheapest : MethodName := ⟨RX0, "cheapest", "(I)I"⟩
abbrev cX0_rivalCount : ByteArray := prog_2_method_7_code
def yX0_rivalCount : MethodName := ⟨RX0, "rivalCount", "(I)I"⟩
abbrev cX0_lifeOf : ByteArray := prog_2_method_8_code
def yX0_lifeOf : MethodName := ⟨RX0, "lifeOf", "(II)I"⟩
abbrev cX0_hasItFrom : ByteArray := prog_2_method_9_code
def yX0_hasItFrom : MethodName := ⟨RX0, "hasItFrom", "(III)Z"⟩
def RX1 : String := "PlateRoom$Holes"
def TX1 : u_T := fun k => match k with
  | 0 => ("PlateRoom$Holes", "places", "[I", true)
  | _ => ("PlateRoom$Holes", "placeCount", "I", false)
def tyX1 : Nat → FieldType := fun k => match k with
  | 0 => .array .int
  | _ => .int
abbrev wsX10 : List Cond := u_ws RX1 TX1 2
theorem nmX1 : ∀ a, a < 2 → ∀ b, b < 2 → a ≠ b → (TX1 a).2.1 ≠ (TX1 b).2.1 := by decide +kernel
theorem tyX1_ok : ∀ k, k < 2 → parseFieldDescriptor (TX1 k).2.2.1 = some (tyX1 k) := by decide +kernel
abbrev cX1_init : ByteArray := prog_3_method_1_code
def yX1_init : MethodName := ⟨RX1, "<init>", "()V"⟩
abbrev cX1_isPlace : ByteArray := prog_3_method_2_code
def yX1_isPlace : MethodName := ⟨RX1, "isPlace", "(I)Z"⟩
abbrev cX1_isShift : ByteArray := prog_3_method_3_code
def yX1_isShift : MethodName := ⟨RX1, "isShift", "(I)Z"⟩
abbrev cX1_bore : ByteArray := prog_3_method_4_code
def yX1_bore : MethodName := ⟨RX1, "bore", "(I)I"⟩
abbrev cX1_isWithin : ByteArray := prog_3_method_5_code
def yX1_isWithin : MethodName := ⟨RX1, "isWithin", "(II)Z"⟩
abbrev cX1_fitting : ByteArray := prog_3_method_6_code
def yX1_fitting : MethodName := ⟨RX1, "fitting", "(LPlateRoom$Holes;I)I"⟩
abbrev cX1_mostFitting : ByteArray := prog_3_method_7_code
def yX1_mostFitting : MethodName := ⟨RX1, "mostFitting", "(LPlateRoom$Holes;)I"⟩
abbrev cX1_bestShift : ByteArray := prog_3_method_8_code
def yX1_bestShift : MethodName := ⟨RX1, "bestShift", "(LPlateRoom$Holes;)I"⟩
def RX2 : String := "PlateRoom$Leaf"
def TX2 : u_T := fun k => match k with
  | 0 => ("PlateRoom$Leaf", "there", "I", false)
  | 1 => ("PlateRoom$Leaf", "gone", "I", false)
  | 2 => ("PlateRoom$Leaf", "worth", "I", false)
  | 3 => ("PlateRoom$Leaf", "colour", "I", false)
  | 4 => ("PlateRoom$Leaf", "mould", "I", false)
  | 5 => ("PlateRoom$Leaf", "imprint", "I", false)
  | _ => ("PlateRoom$Leaf", "holes", "LPlateRoom$Holes;", true)
def tyX2 : Nat → FieldType := fun k => match k with
  | 0 => .int
  | 1 => .int
  | 2 => .int
  | 3 => .int
  | 4 => .int
  | 5 => .int
  | _ => .object "PlateRoom$Holes"
abbrev wsX20 : List Cond := u_ws RX2 TX2 7
theorem nmX2 : ∀ a, a < 7 → ∀ b, b < 7 → a ≠ b → (TX2 a).2.1 ≠ (TX2 b).2.1 := by decide +kernel
theorem tyX2_ok : ∀ k, k < 7 → parseFieldDescriptor (TX2 k).2.2.1 = some (tyX2 k) := by decide +kernel
abbrev cX2_init : ByteArray := prog_4_method_1_code
def yX2_init : MethodName := ⟨RX2, "<init>", "()V"⟩
abbrev cX2_strike : ByteArray := prog_4_method_2_code
def yX2_strike : MethodName := ⟨RX2, "strike", "(IIII)V"⟩
abbrev cX2_lookOf : ByteArray := prog_4_method_3_code
def yX2_lookOf : MethodName := ⟨RX2, "lookOf", "(I)I"⟩
abbrev cX2_look : ByteArray := prog_4_method_4_code
def yX2_look : MethodName := ⟨RX2, "look", "(II)V"⟩
def RX3 : String := "PlateRoom$Plate"
def TX3 : u_T := fun k => match k with
  | 0 => ("PlateRoom$Plate", "cut", "I", false)
  | 1 => ("PlateRoom$Plate", "rub", "I", false)
  | 2 => ("PlateRoom$Plate", "again", "I", false)
  | 3 => ("PlateRoom$Plate", "lines", "[I", true)
  | 4 => ("PlateRoom$Plate", "years", "[LPlateRoom$Years;", true)
  | 5 => ("PlateRoom$Plate", "stateCount", "I", false)
  | 6 => ("PlateRoom$Plate", "read", "[I", true)
  | _ => ("PlateRoom$Plate", "toCome", "[[I", true)
def tyX3 : Nat → FieldType := fun k => match k with
  | 0 => .int
  | 1 => .int
  | 2 => .int
  | 3 => .array .int
  | 4 => .array (.object "PlateRoom$Years")
  | 5 => .int
  | 6 => .array .int
  | _ => .array (.array .int)
abbrev wsX30 : List Cond := u_ws RX3 TX3 8
theorem nmX3 : ∀ a, a < 8 → ∀ b, b < 8 → a ≠ b → (TX3 a).2.1 ≠ (TX3 b).2.1 := by decide +kernel
theorem tyX3_ok : ∀ k, k < 8 → parseFieldDescriptor (TX3 k).2.2.1 = some (tyX3 k) := by decide +kernel
abbrev cX3_init : ByteArray := prog_5_method_1_code
def yX3_init : MethodName := ⟨RX3, "<init>", "()V"⟩
abbrev cX3_hasState : ByteArray := prog_5_method_2_code
def yX3_hasState : MethodName := ⟨RX3, "hasState", "(I)Z"⟩
abbrev cX3_addState : ByteArray := prog_5_method_3_code
def yX3_addState : MethodName := ⟨RX3, "addState", "(III)I"⟩
abbrev cX3_statesWith : ByteArray := prog_5_method_4_code
def yX3_statesWith : MethodName := ⟨RX3, "statesWith", "(II)I"⟩
abbrev cX3_quarrelOf : ByteArray := prog_5_method_5_code
def yX3_quarrelOf : MethodName := ⟨RX3, "quarrelOf", "(I)I"⟩
abbrev cX3_readOrder : ByteArray := prog_5_method_6_code
def yX3_readOrder : MethodName := ⟨RX3, "readOrder", "(I)Z"⟩
abbrev cX3_stepQuarrel : ByteArray := prog_5_method_7_code
def yX3_stepQuarrel : MethodName := ⟨RX3, "stepQuarrel", "(III)I"⟩
abbrev cX3_bestOrder : ByteArray := prog_5_method_8_code
def yX3_bestOrder : MethodName := ⟨RX3, "bestOrder", "()I"⟩
abbrev cX3_weighWhatIsToCome : ByteArray := prog_5_method_9_code
def yX3_weighWhatIsToCome : MethodName := ⟨RX3, "weighWhatIsToCome", "()V"⟩
abbrev cX3_bestNext : ByteArray := prog_5_method_10_code
def yX3_bestNext : MethodName := ⟨RX3, "bestNext", "(II)I"⟩
abbrev cX3_quarrelBy : ByteArray := prog_5_method_11_code
def yX3_quarrelBy : MethodName := ⟨RX3, "quarrelBy", "(III)I"⟩
abbrev cX3_linesOf : ByteArray := prog_5_method_12_code
def yX3_linesOf : MethodName := ⟨RX3, "linesOf", "(I)I"⟩
def RX4 : String := "PlateRoom$Years"
def TX4 : u_T := fun k => match k with
  | 0 => ("PlateRoom$Years", "first", "I", false)
  | _ => ("PlateRoom$Years", "last", "I", false)
def tyX4 : Nat → FieldType := fun k => match k with
  | 0 => .int
  | _ => .int
abbrev wsX40 : List Cond := u_ws RX4 TX4 2
theorem nmX4 : ∀ a, a < 2 → ∀ b, b < 2 → a ≠ b → (TX4 a).2.1 ≠ (TX4 b).2.1 := by decide +kernel
theorem tyX4_ok : ∀ k, k < 2 → parseFieldDescriptor (TX4 k).2.2.1 = some (tyX4 k) := by decide +kernel
abbrev cX4_init : ByteArray := prog_6_method_1_code
def yX4_init : MethodName := ⟨RX4, "<init>", "()V"⟩
abbrev cX4_put : ByteArray := prog_6_method_2_code
def yX4_put : MethodName := ⟨RX4, "put", "(II)V"⟩
def RX5 : String := "PlateRoom"
def TX5 : u_T := fun k => match k with
  | 0 => ("PlateRoom", "plate", "LPlateRoom$Plate;", true)
  | 1 => ("PlateRoom", "copies", "LPlateRoom$Copies;", true)
  | 2 => ("PlateRoom", "leaves", "[LPlateRoom$Leaf;", true)
  | 3 => ("PlateRoom", "leafCount", "I", false)
  | 4 => ("PlateRoom", "moulds", "[LPlateRoom$Years;", true)
  | 5 => ("PlateRoom", "mouldCount", "I", false)
  | 6 => ("PlateRoom", "books", "[LPlateRoom$Holes;", true)
  | _ => ("PlateRoom", "pricesAsked", "J", false)
def tyX5 : Nat → FieldType := fun k => match k with
  | 0 => .object "PlateRoom$Plate"
  | 1 => .object "PlateRoom$Copies"
  | 2 => .array (.object "PlateRoom$Leaf")
  | 3 => .int
  | 4 => .array (.object "PlateRoom$Years")
  | 5 => .int
  | 6 => .array (.object "PlateRoom$Holes")
  | _ => .long
abbrev wsX50 : List Cond := u_ws RX5 TX5 8
theorem nmX5 : ∀ a, a < 8 → ∀ b, b < 8 → a ≠ b → (TX5 a).2.1 ≠ (TX5 b).2.1 := by decide +kernel
theorem tyX5_ok : ∀ k, k < 8 → parseFieldDescriptor (TX5 k).2.2.1 = some (tyX5 k) := by decide +kernel
abbrev cX5_init : ByteArray := prog_1_method_1_code
def yX5_init : MethodName := ⟨RX5, "<init>", "()V"⟩
abbrev cX5_state : ByteArray := prog_1_method_2_code
def yX5_state : MethodName := ⟨RX5, "state", "(III)I"⟩
abbrev cX5_about : ByteArray := prog_1_method_3_code
def yX5_about : MethodName := ⟨RX5, "about", "(II)I"⟩
abbrev cX5_set : ByteArray := prog_1_method_4_code
def yX5_set : MethodName := ⟨RX5, "set", "(II)I"⟩
abbrev cX5_quarrel : ByteArray := prog_1_method_5_code
def yX5_quarrel : MethodName := ⟨RX5, "quarrel", "(I)I"⟩
abbrev cX5_best : ByteArray := prog_1_method_6_code
def yX5_best : MethodName := ⟨RX5, "best", "(I)I"⟩
abbrev cX5_leaf : ByteArray := prog_1_method_7_code
def yX5_leaf : MethodName := ⟨RX5, "leaf", "(IIII)I"⟩
abbrev cX5_see : ByteArray := prog_1_method_8_code
def yX5_see : MethodName := ⟨RX5, "see", "(III)I"⟩
abbrev cX5_candidates : ByteArray := prog_1_method_9_code
def yX5_candidates : MethodName := ⟨RX5, "candidates", "(I)I"⟩
abbrev cX5_mould : ByteArray := prog_1_method_10_code
def yX5_mould : MethodName := ⟨RX5, "mould", "(II)I"⟩
abbrev cX5_paper : ByteArray := prog_1_method_11_code
def yX5_paper : MethodName := ⟨RX5, "paper", "(II)I"⟩
abbrev cX5_imprint : ByteArray := prog_1_method_12_code
def yX5_imprint : MethodName := ⟨RX5, "imprint", "(II)I"⟩
abbrev cX5_span : ByteArray := prog_1_method_13_code
def yX5_span : MethodName := ⟨RX5, "span", "(II)I"⟩
abbrev cX5_price : ByteArray := prog_1_method_14_code
def yX5_price : MethodName := ⟨RX5, "price", "(II)I"⟩
abbrev cX5_map : ByteArray := prog_1_method_15_code
def yX5_map : MethodName := ⟨RX5, "map", "(II)I"⟩
abbrev cX5_cost : ByteArray := prog_1_method_16_code
def yX5_cost : MethodName := ⟨RX5, "cost", "(II)I"⟩
abbrev cX5_from : ByteArray := prog_1_method_17_code
def yX5_from : MethodName := ⟨RX5, "from", "(I)I"⟩
abbrev cX5_rivals : ByteArray := prog_1_method_18_code
def yX5_rivals : MethodName := ⟨RX5, "rivals", "(I)I"⟩
abbrev cX5_life : ByteArray := prog_1_method_19_code
def yX5_life : MethodName := ⟨RX5, "life", "(II)I"⟩
abbrev cX5_hole : ByteArray := prog_1_method_20_code
def yX5_hole : MethodName := ⟨RX5, "hole", "(III)I"⟩
abbrev cX5_fits : ByteArray := prog_1_method_21_code
def yX5_fits : MethodName := ⟨RX5, "fits", "(III)I"⟩
abbrev cX5_shift : ByteArray := prog_1_method_22_code
def yX5_shift : MethodName := ⟨RX5, "shift", "(III)I"⟩
abbrev cX5_home : ByteArray := prog_1_method_23_code
def yX5_home : MethodName := ⟨RX5, "home", "(II)I"⟩
abbrev cX5_count : ByteArray := prog_1_method_24_code
def yX5_count : MethodName := ⟨RX5, "count", "(I)I"⟩
abbrev cX5_trace : ByteArray := prog_1_method_25_code
def yX5_trace : MethodName := ⟨RX5, "trace", "()J"⟩
abbrev cX5_has : ByteArray := prog_1_method_26_code
def yX5_has : MethodName := ⟨RX5, "has", "(II)Z"⟩
abbrev cX5_areLines : ByteArray := prog_1_method_27_code
def yX5_areLines : MethodName := ⟨RX5, "areLines", "(I)Z"⟩
abbrev cX5_isLine : ByteArray := prog_1_method_28_code
def yX5_isLine : MethodName := ⟨RX5, "isLine", "(I)Z"⟩
abbrev cX5_isYear : ByteArray := prog_1_method_29_code
def yX5_isYear : MethodName := ⟨RX5, "isYear", "(I)Z"⟩
abbrev cX5_areYears : ByteArray := prog_1_method_30_code
def yX5_areYears : MethodName := ⟨RX5, "areYears", "(II)Z"⟩
abbrev cX5_isFirstOrSecond : ByteArray := prog_1_method_31_code
def yX5_isFirstOrSecond : MethodName := ⟨RX5, "isFirstOrSecond", "(I)Z"⟩
abbrev cX5_isBook : ByteArray := prog_1_method_32_code
def yX5_isBook : MethodName := ⟨RX5, "isBook", "(I)Z"⟩
abbrev cX5_isLeaf : ByteArray := prog_1_method_33_code
def yX5_isLeaf : MethodName := ⟨RX5, "isLeaf", "(I)Z"⟩
abbrev cX5_isMould : ByteArray := prog_1_method_34_code
def yX5_isMould : MethodName := ⟨RX5, "isMould", "(I)Z"⟩
abbrev cX5_mostOfCharge : ByteArray := prog_1_method_35_code
def yX5_mostOfCharge : MethodName := ⟨RX5, "mostOfCharge", "(I)I"⟩
abbrev cX5_chargeOf : ByteArray := prog_1_method_36_code
def yX5_chargeOf : MethodName := ⟨RX5, "chargeOf", "(I)I"⟩
abbrev cX5_putCharge : ByteArray := prog_1_method_37_code
def yX5_putCharge : MethodName := ⟨RX5, "putCharge", "(II)V"⟩
abbrev cX5_candidatesOf : ByteArray := prog_1_method_38_code
def yX5_candidatesOf : MethodName := ⟨RX5, "candidatesOf", "(LPlateRoom$Leaf;)I"⟩
abbrev cX5_leavesWithCandidates : ByteArray := prog_1_method_39_code
def yX5_leavesWithCandidates : MethodName := ⟨RX5, "leavesWithCandidates", "(I)I"⟩
abbrev cX5_earliestByPaper : ByteArray := prog_1_method_40_code
def yX5_earliestByPaper : MethodName := ⟨RX5, "earliestByPaper", "(LPlateRoom$Leaf;)I"⟩
abbrev cX5_latestByPaper : ByteArray := prog_1_method_41_code
def yX5_latestByPaper : MethodName := ⟨RX5, "latestByPaper", "(LPlateRoom$Leaf;)I"⟩
abbrev cX5_plainPrice : ByteArray := prog_1_method_42_code
def yX5_plainPrice : MethodName := ⟨RX5, "plainPrice", "(LPlateRoom$Leaf;)I"⟩
abbrev cX5_colouredPrice : ByteArray := prog_1_method_43_code
def yX5_colouredPrice : MethodName := ⟨RX5, "colouredPrice", "(LPlateRoom$Leaf;)I"⟩
abbrev cX5_wormPrice : ByteArray := prog_1_method_44_code
def yX5_wormPrice : MethodName := ⟨RX5, "wormPrice", "(LPlateRoom$Leaf;)I"⟩
abbrev cX5_homeOf : ByteArray := prog_1_method_45_code
def yX5_homeOf : MethodName := ⟨RX5, "homeOf", "(I)I"⟩
abbrev cX5_othersByChance : ByteArray := prog_1_method_46_code
def yX5_othersByChance : MethodName := ⟨RX5, "othersByChance", "(II)I"⟩
def RX6 : String := "PlateRoomModel"
def TX6 : u_T := fun k => match k with
  | 0 => ("PlateRoomModel", "thrown", "I", false)
  | 1 => ("PlateRoomModel", "trace", "J", false)
  | 2 => ("PlateRoomModel", "states", "I", false)
  | 3 => ("PlateRoomModel", "lines", "[I", true)
  | 4 => ("PlateRoomModel", "from", "[I", true)
  | 5 => ("PlateRoomModel", "to", "[I", true)
  | 6 => ("PlateRoomModel", "rules", "[I", true)
  | 7 => ("PlateRoomModel", "leaves", "I", false)
  | 8 => ("PlateRoomModel", "there", "[I", true)
  | 9 => ("PlateRoomModel", "gone", "[I", true)
  | 10 => ("PlateRoomModel", "worth", "[I", true)
  | 11 => ("PlateRoomModel", "colour", "[I", true)
  | 12 => ("PlateRoomModel", "paper", "[I", true)
  | 13 => ("PlateRoomModel", "imprint", "[I", true)
  | 14 => ("PlateRoomModel", "moulds", "I", false)
  | 15 => ("PlateRoomModel", "mouldFrom", "[I", true)
  | 16 => ("PlateRoomModel", "mouldTo", "[I", true)
  | 17 => ("PlateRoomModel", "maps", "I", false)
  | 18 => ("PlateRoomModel", "year", "[I", true)
  | 19 => ("PlateRoomModel", "errors", "[I", true)
  | 20 => ("PlateRoomModel", "holeMany", "[I", true)
  | 21 => ("PlateRoomModel", "hole", "[I", true)
  | _ => ("PlateRoomModel", "digit", "[I", true)
def tyX6 : Nat → FieldType := fun k => match k with
  | 0 => .int
  | 1 => .long
  | 2 => .int
  | 3 => .array .int
  | 4 => .array .int
  | 5 => .array .int
  | 6 => .array .int
  | 7 => .int
  | 8 => .array .int
  | 9 => .array .int
  | 10 => .array .int
  | 11 => .array .int
  | 12 => .array .int
  | 13 => .array .int
  | 14 => .int
  | 15 => .array .int
  | 16 => .array .int
  | 17 => .int
  | 18 => .array .int
  | 19 => .array .int
  | 20 => .array .int
  | 21 => .array .int
  | _ => .array .int
abbrev wsX60 : List Cond := u_ws RX6 TX6 23
theorem nmX6 : ∀ a, a < 23 → ∀ b, b < 23 → a ≠ b → (TX6 a).2.1 ≠ (TX6 b).2.1 := by decide +kernel
theorem tyX6_ok : ∀ k, k < 23 → parseFieldDescriptor (TX6 k).2.2.1 = some (tyX6 k) := by decide +kernel
abbrev cX6_init : ByteArray := prog_8_method_1_code
def yX6_init : MethodName := ⟨RX6, "<init>", "()V"⟩
abbrev cX6_in : ByteArray := prog_8_method_3_code
def yX6_in : MethodName := ⟨RX6, "in", "(III)Z"⟩
abbrev cX6_isYears : ByteArray := prog_8_method_4_code
def yX6_isYears : MethodName := ⟨RX6, "isYears", "(II)Z"⟩
abbrev cX6_bits : ByteArray := prog_8_method_5_code
def yX6_bits : MethodName := ⟨RX6, "bits", "(I)I"⟩
abbrev cX6_state : ByteArray := prog_8_method_6_code
def yX6_state : MethodName := ⟨RX6, "state", "(III)I"⟩
abbrev cX6_about : ByteArray := prog_8_method_7_code
def yX6_about : MethodName := ⟨RX6, "about", "(II)I"⟩
abbrev cX6_set : ByteArray := prog_8_method_8_code
def yX6_set : MethodName := ⟨RX6, "set", "(II)I"⟩
abbrev cX6_isOrder : ByteArray := prog_8_method_9_code
def yX6_isOrder : MethodName := ⟨RX6, "isOrder", "(I)Z"⟩
abbrev cX6_quarrelOf : ByteArray := prog_8_method_10_code
def yX6_quarrelOf : MethodName := ⟨RX6, "quarrelOf", "()I"⟩
abbrev cX6_quarrel : ByteArray := prog_8_method_11_code
def yX6_quarrel : MethodName := ⟨RX6, "quarrel", "(I)I"⟩
abbrev cX6_best : ByteArray := prog_8_method_12_code
def yX6_best : MethodName := ⟨RX6, "best", "(I)I"⟩
abbrev cX6_isLeaf : ByteArray := prog_8_method_13_code
def yX6_isLeaf : MethodName := ⟨RX6, "isLeaf", "(I)Z"⟩
abbrev cX6_leaf : ByteArray := prog_8_method_14_code
def yX6_leaf : MethodName := ⟨RX6, "leaf", "(IIII)I"⟩
abbrev cX6_see : ByteArray := prog_8_method_15_code
def yX6_see : MethodName := ⟨RX6, "see", "(III)I"⟩
abbrev cX6_candidatesOf : ByteArray := prog_8_method_16_code
def yX6_candidatesOf : MethodName := ⟨RX6, "candidatesOf", "(I)I"⟩
abbrev cX6_candidates : ByteArray := prog_8_method_17_code
def yX6_candidates : MethodName := ⟨RX6, "candidates", "(I)I"⟩
abbrev cX6_mould : ByteArray := prog_8_method_18_code
def yX6_mould : MethodName := ⟨RX6, "mould", "(II)I"⟩
abbrev cX6_paper : ByteArray := prog_8_method_19_code
def yX6_paper : MethodName := ⟨RX6, "paper", "(II)I"⟩
abbrev cX6_imprint : ByteArray := prog_8_method_20_code
def yX6_imprint : MethodName := ⟨RX6, "imprint", "(II)I"⟩
abbrev cX6_span : ByteArray := prog_8_method_21_code
def yX6_span : MethodName := ⟨RX6, "span", "(II)I"⟩
abbrev cX6_price : ByteArray := prog_8_method_22_code
def yX6_price : MethodName := ⟨RX6, "price", "(II)I"⟩
abbrev cX6_isMap : ByteArray := prog_8_method_23_code
def yX6_isMap : MethodName := ⟨RX6, "isMap", "(I)Z"⟩
abbrev cX6_map : ByteArray := prog_8_method_24_code
def yX6_map : MethodName := ⟨RX6, "map", "(II)I"⟩
abbrev cX6_costOf : ByteArray := prog_8_method_25_code
def yX6_costOf : MethodName := ⟨RX6, "costOf", "(II)I"⟩
abbrev cX6_isFrom : ByteArray := prog_8_method_26_code
def yX6_isFrom : MethodName := ⟨RX6, "isFrom", "(II)Z"⟩
abbrev cX6_cost : ByteArray := prog_8_method_27_code
def yX6_cost : MethodName := ⟨RX6, "cost", "(II)I"⟩
abbrev cX6_fromOf : ByteArray := prog_8_method_28_code
def yX6_fromOf : MethodName := ⟨RX6, "fromOf", "(I)I"⟩
abbrev cX6_from : ByteArray := prog_8_method_29_code
def yX6_from : MethodName := ⟨RX6, "from", "(I)I"⟩
abbrev cX6_rivals : ByteArray := prog_8_method_30_code
def yX6_rivals : MethodName := ⟨RX6, "rivals", "(I)I"⟩
abbrev cX6_life : ByteArray := prog_8_method_31_code
def yX6_life : MethodName := ⟨RX6, "life", "(II)I"⟩
abbrev cX6_hole : ByteArray := prog_8_method_32_code
def yX6_hole : MethodName := ⟨RX6, "hole", "(III)I"⟩
abbrev cX6_fitsOf : ByteArray := prog_8_method_33_code
def yX6_fitsOf : MethodName := ⟨RX6, "fitsOf", "(III)I"⟩
abbrev cX6_isBook : ByteArray := prog_8_method_34_code
def yX6_isBook : MethodName := ⟨RX6, "isBook", "(I)Z"⟩
abbrev cX6_fits : ByteArray := prog_8_method_35_code
def yX6_fits : MethodName := ⟨RX6, "fits", "(III)I"⟩
abbrev cX6_shiftOf : ByteArray := prog_8_method_36_code
def yX6_shiftOf : MethodName := ⟨RX6, "shiftOf", "(II)I"⟩
abbrev cX6_shift : ByteArray := prog_8_method_37_code
def yX6_shift : MethodName := ⟨RX6, "shift", "(III)I"⟩
abbrev cX6_most : ByteArray := prog_8_method_38_code
def yX6_most : MethodName := ⟨RX6, "most", "(II)I"⟩
abbrev cX6_home : ByteArray := prog_8_method_39_code
def yX6_home : MethodName := ⟨RX6, "home", "(II)I"⟩
abbrev cX6_count : ByteArray := prog_8_method_40_code
def yX6_count : MethodName := ⟨RX6, "count", "(I)I"⟩
abbrev cX6_trace : ByteArray := prog_8_method_41_code
def yX6_trace : MethodName := ⟨RX6, "trace", "()J"⟩
def RJ6 : String := "java/lang/Integer"
def TJ6 : u_T := fun k => match k with
  | _ => ("", "", "", false)
def tyJ6 : Nat → FieldType := fun k => match k with
  | _ => .int
abbrev wsJ60 : List Cond := u_ws RJ6 TJ6 0
theorem nmJ6 : ∀ a, a < 0 → ∀ b, b < 0 → a ≠ b → (TJ6 a).2.1 ≠ (TJ6 b).2.1 := by decide +kernel
theorem tyJ6_ok : ∀ k, k < 0 → parseFieldDescriptor (TJ6 k).2.2.1 = some (tyJ6 k) := by decide +kernel
abbrev cJ6_bitCount_0f7a4 : ByteArray := prog_9_method_49_code
def yJ6_bitCount_0f7a4 : MethodName := ⟨RJ6, "bitCount", "(I)I"⟩
def RJ9 : String := "java/lang/Math"
def TJ9 : u_T := fun k => match k with
  | _ => ("", "", "", false)
def tyJ9 : Nat → FieldType := fun k => match k with
  | _ => .int
abbrev wsJ90 : List Cond := u_ws RJ9 TJ9 0
theorem nmJ9 : ∀ a, a < 0 → ∀ b, b < 0 → a ≠ b → (TJ9 a).2.1 ≠ (TJ9 b).2.1 := by decide +kernel
theorem tyJ9_ok : ∀ k, k < 0 → parseFieldDescriptor (TJ9 k).2.2.1 = some (tyJ9 k) := by decide +kernel
abbrev cJ9_abs_0f7a4 : ByteArray := prog_10_method_59_code
def yJ9_abs_0f7a4 : MethodName := ⟨RJ9, "abs", "(I)I"⟩
abbrev cJ9_max_7cf53 : ByteArray := prog_10_method_65_code
def yJ9_max_7cf53 : MethodName := ⟨RJ9, "max", "(II)I"⟩
abbrev cJ9_min_7cf53 : ByteArray := prog_10_method_69_code
def yJ9_min_7cf53 : MethodName := ⟨RJ9, "min", "(II)I"⟩
def RL : String := "PlateRoomLaw"
abbrev cL_law : ByteArray := code
def yL_law : MethodName := ⟨RL, "law", "([I)Z"⟩
abbrev vwCl : List vw_C := [(RX0, TX0, 5), (RX1, TX1, 2), (RX2, TX2, 7), (RX3, TX3, 8), (RX4, TX4, 2), (RX5, TX5, 8), (RX6, TX6, 23)]
end
section
theorem dX6_init_0 : decode cX6_init 0 = .ok (.aload_n 0, 1) := by decide +kernel
theorem dX6_init_1 : decode cX6_init 1 = .ok (.invokespecial 1, 3) := by decide +kernel
theorem dX6_init_4 : decode cX6_init 4 = .ok (.aload_n 0, 1) := by decide +kernel
theorem dX6_init_5 : decode cX6_init 5 = .ok (.bipush 6, 2) := by decide +kernel
theorem dX6_init_7 : decode cX6_init 7 = .ok (.newarray .int, 2) := by decide +kernel
theorem dX6_init_9 : decode cX6_init 9 = .ok (.putfield 7, 3) := by decide +kernel
theorem dX6_init_12 : decode cX6_init 12 = .ok (.aload_n 0, 1) := by decide +kernel
theorem dX6_init_13 : decode cX6_init 13 = .ok (.bipush 6, 2) := by decide +kernel
theorem dX6_init_15 : decode cX6_init 15 = .ok (.newarray .int, 2) := by decide +kernel
theorem dX6_init_17 : decode cX6_init 17 = .ok (.putfield 13, 3) := by decide +kernel
theorem dX6_init_20 : decode cX6_init 20 = .ok (.aload_n 0, 1) := by decide +kernel
theorem dX6_init_21 : decode cX6_init 21 = .ok (.bipush 6, 2) := by decide +kernel
theorem dX6_init_23 : decode cX6_init 23 = .ok (.newarray .int, 2) := by decide +kernel
theorem dX6_init_25 : decode cX6_init 25 = .ok (.putfield 16, 3) := by decide +kernel
theorem dX6_init_28 : decode cX6_init 28 = .ok (.aload_n 0, 1) := by decide +kernel
theorem dX6_init_29 : decode cX6_init 29 = .ok (.iconst 5, 1) := by decide +kernel
theorem dX6_init_30 : decode cX6_init 30 = .ok (.newarray .int, 2) := by decide +kernel
theorem dX6_init_32 : decode cX6_init 32 = .ok (.putfield 19, 3) := by decide +kernel
theorem dX6_init_35 : decode cX6_init 35 = .ok (.aload_n 0, 1) := by decide +kernel
theorem dX6_init_36 : decode cX6_init 36 = .ok (.bipush 20, 2) := by decide +kernel
theorem dX6_init_38 : decode cX6_init 38 = .ok (.newarray .int, 2) := by decide +kernel
theorem dX6_init_40 : decode cX6_init 40 = .ok (.putfield 22, 3) := by decide +kernel
theorem dX6_init_43 : decode cX6_init 43 = .ok (.aload_n 0, 1) := by decide +kernel
theorem dX6_init_44 : decode cX6_init 44 = .ok (.bipush 20, 2) := by decide +kernel
theorem dX6_init_46 : decode cX6_init 46 = .ok (.newarray .int, 2) := by decide +kernel
theorem dX6_init_48 : decode cX6_init 48 = .ok (.putfield 25, 3) := by decide +kernel
theorem dX6_init_51 : decode cX6_init 51 = .ok (.aload_n 0, 1) := by decide +kernel
theorem dX6_init_52 : decode cX6_init 52 = .ok (.bipush 20, 2) := by decide +kernel
theorem dX6_init_54 : decode cX6_init 54 = .ok (.newarray .int, 2) := by decide +kernel
theorem dX6_init_56 : decode cX6_init 56 = .ok (.putfield 28, 3) := by decide +kernel
theorem dX6_init_59 : decode cX6_init 59 = .ok (.aload_n 0, 1) := by decide +kernel
theorem dX6_init_60 : decode cX6_init 60 = .ok (.bipush 20, 2) := by decide +kernel
theorem dX6_init_62 : decode cX6_init 62 = .ok (.newarray .int, 2) := by decide +kernel
theorem dX6_init_64 : decode cX6_init 64 = .ok (.putfield 31, 3) := by decide +kernel
theorem dX6_init_67 : decode cX6_init 67 = .ok (.aload_n 0, 1) := by decide +kernel
theorem dX6_init_68 : decode cX6_init 68 = .ok (.bipush 20, 2) := by decide +kernel
theorem dX6_init_70 : decode cX6_init 70 = .ok (.newarray .int, 2) := by decide +kernel
theorem dX6_init_72 : decode cX6_init 72 = .ok (.putfield 34, 3) := by decide +kernel
theorem dX6_init_75 : decode cX6_init 75 = .ok (.aload_n 0, 1) := by decide +kernel
theorem dX6_init_76 : decode cX6_init 76 = .ok (.bipush 20, 2) := by decide +kernel
theorem dX6_init_78 : decode cX6_init 78 = .ok (.newarray .int, 2) := by decide +kernel
theorem dX6_init_80 : decode cX6_init 80 = .ok (.putfield 37, 3) := by decide +kernel
theorem dX6_init_83 : decode cX6_init 83 = .ok (.aload_n 0, 1) := by decide +kernel
theorem dX6_init_84 : decode cX6_init 84 = .ok (.bipush 8, 2) := by decide +kernel
theorem dX6_init_86 : decode cX6_init 86 = .ok (.newarray .int, 2) := by decide +kernel
theorem dX6_init_88 : decode cX6_init 88 = .ok (.putfield 40, 3) := by decide +kernel
theorem dX6_init_91 : decode cX6_init 91 = .ok (.aload_n 0, 1) := by decide +kernel
theorem dX6_init_92 : decode cX6_init 92 = .ok (.bipush 8, 2) := by decide +kernel
theorem dX6_init_94 : decode cX6_init 94 = .ok (.newarray .int, 2) := by decide +kernel
theorem dX6_init_96 : decode cX6_init 96 = .ok (.putfield 43, 3) := by decide +kernel
theorem dX6_init_99 : decode cX6_init 99 = .ok (.aload_n 0, 1) := by decide +kernel
theorem dX6_init_100 : decode cX6_init 100 = .ok (.bipush 8, 2) := by decide +kernel
theorem dX6_init_102 : decode cX6_init 102 = .ok (.newarray .int, 2) := by decide +kernel
theorem dX6_init_104 : decode cX6_init 104 = .ok (.putfield 46, 3) := by decide +kernel
theorem dX6_init_107 : decode cX6_init 107 = .ok (.aload_n 0, 1) := by decide +kernel
theorem dX6_init_108 : decode cX6_init 108 = .ok (.bipush 8, 2) := by decide +kernel
theorem dX6_init_110 : decode cX6_init 110 = .ok (.newarray .int, 2) := by decide +kernel
theorem dX6_init_112 : decode cX6_init 112 = .ok (.putfield 49, 3) := by decide +kernel
theorem dX6_init_115 : decode cX6_init 115 = .ok (.aload_n 0, 1) := by decide +kernel
theorem dX6_init_116 : decode cX6_init 116 = .ok (.bipush 24, 2) := by decide +kernel
theorem dX6_init_118 : decode cX6_init 118 = .ok (.newarray .int, 2) := by decide +kernel
theorem dX6_init_120 : decode cX6_init 120 = .ok (.putfield 52, 3) := by decide +kernel
theorem dX6_init_123 : decode cX6_init 123 = .ok (.aload_n 0, 1) := by decide +kernel
theorem dX6_init_124 : decode cX6_init 124 = .ok (.sipush 144, 3) := by decide +kernel
theorem dX6_init_127 : decode cX6_init 127 = .ok (.newarray .int, 2) := by decide +kernel
theorem dX6_init_129 : decode cX6_init 129 = .ok (.putfield 55, 3) := by decide +kernel
theorem dX6_init_132 : decode cX6_init 132 = .ok (.aload_n 0, 1) := by decide +kernel
theorem dX6_init_133 : decode cX6_init 133 = .ok (.bipush 6, 2) := by decide +kernel
theorem dX6_init_135 : decode cX6_init 135 = .ok (.newarray .int, 2) := by decide +kernel
theorem dX6_init_137 : decode cX6_init 137 = .ok (.putfield 58, 3) := by decide +kernel
theorem dX6_init_140 : decode cX6_init 140 = .ok (.aload_n 0, 1) := by decide +kernel
theorem dX6_init_141 : decode cX6_init 141 = .ok (.getfield 19, 3) := by decide +kernel
theorem dX6_init_144 : decode cX6_init 144 = .ok (.iconst 0, 1) := by decide +kernel
theorem dX6_init_145 : decode cX6_init 145 = .ok (.iconst 1, 1) := by decide +kernel
theorem dX6_init_146 : decode cX6_init 146 = .ok (.iastore, 1) := by decide +kernel
theorem dX6_init_147 : decode cX6_init 147 = .ok (.aload_n 0, 1) := by decide +kernel
theorem dX6_init_148 : decode cX6_init 148 = .ok (.getfield 19, 3) := by decide +kernel
theorem dX6_init_151 : decode cX6_init 151 = .ok (.iconst 1, 1) := by decide +kernel
theorem dX6_init_152 : decode cX6_init 152 = .ok (.iconst 2, 1) := by decide +kernel
theorem dX6_init_153 : decode cX6_init 153 = .ok (.iastore, 1) := by decide +kernel
theorem dX6_init_154 : decode cX6_init 154 = .ok (.aload_n 0, 1) := by decide +kernel
theorem dX6_init_155 : decode cX6_init 155 = .ok (.getfield 19, 3) := by decide +kernel
theorem dX6_init_158 : decode cX6_init 158 = .ok (.iconst 2, 1) := by decide +kernel
theorem dX6_init_159 : decode cX6_init 159 = .ok (.bipush 10, 2) := by decide +kernel
theorem dX6_init_161 : decode cX6_init 161 = .ok (.iastore, 1) := by decide +kernel
theorem dX6_init_162 : decode cX6_init 162 = .ok (.aload_n 0, 1) := by decide +kernel
theorem dX6_init_163 : decode cX6_init 163 = .ok (.getfield 19, 3) := by decide +kernel
theorem dX6_init_166 : decode cX6_init 166 = .ok (.iconst 3, 1) := by decide +kernel
theorem dX6_init_167 : decode cX6_init 167 = .ok (.iconst 2, 1) := by decide +kernel
theorem dX6_init_168 : decode cX6_init 168 = .ok (.iastore, 1) := by decide +kernel
theorem dX6_init_169 : decode cX6_init 169 = .ok (.aload_n 0, 1) := by decide +kernel
theorem dX6_init_170 : decode cX6_init 170 = .ok (.getfield 19, 3) := by decide +kernel
theorem dX6_init_173 : decode cX6_init 173 = .ok (.iconst 4, 1) := by decide +kernel
theorem dX6_init_174 : decode cX6_init 174 = .ok (.iconst 4, 1) := by decide +kernel
theorem dX6_init_175 : decode cX6_init 175 = .ok (.iastore, 1) := by decide +kernel
theorem dX6_init_176 : decode cX6_init 176 = .ok (.return_, 1) := by decide +kernel
theorem dX6_in_0 : decode cX6_in 0 = .ok (.iload_n 0, 1) := by decide +kernel
theorem dX6_in_1 : decode cX6_in 1 = .ok (.iload_n 1, 1) := by decide +kernel
theorem dX6_in_2 : decode cX6_in 2 = .ok (.if_icmp .lt 12, 3) := by decide +kernel
theorem dX6_in_5 : decode cX6_in 5 = .ok (.iload_n 0, 1) := by decide +kernel
theorem dX6_in_6 : decode cX6_in 6 = .ok (.iload_n 2, 1) := by decide +kernel
theorem dX6_in_7 : decode cX6_in 7 = .ok (.if_icmp .gt 7, 3) := by decide +kernel
theorem dX6_in_10 : decode cX6_in 10 = .ok (.iconst 1, 1) := by decide +kernel
theorem dX6_in_11 : decode cX6_in 11 = .ok (.goto 4, 3) := by decide +kernel
theorem dX6_in_14 : decode cX6_in 14 = .ok (.iconst 0, 1) := by decide +kernel
theorem dX6_in_15 : decode cX6_in 15 = .ok (.ireturn, 1) := by decide +kernel
theorem dX6_isYears_0 : decode cX6_isYears 0 = .ok (.iload_n 0, 1) := by decide +kernel
theorem dX6_isYears_1 : decode cX6_isYears 1 = .ok (.sipush 1500, 3) := by decide +kernel
theorem dX6_isYears_4 : decode cX6_isYears 4 = .ok (.sipush 1900, 3) := by decide +kernel
theorem dX6_isYears_7 : decode cX6_isYears 7 = .ok (.invokestatic 65, 3) := by decide +kernel
theorem dX6_isYears_10 : decode cX6_isYears 10 = .ok (.ifCond .eq 18, 3) := by decide +kernel
theorem dX6_isYears_13 : decode cX6_isYears 13 = .ok (.iload_n 1, 1) := by decide +kernel
theorem dX6_isYears_14 : decode cX6_isYears 14 = .ok (.iload_n 0, 1) := by decide +kernel
theorem dX6_isYears_15 : decode cX6_isYears 15 = .ok (.sipush 1900, 3) := by decide +kernel
theorem dX6_isYears_18 : decode cX6_isYears 18 = .ok (.invokestatic 65, 3) := by decide +kernel
theorem dX6_isYears_21 : decode cX6_isYears 21 = .ok (.ifCond .eq 7, 3) := by decide +kernel
theorem dX6_isYears_24 : decode cX6_isYears 24 = .ok (.iconst 1, 1) := by decide +kernel
theorem dX6_isYears_25 : decode cX6_isYears 25 = .ok (.goto 4, 3) := by decide +kernel
theorem dX6_isYears_28 : decode cX6_isYears 28 = .ok (.iconst 0, 1) := by decide +kernel
theorem dX6_isYears_29 : decode cX6_isYears 29 = .ok (.ireturn, 1) := by decide +kernel
theorem dX6_bits_0 : decode cX6_bits 0 = .ok (.iconst 0, 1) := by decide +kernel
theorem dX6_bits_1 : decode cX6_bits 1 = .ok (.istore_n 1, 1) := by decide +kernel
theorem dX6_bits_2 : decode cX6_bits 2 = .ok (.iconst 0, 1) := by decide +kernel
theorem dX6_bits_3 : decode cX6_bits 3 = .ok (.istore_n 2, 1) := by decide +kernel
theorem dX6_bits_4 : decode cX6_bits 4 = .ok (.iload_n 2, 1) := by decide +kernel
theorem dX6_bits_5 : decode cX6_bits 5 = .ok (.bipush 12, 2) := by decide +kernel
theorem dX6_bits_7 : decode cX6_bits 7 = .ok (.if_icmp .ge 17, 3) := by decide +kernel
theorem dX6_bits_10 : decode cX6_bits 10 = .ok (.iload_n 1, 1) := by decide +kernel
theorem dX6_bits_11 : decode cX6_bits 11 = .ok (.iload_n 0, 1) := by decide +kernel
theorem dX6_bits_12 : decode cX6_bits 12 = .ok (.iload_n 2, 1) := by decide +kernel
theorem dX6_bits_13 : decode cX6_bits 13 = .ok (.ishr, 1) := by decide +kernel
theorem dX6_bits_14 : decode cX6_bits 14 = .ok (.iconst 1, 1) := by decide +kernel
theorem dX6_bits_15 : decode cX6_bits 15 = .ok (.iand, 1) := by decide +kernel
theorem dX6_bits_16 : decode cX6_bits 16 = .ok (.iadd, 1) := by decide +kernel
theorem dX6_bits_17 : decode cX6_bits 17 = .ok (.istore_n 1, 1) := by decide +kernel
theorem dX6_bits_18 : decode cX6_bits 18 = .ok (.iinc 2 1, 3) := by decide +kernel
theorem dX6_bits_21 : decode cX6_bits 21 = .ok (.goto (-17), 3) := by decide +kernel
theorem dX6_bits_24 : decode cX6_bits 24 = .ok (.iload_n 1, 1) := by decide +kernel
theorem dX6_bits_25 : decode cX6_bits 25 = .ok (.ireturn, 1) := by decide +kernel
theorem dX6_state_0 : decode cX6_state 0 = .ok (.aload_n 0, 1) := by decide +kernel
theorem dX6_state_1 : decode cX6_state 1 = .ok (.iconst 0, 1) := by decide +kernel
theorem dX6_state_2 : decode cX6_state 2 = .ok (.putfield 61, 3) := by decide +kernel
theorem dX6_state_5 : decode cX6_state 5 = .ok (.iload_n 1, 1) := by decide +kernel
theorem dX6_state_6 : decode cX6_state 6 = .ok (.iconst 0, 1) := by decide +kernel
theorem dX6_state_7 : decode cX6_state 7 = .ok (.sipush 4095, 3) := by decide +kernel
theorem dX6_state_10 : decode cX6_state 10 = .ok (.invokestatic 65, 3) := by decide +kernel
theorem dX6_state_13 : decode cX6_state 13 = .ok (.ifCond .eq 11, 3) := by decide +kernel
theorem dX6_state_16 : decode cX6_state 16 = .ok (.iload_n 2, 1) := by decide +kernel
theorem dX6_state_17 : decode cX6_state 17 = .ok (.iload_n 3, 1) := by decide +kernel
theorem dX6_state_18 : decode cX6_state 18 = .ok (.invokestatic 69, 3) := by decide +kernel
theorem dX6_state_21 : decode cX6_state 21 = .ok (.ifCond .ne 5, 3) := by decide +kernel
theorem dX6_state_24 : decode cX6_state 24 = .ok (.iconst (-1), 1) := by decide +kernel
theorem dX6_state_25 : decode cX6_state 25 = .ok (.ireturn, 1) := by decide +kernel
theorem dX6_state_26 : decode cX6_state 26 = .ok (.aload_n 0, 1) := by decide +kernel
theorem dX6_state_27 : decode cX6_state 27 = .ok (.getfield 73, 3) := by decide +kernel
theorem dX6_state_30 : decode cX6_state 30 = .ok (.bipush 6, 2) := by decide +kernel
theorem dX6_state_32 : decode cX6_state 32 = .ok (.if_icmp .ne 6, 3) := by decide +kernel
theorem dX6_state_35 : decode cX6_state 35 = .ok (.bipush (-3), 2) := by decide +kernel
theorem dX6_state_37 : decode cX6_state 37 = .ok (.ireturn, 1) := by decide +kernel
theorem dX6_state_38 : decode cX6_state 38 = .ok (.aload_n 0, 1) := by decide +kernel
theorem dX6_state_39 : decode cX6_state 39 = .ok (.getfield 7, 3) := by decide +kernel
theorem dX6_state_42 : decode cX6_state 42 = .ok (.aload_n 0, 1) := by decide +kernel
theorem dX6_state_43 : decode cX6_state 43 = .ok (.getfield 73, 3) := by decide +kernel
theorem dX6_state_46 : decode cX6_state 46 = .ok (.iload_n 1, 1) := by decide +kernel
theorem dX6_state_47 : decode cX6_state 47 = .ok (.iastore, 1) := by decide +kernel
theorem dX6_state_48 : decode cX6_state 48 = .ok (.aload_n 0, 1) := by decide +kernel
theorem dX6_state_49 : decode cX6_state 49 = .ok (.getfield 13, 3) := by decide +kernel
theorem dX6_state_52 : decode cX6_state 52 = .ok (.aload_n 0, 1) := by decide +kernel
theorem dX6_state_53 : decode cX6_state 53 = .ok (.getfield 73, 3) := by decide +kernel
theorem dX6_state_56 : decode cX6_state 56 = .ok (.iload_n 2, 1) := by decide +kernel
theorem dX6_state_57 : decode cX6_state 57 = .ok (.iastore, 1) := by decide +kernel
theorem dX6_state_58 : decode cX6_state 58 = .ok (.aload_n 0, 1) := by decide +kernel
theorem dX6_state_59 : decode cX6_state 59 = .ok (.getfield 16, 3) := by decide +kernel
theorem dX6_state_62 : decode cX6_state 62 = .ok (.aload_n 0, 1) := by decide +kernel
theorem dX6_state_63 : decode cX6_state 63 = .ok (.getfield 73, 3) := by decide +kernel
theorem dX6_state_66 : decode cX6_state 66 = .ok (.iload_n 3, 1) := by decide +kernel
theorem dX6_state_67 : decode cX6_state 67 = .ok (.iastore, 1) := by decide +kernel
theorem dX6_state_68 : decode cX6_state 68 = .ok (.aload_n 0, 1) := by decide +kernel
theorem dX6_state_69 : decode cX6_state 69 = .ok (.dup, 1) := by decide +kernel
theorem dX6_state_70 : decode cX6_state 70 = .ok (.getfield 73, 3) := by decide +kernel
theorem dX6_state_73 : decode cX6_state 73 = .ok (.iconst 1, 1) := by decide +kernel
theorem dX6_state_74 : decode cX6_state 74 = .ok (.iadd, 1) := by decide +kernel
theorem dX6_state_75 : decode cX6_state 75 = .ok (.putfield 73, 3) := by decide +kernel
theorem dX6_state_78 : decode cX6_state 78 = .ok (.aload_n 0, 1) := by decide +kernel
theorem dX6_state_79 : decode cX6_state 79 = .ok (.getfield 73, 3) := by decide +kernel
theorem dX6_state_82 : decode cX6_state 82 = .ok (.iconst 1, 1) := by decide +kernel
theorem dX6_state_83 : decode cX6_state 83 = .ok (.isub, 1) := by decide +kernel
theorem dX6_state_84 : decode cX6_state 84 = .ok (.ireturn, 1) := by decide +kernel
theorem dX6_about_0 : decode cX6_about 0 = .ok (.aload_n 0, 1) := by decide +kernel
theorem dX6_about_1 : decode cX6_about 1 = .ok (.iconst 0, 1) := by decide +kernel
theorem dX6_about_2 : decode cX6_about 2 = .ok (.putfield 61, 3) := by decide +kernel
theorem dX6_about_5 : decode cX6_about 5 = .ok (.iload_n 1, 1) := by decide +kernel
theorem dX6_about_6 : decode cX6_about 6 = .ok (.iconst 0, 1) := by decide +kernel
theorem dX6_about_7 : decode cX6_about 7 = .ok (.aload_n 0, 1) := by decide +kernel
theorem dX6_about_8 : decode cX6_about 8 = .ok (.getfield 73, 3) := by decide +kernel
theorem dX6_about_11 : decode cX6_about 11 = .ok (.iconst 1, 1) := by decide +kernel
theorem dX6_about_12 : decode cX6_about 12 = .ok (.isub, 1) := by decide +kernel
theorem dX6_about_13 : decode cX6_about 13 = .ok (.invokestatic 65, 3) := by decide +kernel
theorem dX6_about_16 : decode cX6_about 16 = .ok (.ifCond .eq 12, 3) := by decide +kernel
theorem dX6_about_19 : decode cX6_about 19 = .ok (.iload_n 2, 1) := by decide +kernel
theorem dX6_about_20 : decode cX6_about 20 = .ok (.iconst 0, 1) := by decide +kernel
theorem dX6_about_21 : decode cX6_about 21 = .ok (.iconst 2, 1) := by decide +kernel
theorem dX6_about_22 : decode cX6_about 22 = .ok (.invokestatic 65, 3) := by decide +kernel
theorem dX6_about_25 : decode cX6_about 25 = .ok (.ifCond .ne 5, 3) := by decide +kernel
theorem dX6_about_28 : decode cX6_about 28 = .ok (.iconst (-1), 1) := by decide +kernel
theorem dX6_about_29 : decode cX6_about 29 = .ok (.ireturn, 1) := by decide +kernel
theorem dX6_about_30 : decode cX6_about 30 = .ok (.iload_n 2, 1) := by decide +kernel
theorem dX6_about_31 : decode cX6_about 31 = .ok (.ifCond .ne 12, 3) := by decide +kernel
theorem dX6_about_34 : decode cX6_about 34 = .ok (.aload_n 0, 1) := by decide +kernel
theorem dX6_about_35 : decode cX6_about 35 = .ok (.getfield 7, 3) := by decide +kernel
theorem dX6_about_38 : decode cX6_about 38 = .ok (.iload_n 1, 1) := by decide +kernel
theorem dX6_about_39 : decode cX6_about 39 = .ok (.iaload, 1) := by decide +kernel
theorem dX6_about_40 : decode cX6_about 40 = .ok (.goto 23, 3) := by decide +kernel
theorem dX6_about_43 : decode cX6_about 43 = .ok (.iload_n 2, 1) := by decide +kernel
theorem dX6_about_44 : decode cX6_about 44 = .ok (.iconst 1, 1) := by decide +kernel
theorem dX6_about_45 : decode cX6_about 45 = .ok (.if_icmp .ne 12, 3) := by decide +kernel
theorem dX6_about_48 : decode cX6_about 48 = .ok (.aload_n 0, 1) := by decide +kernel
theorem dX6_about_49 : decode cX6_about 49 = .ok (.getfield 13, 3) := by decide +kernel
theorem dX6_about_52 : decode cX6_about 52 = .ok (.iload_n 1, 1) := by decide +kernel
theorem dX6_about_53 : decode cX6_about 53 = .ok (.iaload, 1) := by decide +kernel
theorem dX6_about_54 : decode cX6_about 54 = .ok (.goto 9, 3) := by decide +kernel
theorem dX6_about_57 : decode cX6_about 57 = .ok (.aload_n 0, 1) := by decide +kernel
theorem dX6_about_58 : decode cX6_about 58 = .ok (.getfield 16, 3) := by decide +kernel
theorem dX6_about_61 : decode cX6_about 61 = .ok (.iload_n 1, 1) := by decide +kernel
theorem dX6_about_62 : decode cX6_about 62 = .ok (.iaload, 1) := by decide +kernel
theorem dX6_about_63 : decode cX6_about 63 = .ok (.ireturn, 1) := by decide +kernel
theorem dX6_set_0 : decode cX6_set 0 = .ok (.aload_n 0, 1) := by decide +kernel
theorem dX6_set_1 : decode cX6_set 1 = .ok (.iconst 0, 1) := by decide +kernel
theorem dX6_set_2 : decode cX6_set 2 = .ok (.putfield 61, 3) := by decide +kernel
theorem dX6_set_5 : decode cX6_set 5 = .ok (.iload_n 1, 1) := by decide +kernel
theorem dX6_set_6 : decode cX6_set 6 = .ok (.iconst 0, 1) := by decide +kernel
theorem dX6_set_7 : decode cX6_set 7 = .ok (.iconst 4, 1) := by decide +kernel
theorem dX6_set_8 : decode cX6_set 8 = .ok (.invokestatic 65, 3) := by decide +kernel
theorem dX6_set_11 : decode cX6_set 11 = .ok (.ifCond .eq 33, 3) := by decide +kernel
theorem dX6_set_14 : decode cX6_set 14 = .ok (.iload_n 2, 1) := by decide +kernel
theorem dX6_set_15 : decode cX6_set 15 = .ok (.iconst 0, 1) := by decide +kernel
theorem dX6_set_16 : decode cX6_set 16 = .ok (.iload_n 1, 1) := by decide +kernel
theorem dX6_set_17 : decode cX6_set 17 = .ok (.iconst 2, 1) := by decide +kernel
theorem dX6_set_18 : decode cX6_set 18 = .ok (.if_icmp .ne 8, 3) := by decide +kernel
theorem dX6_set_21 : decode cX6_set 21 = .ok (.bipush 50, 2) := by decide +kernel
theorem dX6_set_23 : decode cX6_set 23 = .ok (.goto 15, 3) := by decide +kernel
theorem dX6_set_26 : decode cX6_set 26 = .ok (.iload_n 1, 1) := by decide +kernel
theorem dX6_set_27 : decode cX6_set 27 = .ok (.iconst 4, 1) := by decide +kernel
theorem dX6_set_28 : decode cX6_set 28 = .ok (.if_icmp .ne 8, 3) := by decide +kernel
theorem dX6_set_31 : decode cX6_set 31 = .ok (.bipush 20, 2) := by decide +kernel
theorem dX6_set_33 : decode cX6_set 33 = .ok (.goto 5, 3) := by decide +kernel
theorem dX6_set_36 : decode cX6_set 36 = .ok (.bipush 9, 2) := by decide +kernel
theorem dX6_set_38 : decode cX6_set 38 = .ok (.invokestatic 65, 3) := by decide +kernel
theorem dX6_set_41 : decode cX6_set 41 = .ok (.ifCond .ne 5, 3) := by decide +kernel
theorem dX6_set_44 : decode cX6_set 44 = .ok (.iconst (-1), 1) := by decide +kernel
theorem dX6_set_45 : decode cX6_set 45 = .ok (.ireturn, 1) := by decide +kernel
theorem dX6_set_46 : decode cX6_set 46 = .ok (.aload_n 0, 1) := by decide +kernel
theorem dX6_set_47 : decode cX6_set 47 = .ok (.getfield 19, 3) := by decide +kernel
theorem dX6_set_50 : decode cX6_set 50 = .ok (.iload_n 1, 1) := by decide +kernel
theorem dX6_set_51 : decode cX6_set 51 = .ok (.iaload, 1) := by decide +kernel
theorem dX6_set_52 : decode cX6_set 52 = .ok (.istore_n 3, 1) := by decide +kernel
theorem dX6_set_53 : decode cX6_set 53 = .ok (.aload_n 0, 1) := by decide +kernel
theorem dX6_set_54 : decode cX6_set 54 = .ok (.getfield 19, 3) := by decide +kernel
theorem dX6_set_57 : decode cX6_set 57 = .ok (.iload_n 1, 1) := by decide +kernel
theorem dX6_set_58 : decode cX6_set 58 = .ok (.iload_n 2, 1) := by decide +kernel
theorem dX6_set_59 : decode cX6_set 59 = .ok (.iastore, 1) := by decide +kernel
theorem dX6_set_60 : decode cX6_set 60 = .ok (.iload_n 3, 1) := by decide +kernel
theorem dX6_set_61 : decode cX6_set 61 = .ok (.ireturn, 1) := by decide +kernel
theorem dX6_isOrder_0 : decode cX6_isOrder 0 = .ok (.iload_n 1, 1) := by decide +kernel
theorem dX6_isOrder_1 : decode cX6_isOrder 1 = .ok (.istore_n 2, 1) := by decide +kernel
theorem dX6_isOrder_2 : decode cX6_isOrder 2 = .ok (.iconst 0, 1) := by decide +kernel
theorem dX6_isOrder_3 : decode cX6_isOrder 3 = .ok (.istore_n 3, 1) := by decide +kernel
theorem dX6_isOrder_4 : decode cX6_isOrder 4 = .ok (.aload_n 0, 1) := by decide +kernel
theorem dX6_isOrder_5 : decode cX6_isOrder 5 = .ok (.getfield 73, 3) := by decide +kernel
theorem dX6_isOrder_8 : decode cX6_isOrder 8 = .ok (.iconst 1, 1) := by decide +kernel
theorem dX6_isOrder_9 : decode cX6_isOrder 9 = .ok (.isub, 1) := by decide +kernel
theorem dX6_isOrder_10 : decode cX6_isOrder 10 = .ok (.istore 4, 2) := by decide +kernel
theorem dX6_isOrder_12 : decode cX6_isOrder 12 = .ok (.iload 4, 2) := by decide +kernel
theorem dX6_isOrder_14 : decode cX6_isOrder 14 = .ok (.ifCond .lt 45, 3) := by decide +kernel
theorem dX6_isOrder_17 : decode cX6_isOrder 17 = .ok (.aload_n 0, 1) := by decide +kernel
theorem dX6_isOrder_18 : decode cX6_isOrder 18 = .ok (.getfield 58, 3) := by decide +kernel
theorem dX6_isOrder_21 : decode cX6_isOrder 21 = .ok (.iload 4, 2) := by decide +kernel
theorem dX6_isOrder_23 : decode cX6_isOrder 23 = .ok (.iload_n 2, 1) := by decide +kernel
theorem dX6_isOrder_24 : decode cX6_isOrder 24 = .ok (.bipush 6, 2) := by decide +kernel
theorem dX6_isOrder_26 : decode cX6_isOrder 26 = .ok (.irem, 1) := by decide +kernel
theorem dX6_isOrder_27 : decode cX6_isOrder 27 = .ok (.iastore, 1) := by decide +kernel
theorem dX6_isOrder_28 : decode cX6_isOrder 28 = .ok (.iload_n 2, 1) := by decide +kernel
theorem dX6_isOrder_29 : decode cX6_isOrder 29 = .ok (.bipush 6, 2) := by decide +kernel
theorem dX6_isOrder_31 : decode cX6_isOrder 31 = .ok (.idiv, 1) := by decide +kernel
theorem dX6_isOrder_32 : decode cX6_isOrder 32 = .ok (.istore_n 2, 1) := by decide +kernel
theorem dX6_isOrder_33 : decode cX6_isOrder 33 = .ok (.iload_n 3, 1) := by decide +kernel
theorem dX6_isOrder_34 : decode cX6_isOrder 34 = .ok (.iload_n 1, 1) := by decide +kernel
theorem dX6_isOrder_35 : decode cX6_isOrder 35 = .ok (.ifCond .ge 7, 3) := by decide +kernel
theorem dX6_isOrder_38 : decode cX6_isOrder 38 = .ok (.iconst 0, 1) := by decide +kernel
theorem dX6_isOrder_39 : decode cX6_isOrder 39 = .ok (.goto 12, 3) := by decide +kernel
theorem dX6_isOrder_42 : decode cX6_isOrder 42 = .ok (.iconst 1, 1) := by decide +kernel
theorem dX6_isOrder_43 : decode cX6_isOrder 43 = .ok (.aload_n 0, 1) := by decide +kernel
theorem dX6_isOrder_44 : decode cX6_isOrder 44 = .ok (.getfield 58, 3) := by decide +kernel
theorem dX6_isOrder_47 : decode cX6_isOrder 47 = .ok (.iload 4, 2) := by decide +kernel
theorem dX6_isOrder_49 : decode cX6_isOrder 49 = .ok (.iaload, 1) := by decide +kernel
theorem dX6_isOrder_50 : decode cX6_isOrder 50 = .ok (.ishl, 1) := by decide +kernel
theorem dX6_isOrder_51 : decode cX6_isOrder 51 = .ok (.ior, 1) := by decide +kernel
theorem dX6_isOrder_52 : decode cX6_isOrder 52 = .ok (.istore_n 3, 1) := by decide +kernel
theorem dX6_isOrder_53 : decode cX6_isOrder 53 = .ok (.iinc 4 (-1), 3) := by decide +kernel
theorem dX6_isOrder_56 : decode cX6_isOrder 56 = .ok (.goto (-44), 3) := by decide +kernel
theorem dX6_isOrder_59 : decode cX6_isOrder 59 = .ok (.aload_n 0, 1) := by decide +kernel
theorem dX6_isOrder_60 : decode cX6_isOrder 60 = .ok (.getfield 73, 3) := by decide +kernel
theorem dX6_isOrder_63 : decode cX6_isOrder 63 = .ok (.ifCond .le 27, 3) := by decide +kernel
theorem dX6_isOrder_66 : decode cX6_isOrder 66 = .ok (.iload_n 1, 1) := by decide +kernel
theorem dX6_isOrder_67 : decode cX6_isOrder 67 = .ok (.ifCond .lt 23, 3) := by decide +kernel
theorem dX6_isOrder_70 : decode cX6_isOrder 70 = .ok (.iload_n 2, 1) := by decide +kernel
theorem dX6_isOrder_71 : decode cX6_isOrder 71 = .ok (.ifCond .ne 19, 3) := by decide +kernel
theorem dX6_isOrder_74 : decode cX6_isOrder 74 = .ok (.iload_n 3, 1) := by decide +kernel
theorem dX6_isOrder_75 : decode cX6_isOrder 75 = .ok (.iconst 1, 1) := by decide +kernel
theorem dX6_isOrder_76 : decode cX6_isOrder 76 = .ok (.aload_n 0, 1) := by decide +kernel
theorem dX6_isOrder_77 : decode cX6_isOrder 77 = .ok (.getfield 73, 3) := by decide +kernel
theorem dX6_isOrder_80 : decode cX6_isOrder 80 = .ok (.ishl, 1) := by decide +kernel
theorem dX6_isOrder_81 : decode cX6_isOrder 81 = .ok (.iconst 1, 1) := by decide +kernel
theorem dX6_isOrder_82 : decode cX6_isOrder 82 = .ok (.isub, 1) := by decide +kernel
theorem dX6_isOrder_83 : decode cX6_isOrder 83 = .ok (.if_icmp .ne 7, 3) := by decide +kernel
theorem dX6_isOrder_86 : decode cX6_isOrder 86 = .ok (.iconst 1, 1) := by decide +kernel
theorem dX6_isOrder_87 : decode cX6_isOrder 87 = .ok (.goto 4, 3) := by decide +kernel
theorem dX6_isOrder_90 : decode cX6_isOrder 90 = .ok (.iconst 0, 1) := by decide +kernel
theorem dX6_isOrder_91 : decode cX6_isOrder 91 = .ok (.ireturn, 1) := by decide +kernel
theorem dX6_quarrelOf_0 : decode cX6_quarrelOf 0 = .ok (.iconst 0, 1) := by decide +kernel
theorem dX6_quarrelOf_1 : decode cX6_quarrelOf 1 = .ok (.istore_n 1, 1) := by decide +kernel
theorem dX6_quarrelOf_2 : decode cX6_quarrelOf 2 = .ok (.aload_n 0, 1) := by decide +kernel
theorem dX6_quarrelOf_3 : decode cX6_quarrelOf 3 = .ok (.getfield 7, 3) := by decide +kernel
theorem dX6_quarrelOf_6 : decode cX6_quarrelOf 6 = .ok (.aload_n 0, 1) := by decide +kernel
theorem dX6_quarrelOf_7 : decode cX6_quarrelOf 7 = .ok (.getfield 58, 3) := by decide +kernel
theorem dX6_quarrelOf_10 : decode cX6_quarrelOf 10 = .ok (.iconst 0, 1) := by decide +kernel
theorem dX6_quarrelOf_11 : decode cX6_quarrelOf 11 = .ok (.iaload, 1) := by decide +kernel
theorem dX6_quarrelOf_12 : decode cX6_quarrelOf 12 = .ok (.iaload, 1) := by decide +kernel
theorem dX6_quarrelOf_13 : decode cX6_quarrelOf 13 = .ok (.istore_n 2, 1) := by decide +kernel
theorem dX6_quarrelOf_14 : decode cX6_quarrelOf 14 = .ok (.iconst 1, 1) := by decide +kernel
theorem dX6_quarrelOf_15 : decode cX6_quarrelOf 15 = .ok (.istore_n 3, 1) := by decide +kernel
theorem dX6_quarrelOf_16 : decode cX6_quarrelOf 16 = .ok (.iload_n 3, 1) := by decide +kernel
theorem dX6_quarrelOf_17 : decode cX6_quarrelOf 17 = .ok (.aload_n 0, 1) := by decide +kernel
theorem dX6_quarrelOf_18 : decode cX6_quarrelOf 18 = .ok (.getfield 73, 3) := by decide +kernel
theorem dX6_quarrelOf_21 : decode cX6_quarrelOf 21 = .ok (.if_icmp .ge 103, 3) := by decide +kernel
theorem dX6_quarrelOf_24 : decode cX6_quarrelOf 24 = .ok (.aload_n 0, 1) := by decide +kernel
theorem dX6_quarrelOf_25 : decode cX6_quarrelOf 25 = .ok (.getfield 7, 3) := by decide +kernel
theorem dX6_quarrelOf_28 : decode cX6_quarrelOf 28 = .ok (.aload_n 0, 1) := by decide +kernel
theorem dX6_quarrelOf_29 : decode cX6_quarrelOf 29 = .ok (.getfield 58, 3) := by decide +kernel
theorem dX6_quarrelOf_32 : decode cX6_quarrelOf 32 = .ok (.iload_n 3, 1) := by decide +kernel
theorem dX6_quarrelOf_33 : decode cX6_quarrelOf 33 = .ok (.iconst 1, 1) := by decide +kernel
theorem dX6_quarrelOf_34 : decode cX6_quarrelOf 34 = .ok (.isub, 1) := by decide +kernel
theorem dX6_quarrelOf_35 : decode cX6_quarrelOf 35 = .ok (.iaload, 1) := by decide +kernel
theorem dX6_quarrelOf_36 : decode cX6_quarrelOf 36 = .ok (.iaload, 1) := by decide +kernel
theorem dX6_quarrelOf_37 : decode cX6_quarrelOf 37 = .ok (.istore 4, 2) := by decide +kernel
theorem dX6_quarrelOf_39 : decode cX6_quarrelOf 39 = .ok (.aload_n 0, 1) := by decide +kernel
theorem dX6_quarrelOf_40 : decode cX6_quarrelOf 40 = .ok (.getfield 7, 3) := by decide +kernel
theorem dX6_quarrelOf_43 : decode cX6_quarrelOf 43 = .ok (.aload_n 0, 1) := by decide +kernel
theorem dX6_quarrelOf_44 : decode cX6_quarrelOf 44 = .ok (.getfield 58, 3) := by decide +kernel
theorem dX6_quarrelOf_47 : decode cX6_quarrelOf 47 = .ok (.iload_n 3, 1) := by decide +kernel
theorem dX6_quarrelOf_48 : decode cX6_quarrelOf 48 = .ok (.iaload, 1) := by decide +kernel
theorem dX6_quarrelOf_49 : decode cX6_quarrelOf 49 = .ok (.iaload, 1) := by decide +kernel
theorem dX6_quarrelOf_50 : decode cX6_quarrelOf 50 = .ok (.istore 5, 2) := by decide +kernel
theorem dX6_quarrelOf_52 : decode cX6_quarrelOf 52 = .ok (.iload 5, 2) := by decide +kernel
theorem dX6_quarrelOf_54 : decode cX6_quarrelOf 54 = .ok (.iload 4, 2) := by decide +kernel
theorem dX6_quarrelOf_56 : decode cX6_quarrelOf 56 = .ok (.iconst (-1), 1) := by decide +kernel
theorem dX6_quarrelOf_57 : decode cX6_quarrelOf 57 = .ok (.ixor, 1) := by decide +kernel
theorem dX6_quarrelOf_58 : decode cX6_quarrelOf 58 = .ok (.iand, 1) := by decide +kernel
theorem dX6_quarrelOf_59 : decode cX6_quarrelOf 59 = .ok (.istore 6, 2) := by decide +kernel
theorem dX6_quarrelOf_61 : decode cX6_quarrelOf 61 = .ok (.iload_n 1, 1) := by decide +kernel
theorem dX6_quarrelOf_62 : decode cX6_quarrelOf 62 = .ok (.aload_n 0, 1) := by decide +kernel
theorem dX6_quarrelOf_63 : decode cX6_quarrelOf 63 = .ok (.getfield 19, 3) := by decide +kernel
theorem dX6_quarrelOf_66 : decode cX6_quarrelOf 66 = .ok (.iconst 0, 1) := by decide +kernel
theorem dX6_quarrelOf_67 : decode cX6_quarrelOf 67 = .ok (.iaload, 1) := by decide +kernel
theorem dX6_quarrelOf_68 : decode cX6_quarrelOf 68 = .ok (.iload 6, 2) := by decide +kernel
theorem dX6_quarrelOf_70 : decode cX6_quarrelOf 70 = .ok (.iload_n 2, 1) := by decide +kernel
theorem dX6_quarrelOf_71 : decode cX6_quarrelOf 71 = .ok (.iconst (-1), 1) := by decide +kernel
theorem dX6_quarrelOf_72 : decode cX6_quarrelOf 72 = .ok (.ixor, 1) := by decide +kernel
theorem dX6_quarrelOf_73 : decode cX6_quarrelOf 73 = .ok (.iand, 1) := by decide +kernel
theorem dX6_quarrelOf_74 : decode cX6_quarrelOf 74 = .ok (.invokestatic 76, 3) := by decide +kernel
theorem dX6_quarrelOf_77 : decode cX6_quarrelOf 77 = .ok (.imul, 1) := by decide +kernel
theorem dX6_quarrelOf_78 : decode cX6_quarrelOf 78 = .ok (.aload_n 0, 1) := by decide +kernel
theorem dX6_quarrelOf_79 : decode cX6_quarrelOf 79 = .ok (.getfield 19, 3) := by decide +kernel
theorem dX6_quarrelOf_82 : decode cX6_quarrelOf 82 = .ok (.iconst 2, 1) := by decide +kernel
theorem dX6_quarrelOf_83 : decode cX6_quarrelOf 83 = .ok (.iaload, 1) := by decide +kernel
theorem dX6_quarrelOf_84 : decode cX6_quarrelOf 84 = .ok (.iload 6, 2) := by decide +kernel
theorem dX6_quarrelOf_86 : decode cX6_quarrelOf 86 = .ok (.iload_n 2, 1) := by decide +kernel
theorem dX6_quarrelOf_87 : decode cX6_quarrelOf 87 = .ok (.iand, 1) := by decide +kernel
theorem dX6_quarrelOf_88 : decode cX6_quarrelOf 88 = .ok (.invokestatic 76, 3) := by decide +kernel
theorem dX6_quarrelOf_91 : decode cX6_quarrelOf 91 = .ok (.imul, 1) := by decide +kernel
theorem dX6_quarrelOf_92 : decode cX6_quarrelOf 92 = .ok (.iadd, 1) := by decide +kernel
theorem dX6_quarrelOf_93 : decode cX6_quarrelOf 93 = .ok (.aload_n 0, 1) := by decide +kernel
theorem dX6_quarrelOf_94 : decode cX6_quarrelOf 94 = .ok (.getfield 19, 3) := by decide +kernel
theorem dX6_quarrelOf_97 : decode cX6_quarrelOf 97 = .ok (.iconst 1, 1) := by decide +kernel
theorem dX6_quarrelOf_98 : decode cX6_quarrelOf 98 = .ok (.iaload, 1) := by decide +kernel
theorem dX6_quarrelOf_99 : decode cX6_quarrelOf 99 = .ok (.iload 4, 2) := by decide +kernel
theorem dX6_quarrelOf_101 : decode cX6_quarrelOf 101 = .ok (.iload 5, 2) := by decide +kernel
theorem dX6_quarrelOf_103 : decode cX6_quarrelOf 103 = .ok (.iconst (-1), 1) := by decide +kernel
theorem dX6_quarrelOf_104 : decode cX6_quarrelOf 104 = .ok (.ixor, 1) := by decide +kernel
theorem dX6_quarrelOf_105 : decode cX6_quarrelOf 105 = .ok (.iand, 1) := by decide +kernel
theorem dX6_quarrelOf_106 : decode cX6_quarrelOf 106 = .ok (.invokestatic 76, 3) := by decide +kernel
theorem dX6_quarrelOf_109 : decode cX6_quarrelOf 109 = .ok (.imul, 1) := by decide +kernel
theorem dX6_quarrelOf_110 : decode cX6_quarrelOf 110 = .ok (.iadd, 1) := by decide +kernel
theorem dX6_quarrelOf_111 : decode cX6_quarrelOf 111 = .ok (.iadd, 1) := by decide +kernel
theorem dX6_quarrelOf_112 : decode cX6_quarrelOf 112 = .ok (.istore_n 1, 1) := by decide +kernel
theorem dX6_quarrelOf_113 : decode cX6_quarrelOf 113 = .ok (.iload_n 2, 1) := by decide +kernel
theorem dX6_quarrelOf_114 : decode cX6_quarrelOf 114 = .ok (.iload 5, 2) := by decide +kernel
theorem dX6_quarrelOf_116 : decode cX6_quarrelOf 116 = .ok (.ior, 1) := by decide +kernel
theorem dX6_quarrelOf_117 : decode cX6_quarrelOf 117 = .ok (.istore_n 2, 1) := by decide +kernel
theorem dX6_quarrelOf_118 : decode cX6_quarrelOf 118 = .ok (.iinc 3 1, 3) := by decide +kernel
theorem dX6_quarrelOf_121 : decode cX6_quarrelOf 121 = .ok (.goto (-105), 3) := by decide +kernel
theorem dX6_quarrelOf_124 : decode cX6_quarrelOf 124 = .ok (.iload_n 1, 1) := by decide +kernel
theorem dX6_quarrelOf_125 : decode cX6_quarrelOf 125 = .ok (.ireturn, 1) := by decide +kernel
theorem dX6_quarrel_0 : decode cX6_quarrel 0 = .ok (.aload_n 0, 1) := by decide +kernel
theorem dX6_quarrel_1 : decode cX6_quarrel 1 = .ok (.iconst 0, 1) := by decide +kernel
theorem dX6_quarrel_2 : decode cX6_quarrel 2 = .ok (.putfield 61, 3) := by decide +kernel
theorem dX6_quarrel_5 : decode cX6_quarrel 5 = .ok (.aload_n 0, 1) := by decide +kernel
theorem dX6_quarrel_6 : decode cX6_quarrel 6 = .ok (.iload_n 1, 1) := by decide +kernel
theorem dX6_quarrel_7 : decode cX6_quarrel 7 = .ok (.invokevirtual 80, 3) := by decide +kernel
theorem dX6_quarrel_10 : decode cX6_quarrel 10 = .ok (.ifCond .eq 10, 3) := by decide +kernel
theorem dX6_quarrel_13 : decode cX6_quarrel 13 = .ok (.aload_n 0, 1) := by decide +kernel
theorem dX6_quarrel_14 : decode cX6_quarrel 14 = .ok (.invokevirtual 84, 3) := by decide +kernel
theorem dX6_quarrel_17 : decode cX6_quarrel 17 = .ok (.goto 4, 3) := by decide +kernel
theorem dX6_quarrel_20 : decode cX6_quarrel 20 = .ok (.iconst (-1), 1) := by decide +kernel
theorem dX6_quarrel_21 : decode cX6_quarrel 21 = .ok (.ireturn, 1) := by decide +kernel
theorem dX6_best_0 : decode cX6_best 0 = .ok (.aload_n 0, 1) := by decide +kernel
theorem dX6_best_1 : decode cX6_best 1 = .ok (.iconst 0, 1) := by decide +kernel
theorem dX6_best_2 : decode cX6_best 2 = .ok (.putfield 61, 3) := by decide +kernel
theorem dX6_best_5 : decode cX6_best 5 = .ok (.iload_n 1, 1) := by decide +kernel
theorem dX6_best_6 : decode cX6_best 6 = .ok (.iconst 0, 1) := by decide +kernel
theorem dX6_best_7 : decode cX6_best 7 = .ok (.iconst 1, 1) := by decide +kernel
theorem dX6_best_8 : decode cX6_best 8 = .ok (.invokestatic 65, 3) := by decide +kernel
theorem dX6_best_11 : decode cX6_best 11 = .ok (.ifCond .ne 5, 3) := by decide +kernel
theorem dX6_best_14 : decode cX6_best 14 = .ok (.iconst (-1), 1) := by decide +kernel
theorem dX6_best_15 : decode cX6_best 15 = .ok (.ireturn, 1) := by decide +kernel
theorem dX6_best_16 : decode cX6_best 16 = .ok (.aload_n 0, 1) := by decide +kernel
theorem dX6_best_17 : decode cX6_best 17 = .ok (.getfield 73, 3) := by decide +kernel
theorem dX6_best_20 : decode cX6_best 20 = .ok (.ifCond .ne 6, 3) := by decide +kernel
theorem dX6_best_23 : decode cX6_best 23 = .ok (.bipush (-2), 2) := by decide +kernel
theorem dX6_best_25 : decode cX6_best 25 = .ok (.ireturn, 1) := by decide +kernel
theorem dX6_best_26 : decode cX6_best 26 = .ok (.iconst 1, 1) := by decide +kernel
theorem dX6_best_27 : decode cX6_best 27 = .ok (.istore_n 2, 1) := by decide +kernel
theorem dX6_best_28 : decode cX6_best 28 = .ok (.iconst 0, 1) := by decide +kernel
theorem dX6_best_29 : decode cX6_best 29 = .ok (.istore_n 3, 1) := by decide +kernel
theorem dX6_best_30 : decode cX6_best 30 = .ok (.iload_n 3, 1) := by decide +kernel
theorem dX6_best_31 : decode cX6_best 31 = .ok (.aload_n 0, 1) := by decide +kernel
theorem dX6_best_32 : decode cX6_best 32 = .ok (.getfield 73, 3) := by decide +kernel
theorem dX6_best_35 : decode cX6_best 35 = .ok (.if_icmp .ge 14, 3) := by decide +kernel
theorem dX6_best_38 : decode cX6_best 38 = .ok (.iload_n 2, 1) := by decide +kernel
theorem dX6_best_39 : decode cX6_best 39 = .ok (.bipush 6, 2) := by decide +kernel
theorem dX6_best_41 : decode cX6_best 41 = .ok (.imul, 1) := by decide +kernel
theorem dX6_best_42 : decode cX6_best 42 = .ok (.istore_n 2, 1) := by decide +kernel
theorem dX6_best_43 : decode cX6_best 43 = .ok (.iinc 3 1, 3) := by decide +kernel
theorem dX6_best_46 : decode cX6_best 46 = .ok (.goto (-16), 3) := by decide +kernel
theorem dX6_best_49 : decode cX6_best 49 = .ok (.bipush (-9), 2) := by decide +kernel
theorem dX6_best_51 : decode cX6_best 51 = .ok (.istore_n 3, 1) := by decide +kernel
theorem dX6_best_52 : decode cX6_best 52 = .ok (.iconst 0, 1) := by decide +kernel
theorem dX6_best_53 : decode cX6_best 53 = .ok (.istore 4, 2) := by decide +kernel
theorem dX6_best_55 : decode cX6_best 55 = .ok (.iconst 0, 1) := by decide +kernel
theorem dX6_best_56 : decode cX6_best 56 = .ok (.istore 5, 2) := by decide +kernel
theorem dX6_best_58 : decode cX6_best 58 = .ok (.iload 5, 2) := by decide +kernel
theorem dX6_best_60 : decode cX6_best 60 = .ok (.iload_n 2, 1) := by decide +kernel
theorem dX6_best_61 : decode cX6_best 61 = .ok (.if_icmp .ge 44, 3) := by decide +kernel
theorem dX6_best_64 : decode cX6_best 64 = .ok (.aload_n 0, 1) := by decide +kernel
theorem dX6_best_65 : decode cX6_best 65 = .ok (.iload 5, 2) := by decide +kernel
theorem dX6_best_67 : decode cX6_best 67 = .ok (.invokevirtual 80, 3) := by decide +kernel
theorem dX6_best_70 : decode cX6_best 70 = .ok (.ifCond .eq 29, 3) := by decide +kernel
theorem dX6_best_73 : decode cX6_best 73 = .ok (.aload_n 0, 1) := by decide +kernel
theorem dX6_best_74 : decode cX6_best 74 = .ok (.invokevirtual 84, 3) := by decide +kernel
theorem dX6_best_77 : decode cX6_best 77 = .ok (.istore 6, 2) := by decide +kernel
theorem dX6_best_79 : decode cX6_best 79 = .ok (.iload_n 3, 1) := by decide +kernel
theorem dX6_best_80 : decode cX6_best 80 = .ok (.bipush (-9), 2) := by decide +kernel
theorem dX6_best_82 : decode cX6_best 82 = .ok (.if_icmp .eq 10, 3) := by decide +kernel
theorem dX6_best_85 : decode cX6_best 85 = .ok (.iload 6, 2) := by decide +kernel
theorem dX6_best_87 : decode cX6_best 87 = .ok (.iload 4, 2) := by decide +kernel
theorem dX6_best_89 : decode cX6_best 89 = .ok (.if_icmp .ge 10, 3) := by decide +kernel
theorem dX6_best_92 : decode cX6_best 92 = .ok (.iload 5, 2) := by decide +kernel
theorem dX6_best_94 : decode cX6_best 94 = .ok (.istore_n 3, 1) := by decide +kernel
theorem dX6_best_95 : decode cX6_best 95 = .ok (.iload 6, 2) := by decide +kernel
theorem dX6_best_97 : decode cX6_best 97 = .ok (.istore 4, 2) := by decide +kernel
theorem dX6_best_99 : decode cX6_best 99 = .ok (.iinc 5 1, 3) := by decide +kernel
theorem dX6_best_102 : decode cX6_best 102 = .ok (.goto (-44), 3) := by decide +kernel
theorem dX6_best_105 : decode cX6_best 105 = .ok (.iload_n 1, 1) := by decide +kernel
theorem dX6_best_106 : decode cX6_best 106 = .ok (.ifCond .ne 7, 3) := by decide +kernel
theorem dX6_best_109 : decode cX6_best 109 = .ok (.iload_n 3, 1) := by decide +kernel
theorem dX6_best_110 : decode cX6_best 110 = .ok (.goto 5, 3) := by decide +kernel
theorem dX6_best_113 : decode cX6_best 113 = .ok (.iload 4, 2) := by decide +kernel
theorem dX6_best_115 : decode cX6_best 115 = .ok (.ireturn, 1) := by decide +kernel
theorem dX6_isLeaf_0 : decode cX6_isLeaf 0 = .ok (.iload_n 1, 1) := by decide +kernel
theorem dX6_isLeaf_1 : decode cX6_isLeaf 1 = .ok (.iconst 0, 1) := by decide +kernel
theorem dX6_isLeaf_2 : decode cX6_isLeaf 2 = .ok (.aload_n 0, 1) := by decide +kernel
theorem dX6_isLeaf_3 : decode cX6_isLeaf 3 = .ok (.getfield 88, 3) := by decide +kernel
theorem dX6_isLeaf_6 : decode cX6_isLeaf 6 = .ok (.iconst 1, 1) := by decide +kernel
theorem dX6_isLeaf_7 : decode cX6_isLeaf 7 = .ok (.isub, 1) := by decide +kernel
theorem dX6_isLeaf_8 : decode cX6_isLeaf 8 = .ok (.invokestatic 65, 3) := by decide +kernel
theorem dX6_isLeaf_11 : decode cX6_isLeaf 11 = .ok (.ireturn, 1) := by decide +kernel
theorem dX6_leaf_0 : decode cX6_leaf 0 = .ok (.aload_n 0, 1) := by decide +kernel
theorem dX6_leaf_1 : decode cX6_leaf 1 = .ok (.iconst 0, 1) := by decide +kernel
theorem dX6_leaf_2 : decode cX6_leaf 2 = .ok (.putfield 61, 3) := by decide +kernel
theorem dX6_leaf_5 : decode cX6_leaf 5 = .ok (.iload_n 1, 1) := by decide +kernel
theorem dX6_leaf_6 : decode cX6_leaf 6 = .ok (.iconst 0, 1) := by decide +kernel
theorem dX6_leaf_7 : decode cX6_leaf 7 = .ok (.sipush 4095, 3) := by decide +kernel
theorem dX6_leaf_10 : decode cX6_leaf 10 = .ok (.invokestatic 65, 3) := by decide +kernel
theorem dX6_leaf_13 : decode cX6_leaf 13 = .ok (.ifCond .eq 41, 3) := by decide +kernel
theorem dX6_leaf_16 : decode cX6_leaf 16 = .ok (.iload_n 2, 1) := by decide +kernel
theorem dX6_leaf_17 : decode cX6_leaf 17 = .ok (.iconst 0, 1) := by decide +kernel
theorem dX6_leaf_18 : decode cX6_leaf 18 = .ok (.sipush 4095, 3) := by decide +kernel
theorem dX6_leaf_21 : decode cX6_leaf 21 = .ok (.invokestatic 65, 3) := by decide +kernel
theorem dX6_leaf_24 : decode cX6_leaf 24 = .ok (.ifCond .eq 30, 3) := by decide +kernel
theorem dX6_leaf_27 : decode cX6_leaf 27 = .ok (.iload_n 1, 1) := by decide +kernel
theorem dX6_leaf_28 : decode cX6_leaf 28 = .ok (.iload_n 2, 1) := by decide +kernel
theorem dX6_leaf_29 : decode cX6_leaf 29 = .ok (.iand, 1) := by decide +kernel
theorem dX6_leaf_30 : decode cX6_leaf 30 = .ok (.ifCond .ne 24, 3) := by decide +kernel
theorem dX6_leaf_33 : decode cX6_leaf 33 = .ok (.iload_n 3, 1) := by decide +kernel
theorem dX6_leaf_34 : decode cX6_leaf 34 = .ok (.iconst 0, 1) := by decide +kernel
theorem dX6_leaf_35 : decode cX6_leaf 35 = .ok (.sipush 1000, 3) := by decide +kernel
theorem dX6_leaf_38 : decode cX6_leaf 38 = .ok (.invokestatic 65, 3) := by decide +kernel
theorem dX6_leaf_41 : decode cX6_leaf 41 = .ok (.ifCond .eq 13, 3) := by decide +kernel
theorem dX6_leaf_44 : decode cX6_leaf 44 = .ok (.iload 4, 2) := by decide +kernel
theorem dX6_leaf_46 : decode cX6_leaf 46 = .ok (.iconst 0, 1) := by decide +kernel
theorem dX6_leaf_47 : decode cX6_leaf 47 = .ok (.iconst 2, 1) := by decide +kernel
theorem dX6_leaf_48 : decode cX6_leaf 48 = .ok (.invokestatic 65, 3) := by decide +kernel
theorem dX6_leaf_51 : decode cX6_leaf 51 = .ok (.ifCond .ne 5, 3) := by decide +kernel
theorem dX6_leaf_54 : decode cX6_leaf 54 = .ok (.iconst (-1), 1) := by decide +kernel
theorem dX6_leaf_55 : decode cX6_leaf 55 = .ok (.ireturn, 1) := by decide +kernel
theorem dX6_leaf_56 : decode cX6_leaf 56 = .ok (.aload_n 0, 1) := by decide +kernel
theorem dX6_leaf_57 : decode cX6_leaf 57 = .ok (.getfield 88, 3) := by decide +kernel
theorem dX6_leaf_60 : decode cX6_leaf 60 = .ok (.bipush 20, 2) := by decide +kernel
theorem dX6_leaf_62 : decode cX6_leaf 62 = .ok (.if_icmp .ne 6, 3) := by decide +kernel
theorem dX6_leaf_65 : decode cX6_leaf 65 = .ok (.bipush (-3), 2) := by decide +kernel
theorem dX6_leaf_67 : decode cX6_leaf 67 = .ok (.ireturn, 1) := by decide +kernel
theorem dX6_leaf_68 : decode cX6_leaf 68 = .ok (.aload_n 0, 1) := by decide +kernel
theorem dX6_leaf_69 : decode cX6_leaf 69 = .ok (.getfield 22, 3) := by decide +kernel
theorem dX6_leaf_72 : decode cX6_leaf 72 = .ok (.aload_n 0, 1) := by decide +kernel
theorem dX6_leaf_73 : decode cX6_leaf 73 = .ok (.getfield 88, 3) := by decide +kernel
theorem dX6_leaf_76 : decode cX6_leaf 76 = .ok (.iload_n 1, 1) := by decide +kernel
theorem dX6_leaf_77 : decode cX6_leaf 77 = .ok (.iastore, 1) := by decide +kernel
theorem dX6_leaf_78 : decode cX6_leaf 78 = .ok (.aload_n 0, 1) := by decide +kernel
theorem dX6_leaf_79 : decode cX6_leaf 79 = .ok (.getfield 25, 3) := by decide +kernel
theorem dX6_leaf_82 : decode cX6_leaf 82 = .ok (.aload_n 0, 1) := by decide +kernel
theorem dX6_leaf_83 : decode cX6_leaf 83 = .ok (.getfield 88, 3) := by decide +kernel
theorem dX6_leaf_86 : decode cX6_leaf 86 = .ok (.iload_n 2, 1) := by decide +kernel
theorem dX6_leaf_87 : decode cX6_leaf 87 = .ok (.iastore, 1) := by decide +kernel
theorem dX6_leaf_88 : decode cX6_leaf 88 = .ok (.aload_n 0, 1) := by decide +kernel
theorem dX6_leaf_89 : decode cX6_leaf 89 = .ok (.getfield 28, 3) := by decide +kernel
theorem dX6_leaf_92 : decode cX6_leaf 92 = .ok (.aload_n 0, 1) := by decide +kernel
theorem dX6_leaf_93 : decode cX6_leaf 93 = .ok (.getfield 88, 3) := by decide +kernel
theorem dX6_leaf_96 : decode cX6_leaf 96 = .ok (.iload_n 3, 1) := by decide +kernel
theorem dX6_leaf_97 : decode cX6_leaf 97 = .ok (.iastore, 1) := by decide +kernel
theorem dX6_leaf_98 : decode cX6_leaf 98 = .ok (.aload_n 0, 1) := by decide +kernel
theorem dX6_leaf_99 : decode cX6_leaf 99 = .ok (.getfield 31, 3) := by decide +kernel
theorem dX6_leaf_102 : decode cX6_leaf 102 = .ok (.aload_n 0, 1) := by decide +kernel
theorem dX6_leaf_103 : decode cX6_leaf 103 = .ok (.getfield 88, 3) := by decide +kernel
theorem dX6_leaf_106 : decode cX6_leaf 106 = .ok (.iload 4, 2) := by decide +kernel
theorem dX6_leaf_108 : decode cX6_leaf 108 = .ok (.iastore, 1) := by decide +kernel
theorem dX6_leaf_109 : decode cX6_leaf 109 = .ok (.aload_n 0, 1) := by decide +kernel
theorem dX6_leaf_110 : decode cX6_leaf 110 = .ok (.getfield 34, 3) := by decide +kernel
theorem dX6_leaf_113 : decode cX6_leaf 113 = .ok (.aload_n 0, 1) := by decide +kernel
theorem dX6_leaf_114 : decode cX6_leaf 114 = .ok (.getfield 88, 3) := by decide +kernel
theorem dX6_leaf_117 : decode cX6_leaf 117 = .ok (.bipush (-9), 2) := by decide +kernel
theorem dX6_leaf_119 : decode cX6_leaf 119 = .ok (.iastore, 1) := by decide +kernel
theorem dX6_leaf_120 : decode cX6_leaf 120 = .ok (.aload_n 0, 1) := by decide +kernel
theorem dX6_leaf_121 : decode cX6_leaf 121 = .ok (.getfield 37, 3) := by decide +kernel
theorem dX6_leaf_124 : decode cX6_leaf 124 = .ok (.aload_n 0, 1) := by decide +kernel
theorem dX6_leaf_125 : decode cX6_leaf 125 = .ok (.getfield 88, 3) := by decide +kernel
theorem dX6_leaf_128 : decode cX6_leaf 128 = .ok (.bipush (-9), 2) := by decide +kernel
theorem dX6_leaf_130 : decode cX6_leaf 130 = .ok (.iastore, 1) := by decide +kernel
theorem dX6_leaf_131 : decode cX6_leaf 131 = .ok (.aload_n 0, 1) := by decide +kernel
theorem dX6_leaf_132 : decode cX6_leaf 132 = .ok (.dup, 1) := by decide +kernel
theorem dX6_leaf_133 : decode cX6_leaf 133 = .ok (.getfield 88, 3) := by decide +kernel
theorem dX6_leaf_136 : decode cX6_leaf 136 = .ok (.iconst 1, 1) := by decide +kernel
theorem dX6_leaf_137 : decode cX6_leaf 137 = .ok (.iadd, 1) := by decide +kernel
theorem dX6_leaf_138 : decode cX6_leaf 138 = .ok (.putfield 88, 3) := by decide +kernel
theorem dX6_leaf_141 : decode cX6_leaf 141 = .ok (.aload_n 0, 1) := by decide +kernel
theorem dX6_leaf_142 : decode cX6_leaf 142 = .ok (.getfield 88, 3) := by decide +kernel
theorem dX6_leaf_145 : decode cX6_leaf 145 = .ok (.iconst 1, 1) := by decide +kernel
theorem dX6_leaf_146 : decode cX6_leaf 146 = .ok (.isub, 1) := by decide +kernel
theorem dX6_leaf_147 : decode cX6_leaf 147 = .ok (.ireturn, 1) := by decide +kernel
theorem dX6_see_0 : decode cX6_see 0 = .ok (.aload_n 0, 1) := by decide +kernel
theorem dX6_see_1 : decode cX6_see 1 = .ok (.iconst 0, 1) := by decide +kernel
theorem dX6_see_2 : decode cX6_see 2 = .ok (.putfield 61, 3) := by decide +kernel
theorem dX6_see_5 : decode cX6_see 5 = .ok (.aload_n 0, 1) := by decide +kernel
theorem dX6_see_6 : decode cX6_see 6 = .ok (.iload_n 1, 1) := by decide +kernel
theorem dX6_see_7 : decode cX6_see 7 = .ok (.invokevirtual 91, 3) := by decide +kernel
theorem dX6_see_10 : decode cX6_see 10 = .ok (.ifCond .eq 22, 3) := by decide +kernel
theorem dX6_see_13 : decode cX6_see 13 = .ok (.iload_n 2, 1) := by decide +kernel
theorem dX6_see_14 : decode cX6_see 14 = .ok (.iconst 0, 1) := by decide +kernel
theorem dX6_see_15 : decode cX6_see 15 = .ok (.bipush 11, 2) := by decide +kernel
theorem dX6_see_17 : decode cX6_see 17 = .ok (.invokestatic 65, 3) := by decide +kernel
theorem dX6_see_20 : decode cX6_see 20 = .ok (.ifCond .eq 12, 3) := by decide +kernel
theorem dX6_see_23 : decode cX6_see 23 = .ok (.iload_n 3, 1) := by decide +kernel
theorem dX6_see_24 : decode cX6_see 24 = .ok (.iconst 0, 1) := by decide +kernel
theorem dX6_see_25 : decode cX6_see 25 = .ok (.iconst 2, 1) := by decide +kernel
theorem dX6_see_26 : decode cX6_see 26 = .ok (.invokestatic 65, 3) := by decide +kernel
theorem dX6_see_29 : decode cX6_see 29 = .ok (.ifCond .ne 5, 3) := by decide +kernel
theorem dX6_see_32 : decode cX6_see 32 = .ok (.iconst (-1), 1) := by decide +kernel
theorem dX6_see_33 : decode cX6_see 33 = .ok (.ireturn, 1) := by decide +kernel
theorem dX6_see_34 : decode cX6_see 34 = .ok (.aload_n 0, 1) := by decide +kernel
theorem dX6_see_35 : decode cX6_see 35 = .ok (.getfield 22, 3) := by decide +kernel
theorem dX6_see_38 : decode cX6_see 38 = .ok (.iload_n 1, 1) := by decide +kernel
theorem dX6_see_39 : decode cX6_see 39 = .ok (.iaload, 1) := by decide +kernel
theorem dX6_see_40 : decode cX6_see 40 = .ok (.iload_n 2, 1) := by decide +kernel
theorem dX6_see_41 : decode cX6_see 41 = .ok (.ishr, 1) := by decide +kernel
theorem dX6_see_42 : decode cX6_see 42 = .ok (.iconst 1, 1) := by decide +kernel
theorem dX6_see_43 : decode cX6_see 43 = .ok (.iand, 1) := by decide +kernel
theorem dX6_see_44 : decode cX6_see 44 = .ok (.iconst 2, 1) := by decide +kernel
theorem dX6_see_45 : decode cX6_see 45 = .ok (.aload_n 0, 1) := by decide +kernel
theorem dX6_see_46 : decode cX6_see 46 = .ok (.getfield 25, 3) := by decide +kernel
theorem dX6_see_49 : decode cX6_see 49 = .ok (.iload_n 1, 1) := by decide +kernel
theorem dX6_see_50 : decode cX6_see 50 = .ok (.iaload, 1) := by decide +kernel
theorem dX6_see_51 : decode cX6_see 51 = .ok (.iload_n 2, 1) := by decide +kernel
theorem dX6_see_52 : decode cX6_see 52 = .ok (.ishr, 1) := by decide +kernel
theorem dX6_see_53 : decode cX6_see 53 = .ok (.iconst 1, 1) := by decide +kernel
theorem dX6_see_54 : decode cX6_see 54 = .ok (.iand, 1) := by decide +kernel
theorem dX6_see_55 : decode cX6_see 55 = .ok (.imul, 1) := by decide +kernel
theorem dX6_see_56 : decode cX6_see 56 = .ok (.iadd, 1) := by decide +kernel
theorem dX6_see_57 : decode cX6_see 57 = .ok (.istore 4, 2) := by decide +kernel
theorem dX6_see_59 : decode cX6_see 59 = .ok (.aload_n 0, 1) := by decide +kernel
theorem dX6_see_60 : decode cX6_see 60 = .ok (.getfield 22, 3) := by decide +kernel
theorem dX6_see_63 : decode cX6_see 63 = .ok (.iload_n 1, 1) := by decide +kernel
theorem dX6_see_64 : decode cX6_see 64 = .ok (.aload_n 0, 1) := by decide +kernel
theorem dX6_see_65 : decode cX6_see 65 = .ok (.getfield 22, 3) := by decide +kernel
theorem dX6_see_68 : decode cX6_see 68 = .ok (.iload_n 1, 1) := by decide +kernel
theorem dX6_see_69 : decode cX6_see 69 = .ok (.iaload, 1) := by decide +kernel
theorem dX6_see_70 : decode cX6_see 70 = .ok (.iconst 1, 1) := by decide +kernel
theorem dX6_see_71 : decode cX6_see 71 = .ok (.iload_n 2, 1) := by decide +kernel
theorem dX6_see_72 : decode cX6_see 72 = .ok (.ishl, 1) := by decide +kernel
theorem dX6_see_73 : decode cX6_see 73 = .ok (.iconst (-1), 1) := by decide +kernel
theorem dX6_see_74 : decode cX6_see 74 = .ok (.ixor, 1) := by decide +kernel
theorem dX6_see_75 : decode cX6_see 75 = .ok (.iand, 1) := by decide +kernel
theorem dX6_see_76 : decode cX6_see 76 = .ok (.iload_n 3, 1) := by decide +kernel
theorem dX6_see_77 : decode cX6_see 77 = .ok (.iconst 1, 1) := by decide +kernel
theorem dX6_see_78 : decode cX6_see 78 = .ok (.if_icmp .ne 9, 3) := by decide +kernel
theorem dX6_see_81 : decode cX6_see 81 = .ok (.iconst 1, 1) := by decide +kernel
theorem dX6_see_82 : decode cX6_see 82 = .ok (.iload_n 2, 1) := by decide +kernel
theorem dX6_see_83 : decode cX6_see 83 = .ok (.ishl, 1) := by decide +kernel
theorem dX6_see_84 : decode cX6_see 84 = .ok (.goto 4, 3) := by decide +kernel
theorem dX6_see_87 : decode cX6_see 87 = .ok (.iconst 0, 1) := by decide +kernel
theorem dX6_see_88 : decode cX6_see 88 = .ok (.ior, 1) := by decide +kernel
theorem dX6_see_89 : decode cX6_see 89 = .ok (.iastore, 1) := by decide +kernel
theorem dX6_see_90 : decode cX6_see 90 = .ok (.aload_n 0, 1) := by decide +kernel
theorem dX6_see_91 : decode cX6_see 91 = .ok (.getfield 25, 3) := by decide +kernel
theorem dX6_see_94 : decode cX6_see 94 = .ok (.iload_n 1, 1) := by decide +kernel
theorem dX6_see_95 : decode cX6_see 95 = .ok (.aload_n 0, 1) := by decide +kernel
theorem dX6_see_96 : decode cX6_see 96 = .ok (.getfield 25, 3) := by decide +kernel
theorem dX6_see_99 : decode cX6_see 99 = .ok (.iload_n 1, 1) := by decide +kernel
theorem dX6_see_100 : decode cX6_see 100 = .ok (.iaload, 1) := by decide +kernel
theorem dX6_see_101 : decode cX6_see 101 = .ok (.iconst 1, 1) := by decide +kernel
theorem dX6_see_102 : decode cX6_see 102 = .ok (.iload_n 2, 1) := by decide +kernel
theorem dX6_see_103 : decode cX6_see 103 = .ok (.ishl, 1) := by decide +kernel
theorem dX6_see_104 : decode cX6_see 104 = .ok (.iconst (-1), 1) := by decide +kernel
theorem dX6_see_105 : decode cX6_see 105 = .ok (.ixor, 1) := by decide +kernel
theorem dX6_see_106 : decode cX6_see 106 = .ok (.iand, 1) := by decide +kernel
theorem dX6_see_107 : decode cX6_see 107 = .ok (.iload_n 3, 1) := by decide +kernel
theorem dX6_see_108 : decode cX6_see 108 = .ok (.iconst 2, 1) := by decide +kernel
theorem dX6_see_109 : decode cX6_see 109 = .ok (.if_icmp .ne 9, 3) := by decide +kernel
theorem dX6_see_112 : decode cX6_see 112 = .ok (.iconst 1, 1) := by decide +kernel
theorem dX6_see_113 : decode cX6_see 113 = .ok (.iload_n 2, 1) := by decide +kernel
theorem dX6_see_114 : decode cX6_see 114 = .ok (.ishl, 1) := by decide +kernel
theorem dX6_see_115 : decode cX6_see 115 = .ok (.goto 4, 3) := by decide +kernel
theorem dX6_see_118 : decode cX6_see 118 = .ok (.iconst 0, 1) := by decide +kernel
theorem dX6_see_119 : decode cX6_see 119 = .ok (.ior, 1) := by decide +kernel
theorem dX6_see_120 : decode cX6_see 120 = .ok (.iastore, 1) := by decide +kernel
theorem dX6_see_121 : decode cX6_see 121 = .ok (.iload 4, 2) := by decide +kernel
theorem dX6_see_123 : decode cX6_see 123 = .ok (.ireturn, 1) := by decide +kernel
theorem dX6_candidatesOf_0 : decode cX6_candidatesOf 0 = .ok (.iconst 0, 1) := by decide +kernel
theorem dX6_candidatesOf_1 : decode cX6_candidatesOf 1 = .ok (.istore_n 2, 1) := by decide +kernel
theorem dX6_candidatesOf_2 : decode cX6_candidatesOf 2 = .ok (.iconst 0, 1) := by decide +kernel
theorem dX6_candidatesOf_3 : decode cX6_candidatesOf 3 = .ok (.istore_n 3, 1) := by decide +kernel
theorem dX6_candidatesOf_4 : decode cX6_candidatesOf 4 = .ok (.iload_n 3, 1) := by decide +kernel
theorem dX6_candidatesOf_5 : decode cX6_candidatesOf 5 = .ok (.aload_n 0, 1) := by decide +kernel
theorem dX6_candidatesOf_6 : decode cX6_candidatesOf 6 = .ok (.getfield 73, 3) := by decide +kernel
theorem dX6_candidatesOf_9 : decode cX6_candidatesOf 9 = .ok (.if_icmp .ge 53, 3) := by decide +kernel
theorem dX6_candidatesOf_12 : decode cX6_candidatesOf 12 = .ok (.iload_n 2, 1) := by decide +kernel
theorem dX6_candidatesOf_13 : decode cX6_candidatesOf 13 = .ok (.aload_n 0, 1) := by decide +kernel
theorem dX6_candidatesOf_14 : decode cX6_candidatesOf 14 = .ok (.getfield 22, 3) := by decide +kernel
theorem dX6_candidatesOf_17 : decode cX6_candidatesOf 17 = .ok (.iload_n 1, 1) := by decide +kernel
theorem dX6_candidatesOf_18 : decode cX6_candidatesOf 18 = .ok (.iaload, 1) := by decide +kernel
theorem dX6_candidatesOf_19 : decode cX6_candidatesOf 19 = .ok (.aload_n 0, 1) := by decide +kernel
theorem dX6_candidatesOf_20 : decode cX6_candidatesOf 20 = .ok (.getfield 7, 3) := by decide +kernel
theorem dX6_candidatesOf_23 : decode cX6_candidatesOf 23 = .ok (.iload_n 3, 1) := by decide +kernel
theorem dX6_candidatesOf_24 : decode cX6_candidatesOf 24 = .ok (.iaload, 1) := by decide +kernel
theorem dX6_candidatesOf_25 : decode cX6_candidatesOf 25 = .ok (.iconst (-1), 1) := by decide +kernel
theorem dX6_candidatesOf_26 : decode cX6_candidatesOf 26 = .ok (.ixor, 1) := by decide +kernel
theorem dX6_candidatesOf_27 : decode cX6_candidatesOf 27 = .ok (.iand, 1) := by decide +kernel
theorem dX6_candidatesOf_28 : decode cX6_candidatesOf 28 = .ok (.ifCond .ne 25, 3) := by decide +kernel
theorem dX6_candidatesOf_31 : decode cX6_candidatesOf 31 = .ok (.aload_n 0, 1) := by decide +kernel
theorem dX6_candidatesOf_32 : decode cX6_candidatesOf 32 = .ok (.getfield 25, 3) := by decide +kernel
theorem dX6_candidatesOf_35 : decode cX6_candidatesOf 35 = .ok (.iload_n 1, 1) := by decide +kernel
theorem dX6_candidatesOf_36 : decode cX6_candidatesOf 36 = .ok (.iaload, 1) := by decide +kernel
theorem dX6_candidatesOf_37 : decode cX6_candidatesOf 37 = .ok (.aload_n 0, 1) := by decide +kernel
theorem dX6_candidatesOf_38 : decode cX6_candidatesOf 38 = .ok (.getfield 7, 3) := by decide +kernel
theorem dX6_candidatesOf_41 : decode cX6_candidatesOf 41 = .ok (.iload_n 3, 1) := by decide +kernel
theorem dX6_candidatesOf_42 : decode cX6_candidatesOf 42 = .ok (.iaload, 1) := by decide +kernel
theorem dX6_candidatesOf_43 : decode cX6_candidatesOf 43 = .ok (.iand, 1) := by decide +kernel
theorem dX6_candidatesOf_44 : decode cX6_candidatesOf 44 = .ok (.ifCond .ne 9, 3) := by decide +kernel
theorem dX6_candidatesOf_47 : decode cX6_candidatesOf 47 = .ok (.iconst 1, 1) := by decide +kernel
theorem dX6_candidatesOf_48 : decode cX6_candidatesOf 48 = .ok (.iload_n 3, 1) := by decide +kernel
theorem dX6_candidatesOf_49 : decode cX6_candidatesOf 49 = .ok (.ishl, 1) := by decide +kernel
theorem dX6_candidatesOf_50 : decode cX6_candidatesOf 50 = .ok (.goto 4, 3) := by decide +kernel
theorem dX6_candidatesOf_53 : decode cX6_candidatesOf 53 = .ok (.iconst 0, 1) := by decide +kernel
theorem dX6_candidatesOf_54 : decode cX6_candidatesOf 54 = .ok (.ior, 1) := by decide +kernel
theorem dX6_candidatesOf_55 : decode cX6_candidatesOf 55 = .ok (.istore_n 2, 1) := by decide +kernel
theorem dX6_candidatesOf_56 : decode cX6_candidatesOf 56 = .ok (.iinc 3 1, 3) := by decide +kernel
theorem dX6_candidatesOf_59 : decode cX6_candidatesOf 59 = .ok (.goto (-55), 3) := by decide +kernel
theorem dX6_candidatesOf_62 : decode cX6_candidatesOf 62 = .ok (.iload_n 2, 1) := by decide +kernel
theorem dX6_candidatesOf_63 : decode cX6_candidatesOf 63 = .ok (.ireturn, 1) := by decide +kernel
theorem dX6_candidates_0 : decode cX6_candidates 0 = .ok (.aload_n 0, 1) := by decide +kernel
theorem dX6_candidates_1 : decode cX6_candidates 1 = .ok (.iconst 0, 1) := by decide +kernel
theorem dX6_candidates_2 : decode cX6_candidates 2 = .ok (.putfield 61, 3) := by decide +kernel
theorem dX6_candidates_5 : decode cX6_candidates 5 = .ok (.aload_n 0, 1) := by decide +kernel
theorem dX6_candidates_6 : decode cX6_candidates 6 = .ok (.iload_n 1, 1) := by decide +kernel
theorem dX6_candidates_7 : decode cX6_candidates 7 = .ok (.invokevirtual 91, 3) := by decide +kernel
theorem dX6_candidates_10 : decode cX6_candidates 10 = .ok (.ifCond .eq 11, 3) := by decide +kernel
theorem dX6_candidates_13 : decode cX6_candidates 13 = .ok (.aload_n 0, 1) := by decide +kernel
theorem dX6_candidates_14 : decode cX6_candidates 14 = .ok (.iload_n 1, 1) := by decide +kernel
theorem dX6_candidates_15 : decode cX6_candidates 15 = .ok (.invokevirtual 94, 3) := by decide +kernel
theorem dX6_candidates_18 : decode cX6_candidates 18 = .ok (.goto 4, 3) := by decide +kernel
theorem dX6_candidates_21 : decode cX6_candidates 21 = .ok (.iconst (-1), 1) := by decide +kernel
theorem dX6_candidates_22 : decode cX6_candidates 22 = .ok (.ireturn, 1) := by decide +kernel
theorem dX6_mould_0 : decode cX6_mould 0 = .ok (.aload_n 0, 1) := by decide +kernel
theorem dX6_mould_1 : decode cX6_mould 1 = .ok (.iconst 0, 1) := by decide +kernel
theorem dX6_mould_2 : decode cX6_mould 2 = .ok (.putfield 61, 3) := by decide +kernel
theorem dX6_mould_5 : decode cX6_mould 5 = .ok (.iload_n 1, 1) := by decide +kernel
theorem dX6_mould_6 : decode cX6_mould 6 = .ok (.iload_n 2, 1) := by decide +kernel
theorem dX6_mould_7 : decode cX6_mould 7 = .ok (.invokestatic 69, 3) := by decide +kernel
theorem dX6_mould_10 : decode cX6_mould 10 = .ok (.ifCond .ne 5, 3) := by decide +kernel
theorem dX6_mould_13 : decode cX6_mould 13 = .ok (.iconst (-1), 1) := by decide +kernel
theorem dX6_mould_14 : decode cX6_mould 14 = .ok (.ireturn, 1) := by decide +kernel
theorem dX6_mould_15 : decode cX6_mould 15 = .ok (.aload_n 0, 1) := by decide +kernel
theorem dX6_mould_16 : decode cX6_mould 16 = .ok (.getfield 97, 3) := by decide +kernel
theorem dX6_mould_19 : decode cX6_mould 19 = .ok (.bipush 8, 2) := by decide +kernel
theorem dX6_mould_21 : decode cX6_mould 21 = .ok (.if_icmp .ne 6, 3) := by decide +kernel
theorem dX6_mould_24 : decode cX6_mould 24 = .ok (.bipush (-3), 2) := by decide +kernel
theorem dX6_mould_26 : decode cX6_mould 26 = .ok (.ireturn, 1) := by decide +kernel
theorem dX6_mould_27 : decode cX6_mould 27 = .ok (.aload_n 0, 1) := by decide +kernel
theorem dX6_mould_28 : decode cX6_mould 28 = .ok (.getfield 40, 3) := by decide +kernel
theorem dX6_mould_31 : decode cX6_mould 31 = .ok (.aload_n 0, 1) := by decide +kernel
theorem dX6_mould_32 : decode cX6_mould 32 = .ok (.getfield 97, 3) := by decide +kernel
theorem dX6_mould_35 : decode cX6_mould 35 = .ok (.iload_n 1, 1) := by decide +kernel
theorem dX6_mould_36 : decode cX6_mould 36 = .ok (.iastore, 1) := by decide +kernel
theorem dX6_mould_37 : decode cX6_mould 37 = .ok (.aload_n 0, 1) := by decide +kernel
theorem dX6_mould_38 : decode cX6_mould 38 = .ok (.getfield 43, 3) := by decide +kernel
theorem dX6_mould_41 : decode cX6_mould 41 = .ok (.aload_n 0, 1) := by decide +kernel
theorem dX6_mould_42 : decode cX6_mould 42 = .ok (.getfield 97, 3) := by decide +kernel
theorem dX6_mould_45 : decode cX6_mould 45 = .ok (.iload_n 2, 1) := by decide +kernel
theorem dX6_mould_46 : decode cX6_mould 46 = .ok (.iastore, 1) := by decide +kernel
theorem dX6_mould_47 : decode cX6_mould 47 = .ok (.aload_n 0, 1) := by decide +kernel
theorem dX6_mould_48 : decode cX6_mould 48 = .ok (.dup, 1) := by decide +kernel
theorem dX6_mould_49 : decode cX6_mould 49 = .ok (.getfield 97, 3) := by decide +kernel
theorem dX6_mould_52 : decode cX6_mould 52 = .ok (.iconst 1, 1) := by decide +kernel
theorem dX6_mould_53 : decode cX6_mould 53 = .ok (.iadd, 1) := by decide +kernel
theorem dX6_mould_54 : decode cX6_mould 54 = .ok (.putfield 97, 3) := by decide +kernel
theorem dX6_mould_57 : decode cX6_mould 57 = .ok (.aload_n 0, 1) := by decide +kernel
theorem dX6_mould_58 : decode cX6_mould 58 = .ok (.getfield 97, 3) := by decide +kernel
theorem dX6_mould_61 : decode cX6_mould 61 = .ok (.iconst 1, 1) := by decide +kernel
theorem dX6_mould_62 : decode cX6_mould 62 = .ok (.isub, 1) := by decide +kernel
theorem dX6_mould_63 : decode cX6_mould 63 = .ok (.ireturn, 1) := by decide +kernel
theorem dX6_paper_0 : decode cX6_paper 0 = .ok (.aload_n 0, 1) := by decide +kernel
theorem dX6_paper_1 : decode cX6_paper 1 = .ok (.iconst 0, 1) := by decide +kernel
theorem dX6_paper_2 : decode cX6_paper 2 = .ok (.putfield 61, 3) := by decide +kernel
theorem dX6_paper_5 : decode cX6_paper 5 = .ok (.aload_n 0, 1) := by decide +kernel
theorem dX6_paper_6 : decode cX6_paper 6 = .ok (.iload_n 1, 1) := by decide +kernel
theorem dX6_paper_7 : decode cX6_paper 7 = .ok (.invokevirtual 91, 3) := by decide +kernel
theorem dX6_paper_10 : decode cX6_paper 10 = .ok (.ifCond .eq 23, 3) := by decide +kernel
theorem dX6_paper_13 : decode cX6_paper 13 = .ok (.iload_n 2, 1) := by decide +kernel
theorem dX6_paper_14 : decode cX6_paper 14 = .ok (.bipush (-9), 2) := by decide +kernel
theorem dX6_paper_16 : decode cX6_paper 16 = .ok (.if_icmp .eq 20, 3) := by decide +kernel
theorem dX6_paper_19 : decode cX6_paper 19 = .ok (.iload_n 2, 1) := by decide +kernel
theorem dX6_paper_20 : decode cX6_paper 20 = .ok (.iconst 0, 1) := by decide +kernel
theorem dX6_paper_21 : decode cX6_paper 21 = .ok (.aload_n 0, 1) := by decide +kernel
theorem dX6_paper_22 : decode cX6_paper 22 = .ok (.getfield 97, 3) := by decide +kernel
theorem dX6_paper_25 : decode cX6_paper 25 = .ok (.iconst 1, 1) := by decide +kernel
theorem dX6_paper_26 : decode cX6_paper 26 = .ok (.isub, 1) := by decide +kernel
theorem dX6_paper_27 : decode cX6_paper 27 = .ok (.invokestatic 65, 3) := by decide +kernel
theorem dX6_paper_30 : decode cX6_paper 30 = .ok (.ifCond .ne 6, 3) := by decide +kernel
theorem dX6_paper_33 : decode cX6_paper 33 = .ok (.bipush (-2), 2) := by decide +kernel
theorem dX6_paper_35 : decode cX6_paper 35 = .ok (.ireturn, 1) := by decide +kernel
theorem dX6_paper_36 : decode cX6_paper 36 = .ok (.aload_n 0, 1) := by decide +kernel
theorem dX6_paper_37 : decode cX6_paper 37 = .ok (.getfield 34, 3) := by decide +kernel
theorem dX6_paper_40 : decode cX6_paper 40 = .ok (.iload_n 1, 1) := by decide +kernel
theorem dX6_paper_41 : decode cX6_paper 41 = .ok (.iaload, 1) := by decide +kernel
theorem dX6_paper_42 : decode cX6_paper 42 = .ok (.istore_n 3, 1) := by decide +kernel
theorem dX6_paper_43 : decode cX6_paper 43 = .ok (.aload_n 0, 1) := by decide +kernel
theorem dX6_paper_44 : decode cX6_paper 44 = .ok (.getfield 34, 3) := by decide +kernel
theorem dX6_paper_47 : decode cX6_paper 47 = .ok (.iload_n 1, 1) := by decide +kernel
theorem dX6_paper_48 : decode cX6_paper 48 = .ok (.iload_n 2, 1) := by decide +kernel
theorem dX6_paper_49 : decode cX6_paper 49 = .ok (.iastore, 1) := by decide +kernel
theorem dX6_paper_50 : decode cX6_paper 50 = .ok (.iload_n 3, 1) := by decide +kernel
theorem dX6_paper_51 : decode cX6_paper 51 = .ok (.ireturn, 1) := by decide +kernel
theorem dX6_imprint_0 : decode cX6_imprint 0 = .ok (.aload_n 0, 1) := by decide +kernel
theorem dX6_imprint_1 : decode cX6_imprint 1 = .ok (.iconst 0, 1) := by decide +kernel
theorem dX6_imprint_2 : decode cX6_imprint 2 = .ok (.putfield 61, 3) := by decide +kernel
theorem dX6_imprint_5 : decode cX6_imprint 5 = .ok (.aload_n 0, 1) := by decide +kernel
theorem dX6_imprint_6 : decode cX6_imprint 6 = .ok (.iload_n 1, 1) := by decide +kernel
theorem dX6_imprint_7 : decode cX6_imprint 7 = .ok (.invokevirtual 91, 3) := by decide +kernel
theorem dX6_imprint_10 : decode cX6_imprint 10 = .ok (.ifCond .eq 22, 3) := by decide +kernel
theorem dX6_imprint_13 : decode cX6_imprint 13 = .ok (.iload_n 2, 1) := by decide +kernel
theorem dX6_imprint_14 : decode cX6_imprint 14 = .ok (.bipush (-9), 2) := by decide +kernel
theorem dX6_imprint_16 : decode cX6_imprint 16 = .ok (.if_icmp .eq 19, 3) := by decide +kernel
theorem dX6_imprint_19 : decode cX6_imprint 19 = .ok (.iload_n 2, 1) := by decide +kernel
theorem dX6_imprint_20 : decode cX6_imprint 20 = .ok (.sipush 1500, 3) := by decide +kernel
theorem dX6_imprint_23 : decode cX6_imprint 23 = .ok (.sipush 1900, 3) := by decide +kernel
theorem dX6_imprint_26 : decode cX6_imprint 26 = .ok (.invokestatic 65, 3) := by decide +kernel
theorem dX6_imprint_29 : decode cX6_imprint 29 = .ok (.ifCond .ne 6, 3) := by decide +kernel
theorem dX6_imprint_32 : decode cX6_imprint 32 = .ok (.bipush (-2), 2) := by decide +kernel
theorem dX6_imprint_34 : decode cX6_imprint 34 = .ok (.ireturn, 1) := by decide +kernel
theorem dX6_imprint_35 : decode cX6_imprint 35 = .ok (.aload_n 0, 1) := by decide +kernel
theorem dX6_imprint_36 : decode cX6_imprint 36 = .ok (.getfield 37, 3) := by decide +kernel
theorem dX6_imprint_39 : decode cX6_imprint 39 = .ok (.iload_n 1, 1) := by decide +kernel
theorem dX6_imprint_40 : decode cX6_imprint 40 = .ok (.iaload, 1) := by decide +kernel
theorem dX6_imprint_41 : decode cX6_imprint 41 = .ok (.istore_n 3, 1) := by decide +kernel
theorem dX6_imprint_42 : decode cX6_imprint 42 = .ok (.aload_n 0, 1) := by decide +kernel
theorem dX6_imprint_43 : decode cX6_imprint 43 = .ok (.getfield 37, 3) := by decide +kernel
theorem dX6_imprint_46 : decode cX6_imprint 46 = .ok (.iload_n 1, 1) := by decide +kernel
theorem dX6_imprint_47 : decode cX6_imprint 47 = .ok (.iload_n 2, 1) := by decide +kernel
theorem dX6_imprint_48 : decode cX6_imprint 48 = .ok (.iastore, 1) := by decide +kernel
theorem dX6_imprint_49 : decode cX6_imprint 49 = .ok (.iload_n 3, 1) := by decide +kernel
theorem dX6_imprint_50 : decode cX6_imprint 50 = .ok (.ireturn, 1) := by decide +kernel
theorem dX6_span_0 : decode cX6_span 0 = .ok (.aload_n 0, 1) := by decide +kernel
theorem dX6_span_1 : decode cX6_span 1 = .ok (.iconst 0, 1) := by decide +kernel
theorem dX6_span_2 : decode cX6_span 2 = .ok (.putfield 61, 3) := by decide +kernel
theorem dX6_span_5 : decode cX6_span 5 = .ok (.aload_n 0, 1) := by decide +kernel
theorem dX6_span_6 : decode cX6_span 6 = .ok (.iload_n 1, 1) := by decide +kernel
theorem dX6_span_7 : decode cX6_span 7 = .ok (.invokevirtual 91, 3) := by decide +kernel
theorem dX6_span_10 : decode cX6_span 10 = .ok (.ifCond .eq 12, 3) := by decide +kernel
theorem dX6_span_13 : decode cX6_span 13 = .ok (.iload_n 2, 1) := by decide +kernel
theorem dX6_span_14 : decode cX6_span 14 = .ok (.iconst 0, 1) := by decide +kernel
theorem dX6_span_15 : decode cX6_span 15 = .ok (.iconst 1, 1) := by decide +kernel
theorem dX6_span_16 : decode cX6_span 16 = .ok (.invokestatic 65, 3) := by decide +kernel
theorem dX6_span_19 : decode cX6_span 19 = .ok (.ifCond .ne 5, 3) := by decide +kernel
theorem dX6_span_22 : decode cX6_span 22 = .ok (.iconst (-1), 1) := by decide +kernel
theorem dX6_span_23 : decode cX6_span 23 = .ok (.ireturn, 1) := by decide +kernel
theorem dX6_span_24 : decode cX6_span 24 = .ok (.bipush (-9), 2) := by decide +kernel
theorem dX6_span_26 : decode cX6_span 26 = .ok (.istore_n 3, 1) := by decide +kernel
theorem dX6_span_27 : decode cX6_span 27 = .ok (.bipush (-9), 2) := by decide +kernel
theorem dX6_span_29 : decode cX6_span 29 = .ok (.istore 4, 2) := by decide +kernel
theorem dX6_span_31 : decode cX6_span 31 = .ok (.sipush 1500, 3) := by decide +kernel
theorem dX6_span_34 : decode cX6_span 34 = .ok (.istore 5, 2) := by decide +kernel
theorem dX6_span_36 : decode cX6_span 36 = .ok (.iload 5, 2) := by decide +kernel
theorem dX6_span_38 : decode cX6_span 38 = .ok (.sipush 1900, 3) := by decide +kernel
theorem dX6_span_41 : decode cX6_span 41 = .ok (.if_icmp .gt 191, 3) := by decide +kernel
theorem dX6_span_44 : decode cX6_span 44 = .ok (.iconst 0, 1) := by decide +kernel
theorem dX6_span_45 : decode cX6_span 45 = .ok (.istore 6, 2) := by decide +kernel
theorem dX6_span_47 : decode cX6_span 47 = .ok (.iconst 0, 1) := by decide +kernel
theorem dX6_span_48 : decode cX6_span 48 = .ok (.istore 7, 2) := by decide +kernel
theorem dX6_span_50 : decode cX6_span 50 = .ok (.iload 7, 2) := by decide +kernel
theorem dX6_span_52 : decode cX6_span 52 = .ok (.aload_n 0, 1) := by decide +kernel
theorem dX6_span_53 : decode cX6_span 53 = .ok (.getfield 73, 3) := by decide +kernel
theorem dX6_span_56 : decode cX6_span 56 = .ok (.if_icmp .ge 55, 3) := by decide +kernel
theorem dX6_span_59 : decode cX6_span 59 = .ok (.iload 6, 2) := by decide +kernel
theorem dX6_span_61 : decode cX6_span 61 = .ok (.aload_n 0, 1) := by decide +kernel
theorem dX6_span_62 : decode cX6_span 62 = .ok (.iload_n 1, 1) := by decide +kernel
theorem dX6_span_63 : decode cX6_span 63 = .ok (.invokevirtual 94, 3) := by decide +kernel
theorem dX6_span_66 : decode cX6_span 66 = .ok (.iload 7, 2) := by decide +kernel
theorem dX6_span_68 : decode cX6_span 68 = .ok (.ishr, 1) := by decide +kernel
theorem dX6_span_69 : decode cX6_span 69 = .ok (.iconst 1, 1) := by decide +kernel
theorem dX6_span_70 : decode cX6_span 70 = .ok (.iand, 1) := by decide +kernel
theorem dX6_span_71 : decode cX6_span 71 = .ok (.iconst 1, 1) := by decide +kernel
theorem dX6_span_72 : decode cX6_span 72 = .ok (.if_icmp .ne 29, 3) := by decide +kernel
theorem dX6_span_75 : decode cX6_span 75 = .ok (.iload 5, 2) := by decide +kernel
theorem dX6_span_77 : decode cX6_span 77 = .ok (.aload_n 0, 1) := by decide +kernel
theorem dX6_span_78 : decode cX6_span 78 = .ok (.getfield 13, 3) := by decide +kernel
theorem dX6_span_81 : decode cX6_span 81 = .ok (.iload 7, 2) := by decide +kernel
theorem dX6_span_83 : decode cX6_span 83 = .ok (.iaload, 1) := by decide +kernel
theorem dX6_span_84 : decode cX6_span 84 = .ok (.aload_n 0, 1) := by decide +kernel
theorem dX6_span_85 : decode cX6_span 85 = .ok (.getfield 16, 3) := by decide +kernel
theorem dX6_span_88 : decode cX6_span 88 = .ok (.iload 7, 2) := by decide +kernel
theorem dX6_span_90 : decode cX6_span 90 = .ok (.iaload, 1) := by decide +kernel
theorem dX6_span_91 : decode cX6_span 91 = .ok (.invokestatic 65, 3) := by decide +kernel
theorem dX6_span_94 : decode cX6_span 94 = .ok (.ifCond .eq 7, 3) := by decide +kernel
theorem dX6_span_97 : decode cX6_span 97 = .ok (.iconst 1, 1) := by decide +kernel
theorem dX6_span_98 : decode cX6_span 98 = .ok (.goto 4, 3) := by decide +kernel
theorem dX6_span_101 : decode cX6_span 101 = .ok (.iconst 0, 1) := by decide +kernel
theorem dX6_span_102 : decode cX6_span 102 = .ok (.ior, 1) := by decide +kernel
theorem dX6_span_103 : decode cX6_span 103 = .ok (.istore 6, 2) := by decide +kernel
theorem dX6_span_105 : decode cX6_span 105 = .ok (.iinc 7 1, 3) := by decide +kernel
theorem dX6_span_108 : decode cX6_span 108 = .ok (.goto (-58), 3) := by decide +kernel
theorem dX6_span_111 : decode cX6_span 111 = .ok (.iload 6, 2) := by decide +kernel
theorem dX6_span_113 : decode cX6_span 113 = .ok (.aload_n 0, 1) := by decide +kernel
theorem dX6_span_114 : decode cX6_span 114 = .ok (.getfield 34, 3) := by decide +kernel
theorem dX6_span_117 : decode cX6_span 117 = .ok (.iload_n 1, 1) := by decide +kernel
theorem dX6_span_118 : decode cX6_span 118 = .ok (.iaload, 1) := by decide +kernel
theorem dX6_span_119 : decode cX6_span 119 = .ok (.bipush (-9), 2) := by decide +kernel
theorem dX6_span_121 : decode cX6_span 121 = .ok (.if_icmp .eq 33, 3) := by decide +kernel
theorem dX6_span_124 : decode cX6_span 124 = .ok (.iload 5, 2) := by decide +kernel
theorem dX6_span_126 : decode cX6_span 126 = .ok (.aload_n 0, 1) := by decide +kernel
theorem dX6_span_127 : decode cX6_span 127 = .ok (.getfield 40, 3) := by decide +kernel
theorem dX6_span_130 : decode cX6_span 130 = .ok (.aload_n 0, 1) := by decide +kernel
theorem dX6_span_131 : decode cX6_span 131 = .ok (.getfield 34, 3) := by decide +kernel
theorem dX6_span_134 : decode cX6_span 134 = .ok (.iload_n 1, 1) := by decide +kernel
theorem dX6_span_135 : decode cX6_span 135 = .ok (.iaload, 1) := by decide +kernel
theorem dX6_span_136 : decode cX6_span 136 = .ok (.iaload, 1) := by decide +kernel
theorem dX6_span_137 : decode cX6_span 137 = .ok (.aload_n 0, 1) := by decide +kernel
theorem dX6_span_138 : decode cX6_span 138 = .ok (.getfield 43, 3) := by decide +kernel
theorem dX6_span_141 : decode cX6_span 141 = .ok (.aload_n 0, 1) := by decide +kernel
theorem dX6_span_142 : decode cX6_span 142 = .ok (.getfield 34, 3) := by decide +kernel
theorem dX6_span_145 : decode cX6_span 145 = .ok (.iload_n 1, 1) := by decide +kernel
theorem dX6_span_146 : decode cX6_span 146 = .ok (.iaload, 1) := by decide +kernel
theorem dX6_span_147 : decode cX6_span 147 = .ok (.iaload, 1) := by decide +kernel
theorem dX6_span_148 : decode cX6_span 148 = .ok (.invokestatic 65, 3) := by decide +kernel
theorem dX6_span_151 : decode cX6_span 151 = .ok (.ifCond .eq 7, 3) := by decide +kernel
theorem dX6_span_154 : decode cX6_span 154 = .ok (.iconst 1, 1) := by decide +kernel
theorem dX6_span_155 : decode cX6_span 155 = .ok (.goto 4, 3) := by decide +kernel
theorem dX6_span_158 : decode cX6_span 158 = .ok (.iconst 0, 1) := by decide +kernel
theorem dX6_span_159 : decode cX6_span 159 = .ok (.iand, 1) := by decide +kernel
theorem dX6_span_160 : decode cX6_span 160 = .ok (.istore 6, 2) := by decide +kernel
theorem dX6_span_162 : decode cX6_span 162 = .ok (.iload 6, 2) := by decide +kernel
theorem dX6_span_164 : decode cX6_span 164 = .ok (.aload_n 0, 1) := by decide +kernel
theorem dX6_span_165 : decode cX6_span 165 = .ok (.getfield 37, 3) := by decide +kernel
theorem dX6_span_168 : decode cX6_span 168 = .ok (.iload_n 1, 1) := by decide +kernel
theorem dX6_span_169 : decode cX6_span 169 = .ok (.iaload, 1) := by decide +kernel
theorem dX6_span_170 : decode cX6_span 170 = .ok (.bipush (-9), 2) := by decide +kernel
theorem dX6_span_172 : decode cX6_span 172 = .ok (.if_icmp .eq 14, 3) := by decide +kernel
theorem dX6_span_175 : decode cX6_span 175 = .ok (.iload 5, 2) := by decide +kernel
theorem dX6_span_177 : decode cX6_span 177 = .ok (.aload_n 0, 1) := by decide +kernel
theorem dX6_span_178 : decode cX6_span 178 = .ok (.getfield 37, 3) := by decide +kernel
theorem dX6_span_181 : decode cX6_span 181 = .ok (.iload_n 1, 1) := by decide +kernel
theorem dX6_span_182 : decode cX6_span 182 = .ok (.iaload, 1) := by decide +kernel
theorem dX6_span_183 : decode cX6_span 183 = .ok (.if_icmp .lt 7, 3) := by decide +kernel
theorem dX6_span_186 : decode cX6_span 186 = .ok (.iconst 1, 1) := by decide +kernel
theorem dX6_span_187 : decode cX6_span 187 = .ok (.goto 4, 3) := by decide +kernel
theorem dX6_span_190 : decode cX6_span 190 = .ok (.iconst 0, 1) := by decide +kernel
theorem dX6_span_191 : decode cX6_span 191 = .ok (.iand, 1) := by decide +kernel
theorem dX6_span_192 : decode cX6_span 192 = .ok (.istore 6, 2) := by decide +kernel
theorem dX6_span_194 : decode cX6_span 194 = .ok (.iload 6, 2) := by decide +kernel
theorem dX6_span_196 : decode cX6_span 196 = .ok (.ifCond .eq 14, 3) := by decide +kernel
theorem dX6_span_199 : decode cX6_span 199 = .ok (.iload_n 3, 1) := by decide +kernel
theorem dX6_span_200 : decode cX6_span 200 = .ok (.bipush (-9), 2) := by decide +kernel
theorem dX6_span_202 : decode cX6_span 202 = .ok (.if_icmp .ne 8, 3) := by decide +kernel
theorem dX6_span_205 : decode cX6_span 205 = .ok (.iload 5, 2) := by decide +kernel
theorem dX6_span_207 : decode cX6_span 207 = .ok (.goto 4, 3) := by decide +kernel
theorem dX6_span_210 : decode cX6_span 210 = .ok (.iload_n 3, 1) := by decide +kernel
theorem dX6_span_211 : decode cX6_span 211 = .ok (.istore_n 3, 1) := by decide +kernel
theorem dX6_span_212 : decode cX6_span 212 = .ok (.iload 6, 2) := by decide +kernel
theorem dX6_span_214 : decode cX6_span 214 = .ok (.ifCond .eq 8, 3) := by decide +kernel
theorem dX6_span_217 : decode cX6_span 217 = .ok (.iload 5, 2) := by decide +kernel
theorem dX6_span_219 : decode cX6_span 219 = .ok (.goto 5, 3) := by decide +kernel
theorem dX6_span_222 : decode cX6_span 222 = .ok (.iload 4, 2) := by decide +kernel
theorem dX6_span_224 : decode cX6_span 224 = .ok (.istore 4, 2) := by decide +kernel
theorem dX6_span_226 : decode cX6_span 226 = .ok (.iinc 5 1, 3) := by decide +kernel
theorem dX6_span_229 : decode cX6_span 229 = .ok (.goto (-193), 3) := by decide +kernel
theorem dX6_span_232 : decode cX6_span 232 = .ok (.iload_n 2, 1) := by decide +kernel
theorem dX6_span_233 : decode cX6_span 233 = .ok (.ifCond .ne 7, 3) := by decide +kernel
theorem dX6_span_236 : decode cX6_span 236 = .ok (.iload_n 3, 1) := by decide +kernel
theorem dX6_span_237 : decode cX6_span 237 = .ok (.goto 5, 3) := by decide +kernel
theorem dX6_span_240 : decode cX6_span 240 = .ok (.iload 4, 2) := by decide +kernel
theorem dX6_span_242 : decode cX6_span 242 = .ok (.ireturn, 1) := by decide +kernel
theorem dX6_price_0 : decode cX6_price 0 = .ok (.aload_n 0, 1) := by decide +kernel
theorem dX6_price_1 : decode cX6_price 1 = .ok (.iconst 0, 1) := by decide +kernel
theorem dX6_price_2 : decode cX6_price 2 = .ok (.putfield 61, 3) := by decide +kernel
theorem dX6_price_5 : decode cX6_price 5 = .ok (.iload_n 1, 1) := by decide +kernel
theorem dX6_price_6 : decode cX6_price 6 = .ok (.iconst 0, 1) := by decide +kernel
theorem dX6_price_7 : decode cX6_price 7 = .ok (.iconst 2, 1) := by decide +kernel
theorem dX6_price_8 : decode cX6_price 8 = .ok (.invokestatic 65, 3) := by decide +kernel
theorem dX6_price_11 : decode cX6_price 11 = .ok (.ifCond .eq 11, 3) := by decide +kernel
theorem dX6_price_14 : decode cX6_price 14 = .ok (.aload_n 0, 1) := by decide +kernel
theorem dX6_price_15 : decode cX6_price 15 = .ok (.iload_n 2, 1) := by decide +kernel
theorem dX6_price_16 : decode cX6_price 16 = .ok (.invokevirtual 91, 3) := by decide +kernel
theorem dX6_price_19 : decode cX6_price 19 = .ok (.ifCond .ne 5, 3) := by decide +kernel
theorem dX6_price_22 : decode cX6_price 22 = .ok (.iconst (-1), 1) := by decide +kernel
theorem dX6_price_23 : decode cX6_price 23 = .ok (.ireturn, 1) := by decide +kernel
theorem dX6_price_24 : decode cX6_price 24 = .ok (.aload_n 0, 1) := by decide +kernel
theorem dX6_price_25 : decode cX6_price 25 = .ok (.dup, 1) := by decide +kernel
theorem dX6_price_26 : decode cX6_price 26 = .ok (.getfield 100, 3) := by decide +kernel
theorem dX6_price_29 : decode cX6_price 29 = .ok (.iload_n 1, 1) := by decide +kernel
theorem dX6_price_30 : decode cX6_price 30 = .ok (.ifCond .ne 7, 3) := by decide +kernel
theorem dX6_price_33 : decode cX6_price 33 = .ok (.lconst 1, 1) := by decide +kernel
theorem dX6_price_34 : decode cX6_price 34 = .ok (.goto 17, 3) := by decide +kernel
theorem dX6_price_37 : decode cX6_price 37 = .ok (.iload_n 1, 1) := by decide +kernel
theorem dX6_price_38 : decode cX6_price 38 = .ok (.iconst 1, 1) := by decide +kernel
theorem dX6_price_39 : decode cX6_price 39 = .ok (.if_icmp .ne 9, 3) := by decide +kernel
theorem dX6_price_42 : decode cX6_price 42 = .ok (.ldc2_w 104, 3) := by decide +kernel
theorem dX6_price_45 : decode cX6_price 45 = .ok (.goto 6, 3) := by decide +kernel
theorem dX6_price_48 : decode cX6_price 48 = .ok (.ldc2_w 106, 3) := by decide +kernel
theorem dX6_price_51 : decode cX6_price 51 = .ok (.ladd, 1) := by decide +kernel
theorem dX6_price_52 : decode cX6_price 52 = .ok (.putfield 100, 3) := by decide +kernel
theorem dX6_price_55 : decode cX6_price 55 = .ok (.aload_n 0, 1) := by decide +kernel
theorem dX6_price_56 : decode cX6_price 56 = .ok (.iload_n 2, 1) := by decide +kernel
theorem dX6_price_57 : decode cX6_price 57 = .ok (.invokevirtual 94, 3) := by decide +kernel
theorem dX6_price_60 : decode cX6_price 60 = .ok (.invokestatic 76, 3) := by decide +kernel
theorem dX6_price_63 : decode cX6_price 63 = .ok (.istore_n 3, 1) := by decide +kernel
theorem dX6_price_64 : decode cX6_price 64 = .ok (.iload_n 3, 1) := by decide +kernel
theorem dX6_price_65 : decode cX6_price 65 = .ok (.ifCond .ne 7, 3) := by decide +kernel
theorem dX6_price_68 : decode cX6_price 68 = .ok (.iconst 0, 1) := by decide +kernel
theorem dX6_price_69 : decode cX6_price 69 = .ok (.goto 11, 3) := by decide +kernel
theorem dX6_price_72 : decode cX6_price 72 = .ok (.aload_n 0, 1) := by decide +kernel
theorem dX6_price_73 : decode cX6_price 73 = .ok (.getfield 28, 3) := by decide +kernel
theorem dX6_price_76 : decode cX6_price 76 = .ok (.iload_n 2, 1) := by decide +kernel
theorem dX6_price_77 : decode cX6_price 77 = .ok (.iaload, 1) := by decide +kernel
theorem dX6_price_78 : decode cX6_price 78 = .ok (.iload_n 3, 1) := by decide +kernel
theorem dX6_price_79 : decode cX6_price 79 = .ok (.idiv, 1) := by decide +kernel
theorem dX6_price_80 : decode cX6_price 80 = .ok (.istore 4, 2) := by decide +kernel
theorem dX6_price_82 : decode cX6_price 82 = .ok (.iload_n 1, 1) := by decide +kernel
theorem dX6_price_83 : decode cX6_price 83 = .ok (.ifCond .le 49, 3) := by decide +kernel
theorem dX6_price_86 : decode cX6_price 86 = .ok (.aload_n 0, 1) := by decide +kernel
theorem dX6_price_87 : decode cX6_price 87 = .ok (.getfield 31, 3) := by decide +kernel
theorem dX6_price_90 : decode cX6_price 90 = .ok (.iload_n 2, 1) := by decide +kernel
theorem dX6_price_91 : decode cX6_price 91 = .ok (.iaload, 1) := by decide +kernel
theorem dX6_price_92 : decode cX6_price 92 = .ok (.iconst 1, 1) := by decide +kernel
theorem dX6_price_93 : decode cX6_price 93 = .ok (.if_icmp .ne 13, 3) := by decide +kernel
theorem dX6_price_96 : decode cX6_price 96 = .ok (.iload 4, 2) := by decide +kernel
theorem dX6_price_98 : decode cX6_price 98 = .ok (.iload 4, 2) := by decide +kernel
theorem dX6_price_100 : decode cX6_price 100 = .ok (.iconst 2, 1) := by decide +kernel
theorem dX6_price_101 : decode cX6_price 101 = .ok (.idiv, 1) := by decide +kernel
theorem dX6_price_102 : decode cX6_price 102 = .ok (.iadd, 1) := by decide +kernel
theorem dX6_price_103 : decode cX6_price 103 = .ok (.goto 27, 3) := by decide +kernel
theorem dX6_price_106 : decode cX6_price 106 = .ok (.aload_n 0, 1) := by decide +kernel
theorem dX6_price_107 : decode cX6_price 107 = .ok (.getfield 31, 3) := by decide +kernel
theorem dX6_price_110 : decode cX6_price 110 = .ok (.iload_n 2, 1) := by decide +kernel
theorem dX6_price_111 : decode cX6_price 111 = .ok (.iaload, 1) := by decide +kernel
theorem dX6_price_112 : decode cX6_price 112 = .ok (.iconst 2, 1) := by decide +kernel
theorem dX6_price_113 : decode cX6_price 113 = .ok (.if_icmp .ne 15, 3) := by decide +kernel
theorem dX6_price_116 : decode cX6_price 116 = .ok (.iload 4, 2) := by decide +kernel
theorem dX6_price_118 : decode cX6_price 118 = .ok (.iload 4, 2) := by decide +kernel
theorem dX6_price_120 : decode cX6_price 120 = .ok (.iconst 3, 1) := by decide +kernel
theorem dX6_price_121 : decode cX6_price 121 = .ok (.iadd, 1) := by decide +kernel
theorem dX6_price_122 : decode cX6_price 122 = .ok (.iconst 4, 1) := by decide +kernel
theorem dX6_price_123 : decode cX6_price 123 = .ok (.idiv, 1) := by decide +kernel
theorem dX6_price_124 : decode cX6_price 124 = .ok (.isub, 1) := by decide +kernel
theorem dX6_price_125 : decode cX6_price 125 = .ok (.goto 5, 3) := by decide +kernel
theorem dX6_price_128 : decode cX6_price 128 = .ok (.iload 4, 2) := by decide +kernel
theorem dX6_price_130 : decode cX6_price 130 = .ok (.istore 4, 2) := by decide +kernel
theorem dX6_price_132 : decode cX6_price 132 = .ok (.iload_n 1, 1) := by decide +kernel
theorem dX6_price_133 : decode cX6_price 133 = .ok (.iconst 1, 1) := by decide +kernel
theorem dX6_price_134 : decode cX6_price 134 = .ok (.if_icmp .le 29, 3) := by decide +kernel
theorem dX6_price_137 : decode cX6_price 137 = .ok (.iload 4, 2) := by decide +kernel
theorem dX6_price_139 : decode cX6_price 139 = .ok (.iconst 3, 1) := by decide +kernel
theorem dX6_price_140 : decode cX6_price 140 = .ok (.aload_n 0, 1) := by decide +kernel
theorem dX6_price_141 : decode cX6_price 141 = .ok (.getfield 52, 3) := by decide +kernel
theorem dX6_price_144 : decode cX6_price 144 = .ok (.iload_n 2, 1) := by decide +kernel
theorem dX6_price_145 : decode cX6_price 145 = .ok (.iaload, 1) := by decide +kernel
theorem dX6_price_146 : decode cX6_price 146 = .ok (.imul, 1) := by decide +kernel
theorem dX6_price_147 : decode cX6_price 147 = .ok (.isub, 1) := by decide +kernel
theorem dX6_price_148 : decode cX6_price 148 = .ok (.istore 4, 2) := by decide +kernel
theorem dX6_price_150 : decode cX6_price 150 = .ok (.iload 4, 2) := by decide +kernel
theorem dX6_price_152 : decode cX6_price 152 = .ok (.ifCond .ge 7, 3) := by decide +kernel
theorem dX6_price_155 : decode cX6_price 155 = .ok (.iconst 0, 1) := by decide +kernel
theorem dX6_price_156 : decode cX6_price 156 = .ok (.goto 5, 3) := by decide +kernel
theorem dX6_price_159 : decode cX6_price 159 = .ok (.iload 4, 2) := by decide +kernel
theorem dX6_price_161 : decode cX6_price 161 = .ok (.istore 4, 2) := by decide +kernel
theorem dX6_price_163 : decode cX6_price 163 = .ok (.iload 4, 2) := by decide +kernel
theorem dX6_price_165 : decode cX6_price 165 = .ok (.ireturn, 1) := by decide +kernel
theorem dX6_isMap_0 : decode cX6_isMap 0 = .ok (.iload_n 1, 1) := by decide +kernel
theorem dX6_isMap_1 : decode cX6_isMap 1 = .ok (.iconst 0, 1) := by decide +kernel
theorem dX6_isMap_2 : decode cX6_isMap 2 = .ok (.aload_n 0, 1) := by decide +kernel
theorem dX6_isMap_3 : decode cX6_isMap 3 = .ok (.getfield 108, 3) := by decide +kernel
theorem dX6_isMap_6 : decode cX6_isMap 6 = .ok (.iconst 1, 1) := by decide +kernel
theorem dX6_isMap_7 : decode cX6_isMap 7 = .ok (.isub, 1) := by decide +kernel
theorem dX6_isMap_8 : decode cX6_isMap 8 = .ok (.invokestatic 65, 3) := by decide +kernel
theorem dX6_isMap_11 : decode cX6_isMap 11 = .ok (.ireturn, 1) := by decide +kernel
theorem dX6_map_0 : decode cX6_map 0 = .ok (.aload_n 0, 1) := by decide +kernel
theorem dX6_map_1 : decode cX6_map 1 = .ok (.iconst 0, 1) := by decide +kernel
theorem dX6_map_2 : decode cX6_map 2 = .ok (.putfield 61, 3) := by decide +kernel
theorem dX6_map_5 : decode cX6_map 5 = .ok (.iload_n 1, 1) := by decide +kernel
theorem dX6_map_6 : decode cX6_map 6 = .ok (.sipush 1500, 3) := by decide +kernel
theorem dX6_map_9 : decode cX6_map 9 = .ok (.sipush 1900, 3) := by decide +kernel
theorem dX6_map_12 : decode cX6_map 12 = .ok (.invokestatic 65, 3) := by decide +kernel
theorem dX6_map_15 : decode cX6_map 15 = .ok (.ifCond .eq 14, 3) := by decide +kernel
theorem dX6_map_18 : decode cX6_map 18 = .ok (.iload_n 2, 1) := by decide +kernel
theorem dX6_map_19 : decode cX6_map 19 = .ok (.iconst 0, 1) := by decide +kernel
theorem dX6_map_20 : decode cX6_map 20 = .ok (.sipush 4095, 3) := by decide +kernel
theorem dX6_map_23 : decode cX6_map 23 = .ok (.invokestatic 65, 3) := by decide +kernel
theorem dX6_map_26 : decode cX6_map 26 = .ok (.ifCond .ne 5, 3) := by decide +kernel
theorem dX6_map_29 : decode cX6_map 29 = .ok (.iconst (-1), 1) := by decide +kernel
theorem dX6_map_30 : decode cX6_map 30 = .ok (.ireturn, 1) := by decide +kernel
theorem dX6_map_31 : decode cX6_map 31 = .ok (.aload_n 0, 1) := by decide +kernel
theorem dX6_map_32 : decode cX6_map 32 = .ok (.getfield 108, 3) := by decide +kernel
theorem dX6_map_35 : decode cX6_map 35 = .ok (.bipush 8, 2) := by decide +kernel
theorem dX6_map_37 : decode cX6_map 37 = .ok (.if_icmp .ne 6, 3) := by decide +kernel
theorem dX6_map_40 : decode cX6_map 40 = .ok (.bipush (-3), 2) := by decide +kernel
theorem dX6_map_42 : decode cX6_map 42 = .ok (.ireturn, 1) := by decide +kernel
theorem dX6_map_43 : decode cX6_map 43 = .ok (.aload_n 0, 1) := by decide +kernel
theorem dX6_map_44 : decode cX6_map 44 = .ok (.getfield 46, 3) := by decide +kernel
theorem dX6_map_47 : decode cX6_map 47 = .ok (.aload_n 0, 1) := by decide +kernel
theorem dX6_map_48 : decode cX6_map 48 = .ok (.getfield 108, 3) := by decide +kernel
theorem dX6_map_51 : decode cX6_map 51 = .ok (.iload_n 1, 1) := by decide +kernel
theorem dX6_map_52 : decode cX6_map 52 = .ok (.iastore, 1) := by decide +kernel
theorem dX6_map_53 : decode cX6_map 53 = .ok (.aload_n 0, 1) := by decide +kernel
theorem dX6_map_54 : decode cX6_map 54 = .ok (.getfield 49, 3) := by decide +kernel
theorem dX6_map_57 : decode cX6_map 57 = .ok (.aload_n 0, 1) := by decide +kernel
theorem dX6_map_58 : decode cX6_map 58 = .ok (.getfield 108, 3) := by decide +kernel
theorem dX6_map_61 : decode cX6_map 61 = .ok (.iload_n 2, 1) := by decide +kernel
theorem dX6_map_62 : decode cX6_map 62 = .ok (.iastore, 1) := by decide +kernel
theorem dX6_map_63 : decode cX6_map 63 = .ok (.aload_n 0, 1) := by decide +kernel
theorem dX6_map_64 : decode cX6_map 64 = .ok (.dup, 1) := by decide +kernel
theorem dX6_map_65 : decode cX6_map 65 = .ok (.getfield 108, 3) := by decide +kernel
theorem dX6_map_68 : decode cX6_map 68 = .ok (.iconst 1, 1) := by decide +kernel
theorem dX6_map_69 : decode cX6_map 69 = .ok (.iadd, 1) := by decide +kernel
theorem dX6_map_70 : decode cX6_map 70 = .ok (.putfield 108, 3) := by decide +kernel
theorem dX6_map_73 : decode cX6_map 73 = .ok (.aload_n 0, 1) := by decide +kernel
theorem dX6_map_74 : decode cX6_map 74 = .ok (.getfield 108, 3) := by decide +kernel
theorem dX6_map_77 : decode cX6_map 77 = .ok (.iconst 1, 1) := by decide +kernel
theorem dX6_map_78 : decode cX6_map 78 = .ok (.isub, 1) := by decide +kernel
theorem dX6_map_79 : decode cX6_map 79 = .ok (.ireturn, 1) := by decide +kernel
theorem dX6_costOf_0 : decode cX6_costOf 0 = .ok (.iload_n 2, 1) := by decide +kernel
theorem dX6_costOf_1 : decode cX6_costOf 1 = .ok (.bipush (-9), 2) := by decide +kernel
theorem dX6_costOf_3 : decode cX6_costOf 3 = .ok (.if_icmp .ne 20, 3) := by decide +kernel
theorem dX6_costOf_6 : decode cX6_costOf 6 = .ok (.aload_n 0, 1) := by decide +kernel
theorem dX6_costOf_7 : decode cX6_costOf 7 = .ok (.getfield 49, 3) := by decide +kernel
theorem dX6_costOf_10 : decode cX6_costOf 10 = .ok (.iload_n 1, 1) := by decide +kernel
theorem dX6_costOf_11 : decode cX6_costOf 11 = .ok (.iaload, 1) := by decide +kernel
theorem dX6_costOf_12 : decode cX6_costOf 12 = .ok (.invokestatic 76, 3) := by decide +kernel
theorem dX6_costOf_15 : decode cX6_costOf 15 = .ok (.aload_n 0, 1) := by decide +kernel
theorem dX6_costOf_16 : decode cX6_costOf 16 = .ok (.getfield 19, 3) := by decide +kernel
theorem dX6_costOf_19 : decode cX6_costOf 19 = .ok (.iconst 4, 1) := by decide +kernel
theorem dX6_costOf_20 : decode cX6_costOf 20 = .ok (.iaload, 1) := by decide +kernel
theorem dX6_costOf_21 : decode cX6_costOf 21 = .ok (.iadd, 1) := by decide +kernel
theorem dX6_costOf_22 : decode cX6_costOf 22 = .ok (.ireturn, 1) := by decide +kernel
theorem dX6_costOf_23 : decode cX6_costOf 23 = .ok (.aload_n 0, 1) := by decide +kernel
theorem dX6_costOf_24 : decode cX6_costOf 24 = .ok (.getfield 49, 3) := by decide +kernel
theorem dX6_costOf_27 : decode cX6_costOf 27 = .ok (.iload_n 1, 1) := by decide +kernel
theorem dX6_costOf_28 : decode cX6_costOf 28 = .ok (.iaload, 1) := by decide +kernel
theorem dX6_costOf_29 : decode cX6_costOf 29 = .ok (.aload_n 0, 1) := by decide +kernel
theorem dX6_costOf_30 : decode cX6_costOf 30 = .ok (.getfield 49, 3) := by decide +kernel
theorem dX6_costOf_33 : decode cX6_costOf 33 = .ok (.iload_n 2, 1) := by decide +kernel
theorem dX6_costOf_34 : decode cX6_costOf 34 = .ok (.iaload, 1) := by decide +kernel
theorem dX6_costOf_35 : decode cX6_costOf 35 = .ok (.iconst (-1), 1) := by decide +kernel
theorem dX6_costOf_36 : decode cX6_costOf 36 = .ok (.ixor, 1) := by decide +kernel
theorem dX6_costOf_37 : decode cX6_costOf 37 = .ok (.iand, 1) := by decide +kernel
theorem dX6_costOf_38 : decode cX6_costOf 38 = .ok (.invokestatic 76, 3) := by decide +kernel
theorem dX6_costOf_41 : decode cX6_costOf 41 = .ok (.aload_n 0, 1) := by decide +kernel
theorem dX6_costOf_42 : decode cX6_costOf 42 = .ok (.getfield 19, 3) := by decide +kernel
theorem dX6_costOf_45 : decode cX6_costOf 45 = .ok (.iconst 3, 1) := by decide +kernel
theorem dX6_costOf_46 : decode cX6_costOf 46 = .ok (.iaload, 1) := by decide +kernel
theorem dX6_costOf_47 : decode cX6_costOf 47 = .ok (.aload_n 0, 1) := by decide +kernel
theorem dX6_costOf_48 : decode cX6_costOf 48 = .ok (.getfield 49, 3) := by decide +kernel
theorem dX6_costOf_51 : decode cX6_costOf 51 = .ok (.iload_n 2, 1) := by decide +kernel
theorem dX6_costOf_52 : decode cX6_costOf 52 = .ok (.iaload, 1) := by decide +kernel
theorem dX6_costOf_53 : decode cX6_costOf 53 = .ok (.aload_n 0, 1) := by decide +kernel
theorem dX6_costOf_54 : decode cX6_costOf 54 = .ok (.getfield 49, 3) := by decide +kernel
theorem dX6_costOf_57 : decode cX6_costOf 57 = .ok (.iload_n 1, 1) := by decide +kernel
theorem dX6_costOf_58 : decode cX6_costOf 58 = .ok (.iaload, 1) := by decide +kernel
theorem dX6_costOf_59 : decode cX6_costOf 59 = .ok (.iconst (-1), 1) := by decide +kernel
theorem dX6_costOf_60 : decode cX6_costOf 60 = .ok (.ixor, 1) := by decide +kernel
theorem dX6_costOf_61 : decode cX6_costOf 61 = .ok (.iand, 1) := by decide +kernel
theorem dX6_costOf_62 : decode cX6_costOf 62 = .ok (.invokestatic 76, 3) := by decide +kernel
theorem dX6_costOf_65 : decode cX6_costOf 65 = .ok (.imul, 1) := by decide +kernel
theorem dX6_costOf_66 : decode cX6_costOf 66 = .ok (.iadd, 1) := by decide +kernel
theorem dX6_costOf_67 : decode cX6_costOf 67 = .ok (.ireturn, 1) := by decide +kernel
theorem dX6_isFrom_0 : decode cX6_isFrom 0 = .ok (.iload_n 2, 1) := by decide +kernel
theorem dX6_isFrom_1 : decode cX6_isFrom 1 = .ok (.bipush (-9), 2) := by decide +kernel
theorem dX6_isFrom_3 : decode cX6_isFrom 3 = .ok (.if_icmp .eq 26, 3) := by decide +kernel
theorem dX6_isFrom_6 : decode cX6_isFrom 6 = .ok (.aload_n 0, 1) := by decide +kernel
theorem dX6_isFrom_7 : decode cX6_isFrom 7 = .ok (.iload_n 2, 1) := by decide +kernel
theorem dX6_isFrom_8 : decode cX6_isFrom 8 = .ok (.invokevirtual 111, 3) := by decide +kernel
theorem dX6_isFrom_11 : decode cX6_isFrom 11 = .ok (.ifCond .eq 22, 3) := by decide +kernel
theorem dX6_isFrom_14 : decode cX6_isFrom 14 = .ok (.aload_n 0, 1) := by decide +kernel
theorem dX6_isFrom_15 : decode cX6_isFrom 15 = .ok (.getfield 46, 3) := by decide +kernel
theorem dX6_isFrom_18 : decode cX6_isFrom 18 = .ok (.iload_n 2, 1) := by decide +kernel
theorem dX6_isFrom_19 : decode cX6_isFrom 19 = .ok (.iaload, 1) := by decide +kernel
theorem dX6_isFrom_20 : decode cX6_isFrom 20 = .ok (.aload_n 0, 1) := by decide +kernel
theorem dX6_isFrom_21 : decode cX6_isFrom 21 = .ok (.getfield 46, 3) := by decide +kernel
theorem dX6_isFrom_24 : decode cX6_isFrom 24 = .ok (.iload_n 1, 1) := by decide +kernel
theorem dX6_isFrom_25 : decode cX6_isFrom 25 = .ok (.iaload, 1) := by decide +kernel
theorem dX6_isFrom_26 : decode cX6_isFrom 26 = .ok (.if_icmp .ge 7, 3) := by decide +kernel
theorem dX6_isFrom_29 : decode cX6_isFrom 29 = .ok (.iconst 1, 1) := by decide +kernel
theorem dX6_isFrom_30 : decode cX6_isFrom 30 = .ok (.goto 4, 3) := by decide +kernel
theorem dX6_isFrom_33 : decode cX6_isFrom 33 = .ok (.iconst 0, 1) := by decide +kernel
theorem dX6_isFrom_34 : decode cX6_isFrom 34 = .ok (.ireturn, 1) := by decide +kernel
theorem dX6_cost_0 : decode cX6_cost 0 = .ok (.aload_n 0, 1) := by decide +kernel
theorem dX6_cost_1 : decode cX6_cost 1 = .ok (.iconst 0, 1) := by decide +kernel
theorem dX6_cost_2 : decode cX6_cost 2 = .ok (.putfield 61, 3) := by decide +kernel
theorem dX6_cost_5 : decode cX6_cost 5 = .ok (.aload_n 0, 1) := by decide +kernel
theorem dX6_cost_6 : decode cX6_cost 6 = .ok (.iload_n 1, 1) := by decide +kernel
theorem dX6_cost_7 : decode cX6_cost 7 = .ok (.invokevirtual 111, 3) := by decide +kernel
theorem dX6_cost_10 : decode cX6_cost 10 = .ok (.ifCond .eq 21, 3) := by decide +kernel
theorem dX6_cost_13 : decode cX6_cost 13 = .ok (.aload_n 0, 1) := by decide +kernel
theorem dX6_cost_14 : decode cX6_cost 14 = .ok (.iload_n 1, 1) := by decide +kernel
theorem dX6_cost_15 : decode cX6_cost 15 = .ok (.iload_n 2, 1) := by decide +kernel
theorem dX6_cost_16 : decode cX6_cost 16 = .ok (.invokevirtual 114, 3) := by decide +kernel
theorem dX6_cost_19 : decode cX6_cost 19 = .ok (.ifCond .eq 12, 3) := by decide +kernel
theorem dX6_cost_22 : decode cX6_cost 22 = .ok (.aload_n 0, 1) := by decide +kernel
theorem dX6_cost_23 : decode cX6_cost 23 = .ok (.iload_n 1, 1) := by decide +kernel
theorem dX6_cost_24 : decode cX6_cost 24 = .ok (.iload_n 2, 1) := by decide +kernel
theorem dX6_cost_25 : decode cX6_cost 25 = .ok (.invokevirtual 117, 3) := by decide +kernel
theorem dX6_cost_28 : decode cX6_cost 28 = .ok (.goto 4, 3) := by decide +kernel
theorem dX6_cost_31 : decode cX6_cost 31 = .ok (.iconst (-1), 1) := by decide +kernel
theorem dX6_cost_32 : decode cX6_cost 32 = .ok (.ireturn, 1) := by decide +kernel
theorem dX6_fromOf_0 : decode cX6_fromOf 0 = .ok (.bipush (-9), 2) := by decide +kernel
theorem dX6_fromOf_2 : decode cX6_fromOf 2 = .ok (.istore_n 2, 1) := by decide +kernel
theorem dX6_fromOf_3 : decode cX6_fromOf 3 = .ok (.iconst 0, 1) := by decide +kernel
theorem dX6_fromOf_4 : decode cX6_fromOf 4 = .ok (.istore_n 3, 1) := by decide +kernel
theorem dX6_fromOf_5 : decode cX6_fromOf 5 = .ok (.iload_n 3, 1) := by decide +kernel
theorem dX6_fromOf_6 : decode cX6_fromOf 6 = .ok (.aload_n 0, 1) := by decide +kernel
theorem dX6_fromOf_7 : decode cX6_fromOf 7 = .ok (.getfield 108, 3) := by decide +kernel
theorem dX6_fromOf_10 : decode cX6_fromOf 10 = .ok (.if_icmp .ge 39, 3) := by decide +kernel
theorem dX6_fromOf_13 : decode cX6_fromOf 13 = .ok (.aload_n 0, 1) := by decide +kernel
theorem dX6_fromOf_14 : decode cX6_fromOf 14 = .ok (.iload_n 1, 1) := by decide +kernel
theorem dX6_fromOf_15 : decode cX6_fromOf 15 = .ok (.iload_n 3, 1) := by decide +kernel
theorem dX6_fromOf_16 : decode cX6_fromOf 16 = .ok (.invokevirtual 114, 3) := by decide +kernel
theorem dX6_fromOf_19 : decode cX6_fromOf 19 = .ok (.ifCond .eq 22, 3) := by decide +kernel
theorem dX6_fromOf_22 : decode cX6_fromOf 22 = .ok (.aload_n 0, 1) := by decide +kernel
theorem dX6_fromOf_23 : decode cX6_fromOf 23 = .ok (.iload_n 1, 1) := by decide +kernel
theorem dX6_fromOf_24 : decode cX6_fromOf 24 = .ok (.iload_n 3, 1) := by decide +kernel
theorem dX6_fromOf_25 : decode cX6_fromOf 25 = .ok (.invokevirtual 117, 3) := by decide +kernel
theorem dX6_fromOf_28 : decode cX6_fromOf 28 = .ok (.aload_n 0, 1) := by decide +kernel
theorem dX6_fromOf_29 : decode cX6_fromOf 29 = .ok (.iload_n 1, 1) := by decide +kernel
theorem dX6_fromOf_30 : decode cX6_fromOf 30 = .ok (.iload_n 2, 1) := by decide +kernel
theorem dX6_fromOf_31 : decode cX6_fromOf 31 = .ok (.invokevirtual 117, 3) := by decide +kernel
theorem dX6_fromOf_34 : decode cX6_fromOf 34 = .ok (.if_icmp .ge 7, 3) := by decide +kernel
theorem dX6_fromOf_37 : decode cX6_fromOf 37 = .ok (.iload_n 3, 1) := by decide +kernel
theorem dX6_fromOf_38 : decode cX6_fromOf 38 = .ok (.goto 4, 3) := by decide +kernel
theorem dX6_fromOf_41 : decode cX6_fromOf 41 = .ok (.iload_n 2, 1) := by decide +kernel
theorem dX6_fromOf_42 : decode cX6_fromOf 42 = .ok (.istore_n 2, 1) := by decide +kernel
theorem dX6_fromOf_43 : decode cX6_fromOf 43 = .ok (.iinc 3 1, 3) := by decide +kernel
theorem dX6_fromOf_46 : decode cX6_fromOf 46 = .ok (.goto (-41), 3) := by decide +kernel
theorem dX6_fromOf_49 : decode cX6_fromOf 49 = .ok (.iload_n 2, 1) := by decide +kernel
theorem dX6_fromOf_50 : decode cX6_fromOf 50 = .ok (.ireturn, 1) := by decide +kernel
theorem dX6_from_0 : decode cX6_from 0 = .ok (.aload_n 0, 1) := by decide +kernel
theorem dX6_from_1 : decode cX6_from 1 = .ok (.iconst 0, 1) := by decide +kernel
theorem dX6_from_2 : decode cX6_from 2 = .ok (.putfield 61, 3) := by decide +kernel
theorem dX6_from_5 : decode cX6_from 5 = .ok (.aload_n 0, 1) := by decide +kernel
theorem dX6_from_6 : decode cX6_from 6 = .ok (.iload_n 1, 1) := by decide +kernel
theorem dX6_from_7 : decode cX6_from 7 = .ok (.invokevirtual 111, 3) := by decide +kernel
theorem dX6_from_10 : decode cX6_from 10 = .ok (.ifCond .eq 11, 3) := by decide +kernel
theorem dX6_from_13 : decode cX6_from 13 = .ok (.aload_n 0, 1) := by decide +kernel
theorem dX6_from_14 : decode cX6_from 14 = .ok (.iload_n 1, 1) := by decide +kernel
theorem dX6_from_15 : decode cX6_from 15 = .ok (.invokevirtual 121, 3) := by decide +kernel
theorem dX6_from_18 : decode cX6_from 18 = .ok (.goto 5, 3) := by decide +kernel
theorem dX6_from_21 : decode cX6_from 21 = .ok (.bipush (-2), 2) := by decide +kernel
theorem dX6_from_23 : decode cX6_from 23 = .ok (.ireturn, 1) := by decide +kernel
theorem dX6_rivals_0 : decode cX6_rivals 0 = .ok (.aload_n 0, 1) := by decide +kernel
theorem dX6_rivals_1 : decode cX6_rivals 1 = .ok (.iconst 0, 1) := by decide +kernel
theorem dX6_rivals_2 : decode cX6_rivals 2 = .ok (.putfield 61, 3) := by decide +kernel
theorem dX6_rivals_5 : decode cX6_rivals 5 = .ok (.aload_n 0, 1) := by decide +kernel
theorem dX6_rivals_6 : decode cX6_rivals 6 = .ok (.iload_n 1, 1) := by decide +kernel
theorem dX6_rivals_7 : decode cX6_rivals 7 = .ok (.invokevirtual 111, 3) := by decide +kernel
theorem dX6_rivals_10 : decode cX6_rivals 10 = .ok (.ifCond .ne 5, 3) := by decide +kernel
theorem dX6_rivals_13 : decode cX6_rivals 13 = .ok (.iconst (-1), 1) := by decide +kernel
theorem dX6_rivals_14 : decode cX6_rivals 14 = .ok (.ireturn, 1) := by decide +kernel
theorem dX6_rivals_15 : decode cX6_rivals 15 = .ok (.aload_n 0, 1) := by decide +kernel
theorem dX6_rivals_16 : decode cX6_rivals 16 = .ok (.iload_n 1, 1) := by decide +kernel
theorem dX6_rivals_17 : decode cX6_rivals 17 = .ok (.aload_n 0, 1) := by decide +kernel
theorem dX6_rivals_18 : decode cX6_rivals 18 = .ok (.iload_n 1, 1) := by decide +kernel
theorem dX6_rivals_19 : decode cX6_rivals 19 = .ok (.invokevirtual 121, 3) := by decide +kernel
theorem dX6_rivals_22 : decode cX6_rivals 22 = .ok (.invokevirtual 117, 3) := by decide +kernel
theorem dX6_rivals_25 : decode cX6_rivals 25 = .ok (.istore_n 2, 1) := by decide +kernel
theorem dX6_rivals_26 : decode cX6_rivals 26 = .ok (.aload_n 0, 1) := by decide +kernel
theorem dX6_rivals_27 : decode cX6_rivals 27 = .ok (.iload_n 1, 1) := by decide +kernel
theorem dX6_rivals_28 : decode cX6_rivals 28 = .ok (.bipush (-9), 2) := by decide +kernel
theorem dX6_rivals_30 : decode cX6_rivals 30 = .ok (.invokevirtual 117, 3) := by decide +kernel
theorem dX6_rivals_33 : decode cX6_rivals 33 = .ok (.iload_n 2, 1) := by decide +kernel
theorem dX6_rivals_34 : decode cX6_rivals 34 = .ok (.if_icmp .ne 7, 3) := by decide +kernel
theorem dX6_rivals_37 : decode cX6_rivals 37 = .ok (.iconst 1, 1) := by decide +kernel
theorem dX6_rivals_38 : decode cX6_rivals 38 = .ok (.goto 4, 3) := by decide +kernel
theorem dX6_rivals_41 : decode cX6_rivals 41 = .ok (.iconst 0, 1) := by decide +kernel
theorem dX6_rivals_42 : decode cX6_rivals 42 = .ok (.istore_n 3, 1) := by decide +kernel
theorem dX6_rivals_43 : decode cX6_rivals 43 = .ok (.iconst 0, 1) := by decide +kernel
theorem dX6_rivals_44 : decode cX6_rivals 44 = .ok (.istore 4, 2) := by decide +kernel
theorem dX6_rivals_46 : decode cX6_rivals 46 = .ok (.iload 4, 2) := by decide +kernel
theorem dX6_rivals_48 : decode cX6_rivals 48 = .ok (.aload_n 0, 1) := by decide +kernel
theorem dX6_rivals_49 : decode cX6_rivals 49 = .ok (.getfield 108, 3) := by decide +kernel
theorem dX6_rivals_52 : decode cX6_rivals 52 = .ok (.if_icmp .ge 38, 3) := by decide +kernel
theorem dX6_rivals_55 : decode cX6_rivals 55 = .ok (.iload_n 3, 1) := by decide +kernel
theorem dX6_rivals_56 : decode cX6_rivals 56 = .ok (.aload_n 0, 1) := by decide +kernel
theorem dX6_rivals_57 : decode cX6_rivals 57 = .ok (.iload_n 1, 1) := by decide +kernel
theorem dX6_rivals_58 : decode cX6_rivals 58 = .ok (.iload 4, 2) := by decide +kernel
theorem dX6_rivals_60 : decode cX6_rivals 60 = .ok (.invokevirtual 114, 3) := by decide +kernel
theorem dX6_rivals_63 : decode cX6_rivals 63 = .ok (.ifCond .eq 18, 3) := by decide +kernel
theorem dX6_rivals_66 : decode cX6_rivals 66 = .ok (.aload_n 0, 1) := by decide +kernel
theorem dX6_rivals_67 : decode cX6_rivals 67 = .ok (.iload_n 1, 1) := by decide +kernel
theorem dX6_rivals_68 : decode cX6_rivals 68 = .ok (.iload 4, 2) := by decide +kernel
theorem dX6_rivals_70 : decode cX6_rivals 70 = .ok (.invokevirtual 117, 3) := by decide +kernel
theorem dX6_rivals_73 : decode cX6_rivals 73 = .ok (.iload_n 2, 1) := by decide +kernel
theorem dX6_rivals_74 : decode cX6_rivals 74 = .ok (.if_icmp .ne 7, 3) := by decide +kernel
theorem dX6_rivals_77 : decode cX6_rivals 77 = .ok (.iconst 1, 1) := by decide +kernel
theorem dX6_rivals_78 : decode cX6_rivals 78 = .ok (.goto 4, 3) := by decide +kernel
theorem dX6_rivals_81 : decode cX6_rivals 81 = .ok (.iconst 0, 1) := by decide +kernel
theorem dX6_rivals_82 : decode cX6_rivals 82 = .ok (.iadd, 1) := by decide +kernel
theorem dX6_rivals_83 : decode cX6_rivals 83 = .ok (.istore_n 3, 1) := by decide +kernel
theorem dX6_rivals_84 : decode cX6_rivals 84 = .ok (.iinc 4 1, 3) := by decide +kernel
theorem dX6_rivals_87 : decode cX6_rivals 87 = .ok (.goto (-41), 3) := by decide +kernel
theorem dX6_rivals_90 : decode cX6_rivals 90 = .ok (.iload_n 3, 1) := by decide +kernel
theorem dX6_rivals_91 : decode cX6_rivals 91 = .ok (.iconst 1, 1) := by decide +kernel
theorem dX6_rivals_92 : decode cX6_rivals 92 = .ok (.isub, 1) := by decide +kernel
theorem dX6_rivals_93 : decode cX6_rivals 93 = .ok (.ireturn, 1) := by decide +kernel
theorem dX6_life_0 : decode cX6_life 0 = .ok (.aload_n 0, 1) := by decide +kernel
theorem dX6_life_1 : decode cX6_life 1 = .ok (.iconst 0, 1) := by decide +kernel
theorem dX6_life_2 : decode cX6_life 2 = .ok (.putfield 61, 3) := by decide +kernel
theorem dX6_life_5 : decode cX6_life 5 = .ok (.aload_n 0, 1) := by decide +kernel
theorem dX6_life_6 : decode cX6_life 6 = .ok (.iload_n 1, 1) := by decide +kernel
theorem dX6_life_7 : decode cX6_life 7 = .ok (.invokevirtual 111, 3) := by decide +kernel
theorem dX6_life_10 : decode cX6_life 10 = .ok (.ifCond .eq 26, 3) := by decide +kernel
theorem dX6_life_13 : decode cX6_life 13 = .ok (.iload_n 2, 1) := by decide +kernel
theorem dX6_life_14 : decode cX6_life 14 = .ok (.iconst 0, 1) := by decide +kernel
theorem dX6_life_15 : decode cX6_life 15 = .ok (.bipush 11, 2) := by decide +kernel
theorem dX6_life_17 : decode cX6_life 17 = .ok (.invokestatic 65, 3) := by decide +kernel
theorem dX6_life_20 : decode cX6_life 20 = .ok (.ifCond .eq 16, 3) := by decide +kernel
theorem dX6_life_23 : decode cX6_life 23 = .ok (.aload_n 0, 1) := by decide +kernel
theorem dX6_life_24 : decode cX6_life 24 = .ok (.getfield 49, 3) := by decide +kernel
theorem dX6_life_27 : decode cX6_life 27 = .ok (.iload_n 1, 1) := by decide +kernel
theorem dX6_life_28 : decode cX6_life 28 = .ok (.iaload, 1) := by decide +kernel
theorem dX6_life_29 : decode cX6_life 29 = .ok (.iload_n 2, 1) := by decide +kernel
theorem dX6_life_30 : decode cX6_life 30 = .ok (.ishr, 1) := by decide +kernel
theorem dX6_life_31 : decode cX6_life 31 = .ok (.iconst 1, 1) := by decide +kernel
theorem dX6_life_32 : decode cX6_life 32 = .ok (.iand, 1) := by decide +kernel
theorem dX6_life_33 : decode cX6_life 33 = .ok (.ifCond .ne 5, 3) := by decide +kernel
theorem dX6_life_36 : decode cX6_life 36 = .ok (.iconst (-1), 1) := by decide +kernel
theorem dX6_life_37 : decode cX6_life 37 = .ok (.ireturn, 1) := by decide +kernel
theorem dX6_life_38 : decode cX6_life 38 = .ok (.iconst 0, 1) := by decide +kernel
theorem dX6_life_39 : decode cX6_life 39 = .ok (.istore_n 3, 1) := by decide +kernel
theorem dX6_life_40 : decode cX6_life 40 = .ok (.iconst 0, 1) := by decide +kernel
theorem dX6_life_41 : decode cX6_life 41 = .ok (.istore 4, 2) := by decide +kernel
theorem dX6_life_43 : decode cX6_life 43 = .ok (.iload 4, 2) := by decide +kernel
theorem dX6_life_45 : decode cX6_life 45 = .ok (.aload_n 0, 1) := by decide +kernel
theorem dX6_life_46 : decode cX6_life 46 = .ok (.getfield 108, 3) := by decide +kernel
theorem dX6_life_49 : decode cX6_life 49 = .ok (.if_icmp .ge 66, 3) := by decide +kernel
theorem dX6_life_52 : decode cX6_life 52 = .ok (.iload 4, 2) := by decide +kernel
theorem dX6_life_54 : decode cX6_life 54 = .ok (.istore 5, 2) := by decide +kernel
theorem dX6_life_56 : decode cX6_life 56 = .ok (.iload 5, 2) := by decide +kernel
theorem dX6_life_58 : decode cX6_life 58 = .ok (.bipush (-9), 2) := by decide +kernel
theorem dX6_life_60 : decode cX6_life 60 = .ok (.if_icmp .eq 35, 3) := by decide +kernel
theorem dX6_life_63 : decode cX6_life 63 = .ok (.iload 5, 2) := by decide +kernel
theorem dX6_life_65 : decode cX6_life 65 = .ok (.iload_n 1, 1) := by decide +kernel
theorem dX6_life_66 : decode cX6_life 66 = .ok (.if_icmp .eq 29, 3) := by decide +kernel
theorem dX6_life_69 : decode cX6_life 69 = .ok (.aload_n 0, 1) := by decide +kernel
theorem dX6_life_70 : decode cX6_life 70 = .ok (.getfield 49, 3) := by decide +kernel
theorem dX6_life_73 : decode cX6_life 73 = .ok (.iload 5, 2) := by decide +kernel
theorem dX6_life_75 : decode cX6_life 75 = .ok (.iaload, 1) := by decide +kernel
theorem dX6_life_76 : decode cX6_life 76 = .ok (.iload_n 2, 1) := by decide +kernel
theorem dX6_life_77 : decode cX6_life 77 = .ok (.ishr, 1) := by decide +kernel
theorem dX6_life_78 : decode cX6_life 78 = .ok (.iconst 1, 1) := by decide +kernel
theorem dX6_life_79 : decode cX6_life 79 = .ok (.iand, 1) := by decide +kernel
theorem dX6_life_80 : decode cX6_life 80 = .ok (.iconst 1, 1) := by decide +kernel
theorem dX6_life_81 : decode cX6_life 81 = .ok (.if_icmp .ne 14, 3) := by decide +kernel
theorem dX6_life_84 : decode cX6_life 84 = .ok (.aload_n 0, 1) := by decide +kernel
theorem dX6_life_85 : decode cX6_life 85 = .ok (.iload 5, 2) := by decide +kernel
theorem dX6_life_87 : decode cX6_life 87 = .ok (.invokevirtual 121, 3) := by decide +kernel
theorem dX6_life_90 : decode cX6_life 90 = .ok (.istore 5, 2) := by decide +kernel
theorem dX6_life_92 : decode cX6_life 92 = .ok (.goto (-36), 3) := by decide +kernel
theorem dX6_life_95 : decode cX6_life 95 = .ok (.iload_n 3, 1) := by decide +kernel
theorem dX6_life_96 : decode cX6_life 96 = .ok (.iload 5, 2) := by decide +kernel
theorem dX6_life_98 : decode cX6_life 98 = .ok (.iload_n 1, 1) := by decide +kernel
theorem dX6_life_99 : decode cX6_life 99 = .ok (.if_icmp .ne 7, 3) := by decide +kernel
theorem dX6_life_102 : decode cX6_life 102 = .ok (.iconst 1, 1) := by decide +kernel
theorem dX6_life_103 : decode cX6_life 103 = .ok (.goto 4, 3) := by decide +kernel
theorem dX6_life_106 : decode cX6_life 106 = .ok (.iconst 0, 1) := by decide +kernel
theorem dX6_life_107 : decode cX6_life 107 = .ok (.iadd, 1) := by decide +kernel
theorem dX6_life_108 : decode cX6_life 108 = .ok (.istore_n 3, 1) := by decide +kernel
theorem dX6_life_109 : decode cX6_life 109 = .ok (.iinc 4 1, 3) := by decide +kernel
theorem dX6_life_112 : decode cX6_life 112 = .ok (.goto (-69), 3) := by decide +kernel
theorem dX6_life_115 : decode cX6_life 115 = .ok (.iload_n 3, 1) := by decide +kernel
theorem dX6_life_116 : decode cX6_life 116 = .ok (.ireturn, 1) := by decide +kernel
theorem dX6_hole_0 : decode cX6_hole 0 = .ok (.aload_n 0, 1) := by decide +kernel
theorem dX6_hole_1 : decode cX6_hole 1 = .ok (.iconst 0, 1) := by decide +kernel
theorem dX6_hole_2 : decode cX6_hole 2 = .ok (.putfield 61, 3) := by decide +kernel
theorem dX6_hole_5 : decode cX6_hole 5 = .ok (.iload_n 1, 1) := by decide +kernel
theorem dX6_hole_6 : decode cX6_hole 6 = .ok (.iconst 0, 1) := by decide +kernel
theorem dX6_hole_7 : decode cX6_hole 7 = .ok (.iconst 1, 1) := by decide +kernel
theorem dX6_hole_8 : decode cX6_hole 8 = .ok (.invokestatic 65, 3) := by decide +kernel
theorem dX6_hole_11 : decode cX6_hole 11 = .ok (.ifCond .eq 37, 3) := by decide +kernel
theorem dX6_hole_14 : decode cX6_hole 14 = .ok (.iload_n 1, 1) := by decide +kernel
theorem dX6_hole_15 : decode cX6_hole 15 = .ok (.ifCond .ne 14, 3) := by decide +kernel
theorem dX6_hole_18 : decode cX6_hole 18 = .ok (.aload_n 0, 1) := by decide +kernel
theorem dX6_hole_19 : decode cX6_hole 19 = .ok (.iload_n 2, 1) := by decide +kernel
theorem dX6_hole_20 : decode cX6_hole 20 = .ok (.invokevirtual 91, 3) := by decide +kernel
theorem dX6_hole_23 : decode cX6_hole 23 = .ok (.ifCond .eq 25, 3) := by decide +kernel
theorem dX6_hole_26 : decode cX6_hole 26 = .ok (.goto 12, 3) := by decide +kernel
theorem dX6_hole_29 : decode cX6_hole 29 = .ok (.iload_n 2, 1) := by decide +kernel
theorem dX6_hole_30 : decode cX6_hole 30 = .ok (.iconst 0, 1) := by decide +kernel
theorem dX6_hole_31 : decode cX6_hole 31 = .ok (.iconst 3, 1) := by decide +kernel
theorem dX6_hole_32 : decode cX6_hole 32 = .ok (.invokestatic 65, 3) := by decide +kernel
theorem dX6_hole_35 : decode cX6_hole 35 = .ok (.ifCond .eq 13, 3) := by decide +kernel
theorem dX6_hole_38 : decode cX6_hole 38 = .ok (.iload_n 3, 1) := by decide +kernel
theorem dX6_hole_39 : decode cX6_hole 39 = .ok (.iconst 0, 1) := by decide +kernel
theorem dX6_hole_40 : decode cX6_hole 40 = .ok (.bipush 99, 2) := by decide +kernel
theorem dX6_hole_42 : decode cX6_hole 42 = .ok (.invokestatic 65, 3) := by decide +kernel
theorem dX6_hole_45 : decode cX6_hole 45 = .ok (.ifCond .ne 5, 3) := by decide +kernel
theorem dX6_hole_48 : decode cX6_hole 48 = .ok (.iconst (-1), 1) := by decide +kernel
theorem dX6_hole_49 : decode cX6_hole 49 = .ok (.ireturn, 1) := by decide +kernel
theorem dX6_hole_50 : decode cX6_hole 50 = .ok (.iload_n 1, 1) := by decide +kernel
theorem dX6_hole_51 : decode cX6_hole 51 = .ok (.ifCond .ne 7, 3) := by decide +kernel
theorem dX6_hole_54 : decode cX6_hole 54 = .ok (.iload_n 2, 1) := by decide +kernel
theorem dX6_hole_55 : decode cX6_hole 55 = .ok (.goto 7, 3) := by decide +kernel
theorem dX6_hole_58 : decode cX6_hole 58 = .ok (.bipush 20, 2) := by decide +kernel
theorem dX6_hole_60 : decode cX6_hole 60 = .ok (.iload_n 2, 1) := by decide +kernel
theorem dX6_hole_61 : decode cX6_hole 61 = .ok (.iadd, 1) := by decide +kernel
theorem dX6_hole_62 : decode cX6_hole 62 = .ok (.istore 4, 2) := by decide +kernel
theorem dX6_hole_64 : decode cX6_hole 64 = .ok (.iconst 0, 1) := by decide +kernel
theorem dX6_hole_65 : decode cX6_hole 65 = .ok (.istore 5, 2) := by decide +kernel
theorem dX6_hole_67 : decode cX6_hole 67 = .ok (.iload 5, 2) := by decide +kernel
theorem dX6_hole_69 : decode cX6_hole 69 = .ok (.aload_n 0, 1) := by decide +kernel
theorem dX6_hole_70 : decode cX6_hole 70 = .ok (.getfield 52, 3) := by decide +kernel
theorem dX6_hole_73 : decode cX6_hole 73 = .ok (.iload 4, 2) := by decide +kernel
theorem dX6_hole_75 : decode cX6_hole 75 = .ok (.iaload, 1) := by decide +kernel
theorem dX6_hole_76 : decode cX6_hole 76 = .ok (.if_icmp .ge 34, 3) := by decide +kernel
theorem dX6_hole_79 : decode cX6_hole 79 = .ok (.aload_n 0, 1) := by decide +kernel
theorem dX6_hole_80 : decode cX6_hole 80 = .ok (.getfield 55, 3) := by decide +kernel
theorem dX6_hole_83 : decode cX6_hole 83 = .ok (.bipush 6, 2) := by decide +kernel
theorem dX6_hole_85 : decode cX6_hole 85 = .ok (.iload 4, 2) := by decide +kernel
theorem dX6_hole_87 : decode cX6_hole 87 = .ok (.imul, 1) := by decide +kernel
theorem dX6_hole_88 : decode cX6_hole 88 = .ok (.iload 5, 2) := by decide +kernel
theorem dX6_hole_90 : decode cX6_hole 90 = .ok (.iadd, 1) := by decide +kernel
theorem dX6_hole_91 : decode cX6_hole 91 = .ok (.iaload, 1) := by decide +kernel
theorem dX6_hole_92 : decode cX6_hole 92 = .ok (.iload_n 3, 1) := by decide +kernel
theorem dX6_hole_93 : decode cX6_hole 93 = .ok (.if_icmp .ne 11, 3) := by decide +kernel
theorem dX6_hole_96 : decode cX6_hole 96 = .ok (.aload_n 0, 1) := by decide +kernel
theorem dX6_hole_97 : decode cX6_hole 97 = .ok (.getfield 52, 3) := by decide +kernel
theorem dX6_hole_100 : decode cX6_hole 100 = .ok (.iload 4, 2) := by decide +kernel
theorem dX6_hole_102 : decode cX6_hole 102 = .ok (.iaload, 1) := by decide +kernel
theorem dX6_hole_103 : decode cX6_hole 103 = .ok (.ireturn, 1) := by decide +kernel
theorem dX6_hole_104 : decode cX6_hole 104 = .ok (.iinc 5 1, 3) := by decide +kernel
theorem dX6_hole_107 : decode cX6_hole 107 = .ok (.goto (-40), 3) := by decide +kernel
theorem dX6_hole_110 : decode cX6_hole 110 = .ok (.aload_n 0, 1) := by decide +kernel
theorem dX6_hole_111 : decode cX6_hole 111 = .ok (.getfield 52, 3) := by decide +kernel
theorem dX6_hole_114 : decode cX6_hole 114 = .ok (.iload 4, 2) := by decide +kernel
theorem dX6_hole_116 : decode cX6_hole 116 = .ok (.iaload, 1) := by decide +kernel
theorem dX6_hole_117 : decode cX6_hole 117 = .ok (.bipush 6, 2) := by decide +kernel
theorem dX6_hole_119 : decode cX6_hole 119 = .ok (.if_icmp .ne 6, 3) := by decide +kernel
theorem dX6_hole_122 : decode cX6_hole 122 = .ok (.bipush (-3), 2) := by decide +kernel
theorem dX6_hole_124 : decode cX6_hole 124 = .ok (.ireturn, 1) := by decide +kernel
theorem dX6_hole_125 : decode cX6_hole 125 = .ok (.aload_n 0, 1) := by decide +kernel
theorem dX6_hole_126 : decode cX6_hole 126 = .ok (.getfield 55, 3) := by decide +kernel
theorem dX6_hole_129 : decode cX6_hole 129 = .ok (.bipush 6, 2) := by decide +kernel
theorem dX6_hole_131 : decode cX6_hole 131 = .ok (.iload 4, 2) := by decide +kernel
theorem dX6_hole_133 : decode cX6_hole 133 = .ok (.imul, 1) := by decide +kernel
theorem dX6_hole_134 : decode cX6_hole 134 = .ok (.aload_n 0, 1) := by decide +kernel
theorem dX6_hole_135 : decode cX6_hole 135 = .ok (.getfield 52, 3) := by decide +kernel
theorem dX6_hole_138 : decode cX6_hole 138 = .ok (.iload 4, 2) := by decide +kernel
theorem dX6_hole_140 : decode cX6_hole 140 = .ok (.iaload, 1) := by decide +kernel
theorem dX6_hole_141 : decode cX6_hole 141 = .ok (.iadd, 1) := by decide +kernel
theorem dX6_hole_142 : decode cX6_hole 142 = .ok (.iload_n 3, 1) := by decide +kernel
theorem dX6_hole_143 : decode cX6_hole 143 = .ok (.iastore, 1) := by decide +kernel
theorem dX6_hole_144 : decode cX6_hole 144 = .ok (.aload_n 0, 1) := by decide +kernel
theorem dX6_hole_145 : decode cX6_hole 145 = .ok (.getfield 52, 3) := by decide +kernel
theorem dX6_hole_148 : decode cX6_hole 148 = .ok (.iload 4, 2) := by decide +kernel
theorem dX6_hole_150 : decode cX6_hole 150 = .ok (.dup2, 1) := by decide +kernel
theorem dX6_hole_151 : decode cX6_hole 151 = .ok (.iaload, 1) := by decide +kernel
theorem dX6_hole_152 : decode cX6_hole 152 = .ok (.iconst 1, 1) := by decide +kernel
theorem dX6_hole_153 : decode cX6_hole 153 = .ok (.iadd, 1) := by decide +kernel
theorem dX6_hole_154 : decode cX6_hole 154 = .ok (.iastore, 1) := by decide +kernel
theorem dX6_hole_155 : decode cX6_hole 155 = .ok (.aload_n 0, 1) := by decide +kernel
theorem dX6_hole_156 : decode cX6_hole 156 = .ok (.getfield 52, 3) := by decide +kernel
theorem dX6_hole_159 : decode cX6_hole 159 = .ok (.iload 4, 2) := by decide +kernel
theorem dX6_hole_161 : decode cX6_hole 161 = .ok (.iaload, 1) := by decide +kernel
theorem dX6_hole_162 : decode cX6_hole 162 = .ok (.ireturn, 1) := by decide +kernel
theorem dX6_fitsOf_0 : decode cX6_fitsOf 0 = .ok (.iconst 0, 1) := by decide +kernel
theorem dX6_fitsOf_1 : decode cX6_fitsOf 1 = .ok (.istore 4, 2) := by decide +kernel
theorem dX6_fitsOf_3 : decode cX6_fitsOf 3 = .ok (.iconst 0, 1) := by decide +kernel
theorem dX6_fitsOf_4 : decode cX6_fitsOf 4 = .ok (.istore 5, 2) := by decide +kernel
theorem dX6_fitsOf_6 : decode cX6_fitsOf 6 = .ok (.iload 5, 2) := by decide +kernel
theorem dX6_fitsOf_8 : decode cX6_fitsOf 8 = .ok (.aload_n 0, 1) := by decide +kernel
theorem dX6_fitsOf_9 : decode cX6_fitsOf 9 = .ok (.getfield 52, 3) := by decide +kernel
theorem dX6_fitsOf_12 : decode cX6_fitsOf 12 = .ok (.iload_n 1, 1) := by decide +kernel
theorem dX6_fitsOf_13 : decode cX6_fitsOf 13 = .ok (.iaload, 1) := by decide +kernel
theorem dX6_fitsOf_14 : decode cX6_fitsOf 14 = .ok (.if_icmp .ge 90, 3) := by decide +kernel
theorem dX6_fitsOf_17 : decode cX6_fitsOf 17 = .ok (.iconst 0, 1) := by decide +kernel
theorem dX6_fitsOf_18 : decode cX6_fitsOf 18 = .ok (.istore 6, 2) := by decide +kernel
theorem dX6_fitsOf_20 : decode cX6_fitsOf 20 = .ok (.iconst 0, 1) := by decide +kernel
theorem dX6_fitsOf_21 : decode cX6_fitsOf 21 = .ok (.istore 7, 2) := by decide +kernel
theorem dX6_fitsOf_23 : decode cX6_fitsOf 23 = .ok (.iload 7, 2) := by decide +kernel
theorem dX6_fitsOf_25 : decode cX6_fitsOf 25 = .ok (.aload_n 0, 1) := by decide +kernel
theorem dX6_fitsOf_26 : decode cX6_fitsOf 26 = .ok (.getfield 52, 3) := by decide +kernel
theorem dX6_fitsOf_29 : decode cX6_fitsOf 29 = .ok (.bipush 20, 2) := by decide +kernel
theorem dX6_fitsOf_31 : decode cX6_fitsOf 31 = .ok (.iload_n 2, 1) := by decide +kernel
theorem dX6_fitsOf_32 : decode cX6_fitsOf 32 = .ok (.iadd, 1) := by decide +kernel
theorem dX6_fitsOf_33 : decode cX6_fitsOf 33 = .ok (.iaload, 1) := by decide +kernel
theorem dX6_fitsOf_34 : decode cX6_fitsOf 34 = .ok (.if_icmp .ge 49, 3) := by decide +kernel
theorem dX6_fitsOf_37 : decode cX6_fitsOf 37 = .ok (.iload 6, 2) := by decide +kernel
theorem dX6_fitsOf_39 : decode cX6_fitsOf 39 = .ok (.aload_n 0, 1) := by decide +kernel
theorem dX6_fitsOf_40 : decode cX6_fitsOf 40 = .ok (.getfield 55, 3) := by decide +kernel
theorem dX6_fitsOf_43 : decode cX6_fitsOf 43 = .ok (.bipush 6, 2) := by decide +kernel
theorem dX6_fitsOf_45 : decode cX6_fitsOf 45 = .ok (.iload_n 1, 1) := by decide +kernel
theorem dX6_fitsOf_46 : decode cX6_fitsOf 46 = .ok (.imul, 1) := by decide +kernel
theorem dX6_fitsOf_47 : decode cX6_fitsOf 47 = .ok (.iload 5, 2) := by decide +kernel
theorem dX6_fitsOf_49 : decode cX6_fitsOf 49 = .ok (.iadd, 1) := by decide +kernel
theorem dX6_fitsOf_50 : decode cX6_fitsOf 50 = .ok (.iaload, 1) := by decide +kernel
theorem dX6_fitsOf_51 : decode cX6_fitsOf 51 = .ok (.iload_n 3, 1) := by decide +kernel
theorem dX6_fitsOf_52 : decode cX6_fitsOf 52 = .ok (.iadd, 1) := by decide +kernel
theorem dX6_fitsOf_53 : decode cX6_fitsOf 53 = .ok (.aload_n 0, 1) := by decide +kernel
theorem dX6_fitsOf_54 : decode cX6_fitsOf 54 = .ok (.getfield 55, 3) := by decide +kernel
theorem dX6_fitsOf_57 : decode cX6_fitsOf 57 = .ok (.bipush 120, 2) := by decide +kernel
theorem dX6_fitsOf_59 : decode cX6_fitsOf 59 = .ok (.bipush 6, 2) := by decide +kernel
theorem dX6_fitsOf_61 : decode cX6_fitsOf 61 = .ok (.iload_n 2, 1) := by decide +kernel
theorem dX6_fitsOf_62 : decode cX6_fitsOf 62 = .ok (.imul, 1) := by decide +kernel
theorem dX6_fitsOf_63 : decode cX6_fitsOf 63 = .ok (.iadd, 1) := by decide +kernel
theorem dX6_fitsOf_64 : decode cX6_fitsOf 64 = .ok (.iload 7, 2) := by decide +kernel
theorem dX6_fitsOf_66 : decode cX6_fitsOf 66 = .ok (.iadd, 1) := by decide +kernel
theorem dX6_fitsOf_67 : decode cX6_fitsOf 67 = .ok (.iaload, 1) := by decide +kernel
theorem dX6_fitsOf_68 : decode cX6_fitsOf 68 = .ok (.isub, 1) := by decide +kernel
theorem dX6_fitsOf_69 : decode cX6_fitsOf 69 = .ok (.iconst (-1), 1) := by decide +kernel
theorem dX6_fitsOf_70 : decode cX6_fitsOf 70 = .ok (.iconst 1, 1) := by decide +kernel
theorem dX6_fitsOf_71 : decode cX6_fitsOf 71 = .ok (.invokestatic 65, 3) := by decide +kernel
theorem dX6_fitsOf_74 : decode cX6_fitsOf 74 = .ok (.ior, 1) := by decide +kernel
theorem dX6_fitsOf_75 : decode cX6_fitsOf 75 = .ok (.istore 6, 2) := by decide +kernel
theorem dX6_fitsOf_77 : decode cX6_fitsOf 77 = .ok (.iinc 7 1, 3) := by decide +kernel
theorem dX6_fitsOf_80 : decode cX6_fitsOf 80 = .ok (.goto (-57), 3) := by decide +kernel
theorem dX6_fitsOf_83 : decode cX6_fitsOf 83 = .ok (.iload 4, 2) := by decide +kernel
theorem dX6_fitsOf_85 : decode cX6_fitsOf 85 = .ok (.iload 6, 2) := by decide +kernel
theorem dX6_fitsOf_87 : decode cX6_fitsOf 87 = .ok (.ifCond .eq 7, 3) := by decide +kernel
theorem dX6_fitsOf_90 : decode cX6_fitsOf 90 = .ok (.iconst 1, 1) := by decide +kernel
theorem dX6_fitsOf_91 : decode cX6_fitsOf 91 = .ok (.goto 4, 3) := by decide +kernel
theorem dX6_fitsOf_94 : decode cX6_fitsOf 94 = .ok (.iconst 0, 1) := by decide +kernel
theorem dX6_fitsOf_95 : decode cX6_fitsOf 95 = .ok (.iadd, 1) := by decide +kernel
theorem dX6_fitsOf_96 : decode cX6_fitsOf 96 = .ok (.istore 4, 2) := by decide +kernel
theorem dX6_fitsOf_98 : decode cX6_fitsOf 98 = .ok (.iinc 5 1, 3) := by decide +kernel
theorem dX6_fitsOf_101 : decode cX6_fitsOf 101 = .ok (.goto (-95), 3) := by decide +kernel
theorem dX6_fitsOf_104 : decode cX6_fitsOf 104 = .ok (.iload 4, 2) := by decide +kernel
theorem dX6_fitsOf_106 : decode cX6_fitsOf 106 = .ok (.ireturn, 1) := by decide +kernel
theorem dX6_isBook_0 : decode cX6_isBook 0 = .ok (.iload_n 0, 1) := by decide +kernel
theorem dX6_isBook_1 : decode cX6_isBook 1 = .ok (.iconst 0, 1) := by decide +kernel
theorem dX6_isBook_2 : decode cX6_isBook 2 = .ok (.iconst 3, 1) := by decide +kernel
theorem dX6_isBook_3 : decode cX6_isBook 3 = .ok (.invokestatic 65, 3) := by decide +kernel
theorem dX6_isBook_6 : decode cX6_isBook 6 = .ok (.ireturn, 1) := by decide +kernel
theorem dX6_fits_0 : decode cX6_fits 0 = .ok (.aload_n 0, 1) := by decide +kernel
theorem dX6_fits_1 : decode cX6_fits 1 = .ok (.iconst 0, 1) := by decide +kernel
theorem dX6_fits_2 : decode cX6_fits 2 = .ok (.putfield 61, 3) := by decide +kernel
theorem dX6_fits_5 : decode cX6_fits 5 = .ok (.aload_n 0, 1) := by decide +kernel
theorem dX6_fits_6 : decode cX6_fits 6 = .ok (.iload_n 1, 1) := by decide +kernel
theorem dX6_fits_7 : decode cX6_fits 7 = .ok (.invokevirtual 91, 3) := by decide +kernel
theorem dX6_fits_10 : decode cX6_fits 10 = .ok (.ifCond .eq 31, 3) := by decide +kernel
theorem dX6_fits_13 : decode cX6_fits 13 = .ok (.iload_n 2, 1) := by decide +kernel
theorem dX6_fits_14 : decode cX6_fits 14 = .ok (.invokestatic 124, 3) := by decide +kernel
theorem dX6_fits_17 : decode cX6_fits 17 = .ok (.ifCond .eq 24, 3) := by decide +kernel
theorem dX6_fits_20 : decode cX6_fits 20 = .ok (.iload_n 3, 1) := by decide +kernel
theorem dX6_fits_21 : decode cX6_fits 21 = .ok (.bipush (-20), 2) := by decide +kernel
theorem dX6_fits_23 : decode cX6_fits 23 = .ok (.bipush 20, 2) := by decide +kernel
theorem dX6_fits_25 : decode cX6_fits 25 = .ok (.invokestatic 65, 3) := by decide +kernel
theorem dX6_fits_28 : decode cX6_fits 28 = .ok (.ifCond .eq 13, 3) := by decide +kernel
theorem dX6_fits_31 : decode cX6_fits 31 = .ok (.aload_n 0, 1) := by decide +kernel
theorem dX6_fits_32 : decode cX6_fits 32 = .ok (.iload_n 1, 1) := by decide +kernel
theorem dX6_fits_33 : decode cX6_fits 33 = .ok (.iload_n 2, 1) := by decide +kernel
theorem dX6_fits_34 : decode cX6_fits 34 = .ok (.iload_n 3, 1) := by decide +kernel
theorem dX6_fits_35 : decode cX6_fits 35 = .ok (.invokevirtual 127, 3) := by decide +kernel
theorem dX6_fits_38 : decode cX6_fits 38 = .ok (.goto 4, 3) := by decide +kernel
theorem dX6_fits_41 : decode cX6_fits 41 = .ok (.iconst (-1), 1) := by decide +kernel
theorem dX6_fits_42 : decode cX6_fits 42 = .ok (.ireturn, 1) := by decide +kernel
theorem dX6_shiftOf_0 : decode cX6_shiftOf 0 = .ok (.iconst 0, 1) := by decide +kernel
theorem dX6_shiftOf_1 : decode cX6_shiftOf 1 = .ok (.istore_n 3, 1) := by decide +kernel
theorem dX6_shiftOf_2 : decode cX6_shiftOf 2 = .ok (.iconst 1, 1) := by decide +kernel
theorem dX6_shiftOf_3 : decode cX6_shiftOf 3 = .ok (.istore 4, 2) := by decide +kernel
theorem dX6_shiftOf_5 : decode cX6_shiftOf 5 = .ok (.iload 4, 2) := by decide +kernel
theorem dX6_shiftOf_7 : decode cX6_shiftOf 7 = .ok (.bipush 20, 2) := by decide +kernel
theorem dX6_shiftOf_9 : decode cX6_shiftOf 9 = .ok (.if_icmp .gt 61, 3) := by decide +kernel
theorem dX6_shiftOf_12 : decode cX6_shiftOf 12 = .ok (.aload_n 0, 1) := by decide +kernel
theorem dX6_shiftOf_13 : decode cX6_shiftOf 13 = .ok (.iload_n 1, 1) := by decide +kernel
theorem dX6_shiftOf_14 : decode cX6_shiftOf 14 = .ok (.iload_n 2, 1) := by decide +kernel
theorem dX6_shiftOf_15 : decode cX6_shiftOf 15 = .ok (.iload 4, 2) := by decide +kernel
theorem dX6_shiftOf_17 : decode cX6_shiftOf 17 = .ok (.ineg, 1) := by decide +kernel
theorem dX6_shiftOf_18 : decode cX6_shiftOf 18 = .ok (.invokevirtual 127, 3) := by decide +kernel
theorem dX6_shiftOf_21 : decode cX6_shiftOf 21 = .ok (.aload_n 0, 1) := by decide +kernel
theorem dX6_shiftOf_22 : decode cX6_shiftOf 22 = .ok (.iload_n 1, 1) := by decide +kernel
theorem dX6_shiftOf_23 : decode cX6_shiftOf 23 = .ok (.iload_n 2, 1) := by decide +kernel
theorem dX6_shiftOf_24 : decode cX6_shiftOf 24 = .ok (.iload_n 3, 1) := by decide +kernel
theorem dX6_shiftOf_25 : decode cX6_shiftOf 25 = .ok (.invokevirtual 127, 3) := by decide +kernel
theorem dX6_shiftOf_28 : decode cX6_shiftOf 28 = .ok (.if_icmp .le 9, 3) := by decide +kernel
theorem dX6_shiftOf_31 : decode cX6_shiftOf 31 = .ok (.iload 4, 2) := by decide +kernel
theorem dX6_shiftOf_33 : decode cX6_shiftOf 33 = .ok (.ineg, 1) := by decide +kernel
theorem dX6_shiftOf_34 : decode cX6_shiftOf 34 = .ok (.goto 4, 3) := by decide +kernel
theorem dX6_shiftOf_37 : decode cX6_shiftOf 37 = .ok (.iload_n 3, 1) := by decide +kernel
theorem dX6_shiftOf_38 : decode cX6_shiftOf 38 = .ok (.istore_n 3, 1) := by decide +kernel
theorem dX6_shiftOf_39 : decode cX6_shiftOf 39 = .ok (.aload_n 0, 1) := by decide +kernel
theorem dX6_shiftOf_40 : decode cX6_shiftOf 40 = .ok (.iload_n 1, 1) := by decide +kernel
theorem dX6_shiftOf_41 : decode cX6_shiftOf 41 = .ok (.iload_n 2, 1) := by decide +kernel
theorem dX6_shiftOf_42 : decode cX6_shiftOf 42 = .ok (.iload 4, 2) := by decide +kernel
theorem dX6_shiftOf_44 : decode cX6_shiftOf 44 = .ok (.invokevirtual 127, 3) := by decide +kernel
theorem dX6_shiftOf_47 : decode cX6_shiftOf 47 = .ok (.aload_n 0, 1) := by decide +kernel
theorem dX6_shiftOf_48 : decode cX6_shiftOf 48 = .ok (.iload_n 1, 1) := by decide +kernel
theorem dX6_shiftOf_49 : decode cX6_shiftOf 49 = .ok (.iload_n 2, 1) := by decide +kernel
theorem dX6_shiftOf_50 : decode cX6_shiftOf 50 = .ok (.iload_n 3, 1) := by decide +kernel
theorem dX6_shiftOf_51 : decode cX6_shiftOf 51 = .ok (.invokevirtual 127, 3) := by decide +kernel
theorem dX6_shiftOf_54 : decode cX6_shiftOf 54 = .ok (.if_icmp .le 8, 3) := by decide +kernel
theorem dX6_shiftOf_57 : decode cX6_shiftOf 57 = .ok (.iload 4, 2) := by decide +kernel
theorem dX6_shiftOf_59 : decode cX6_shiftOf 59 = .ok (.goto 4, 3) := by decide +kernel
theorem dX6_shiftOf_62 : decode cX6_shiftOf 62 = .ok (.iload_n 3, 1) := by decide +kernel
theorem dX6_shiftOf_63 : decode cX6_shiftOf 63 = .ok (.istore_n 3, 1) := by decide +kernel
theorem dX6_shiftOf_64 : decode cX6_shiftOf 64 = .ok (.iinc 4 1, 3) := by decide +kernel
theorem dX6_shiftOf_67 : decode cX6_shiftOf 67 = .ok (.goto (-62), 3) := by decide +kernel
theorem dX6_shiftOf_70 : decode cX6_shiftOf 70 = .ok (.iload_n 3, 1) := by decide +kernel
theorem dX6_shiftOf_71 : decode cX6_shiftOf 71 = .ok (.ireturn, 1) := by decide +kernel
theorem dX6_shift_0 : decode cX6_shift 0 = .ok (.aload_n 0, 1) := by decide +kernel
theorem dX6_shift_1 : decode cX6_shift 1 = .ok (.iconst 0, 1) := by decide +kernel
theorem dX6_shift_2 : decode cX6_shift 2 = .ok (.putfield 61, 3) := by decide +kernel
theorem dX6_shift_5 : decode cX6_shift 5 = .ok (.aload_n 0, 1) := by decide +kernel
theorem dX6_shift_6 : decode cX6_shift 6 = .ok (.iload_n 1, 1) := by decide +kernel
theorem dX6_shift_7 : decode cX6_shift 7 = .ok (.invokevirtual 91, 3) := by decide +kernel
theorem dX6_shift_10 : decode cX6_shift 10 = .ok (.ifCond .eq 19, 3) := by decide +kernel
theorem dX6_shift_13 : decode cX6_shift 13 = .ok (.iload_n 2, 1) := by decide +kernel
theorem dX6_shift_14 : decode cX6_shift 14 = .ok (.invokestatic 124, 3) := by decide +kernel
theorem dX6_shift_17 : decode cX6_shift 17 = .ok (.ifCond .eq 12, 3) := by decide +kernel
theorem dX6_shift_20 : decode cX6_shift 20 = .ok (.iload_n 3, 1) := by decide +kernel
theorem dX6_shift_21 : decode cX6_shift 21 = .ok (.iconst 0, 1) := by decide +kernel
theorem dX6_shift_22 : decode cX6_shift 22 = .ok (.iconst 1, 1) := by decide +kernel
theorem dX6_shift_23 : decode cX6_shift 23 = .ok (.invokestatic 65, 3) := by decide +kernel
theorem dX6_shift_26 : decode cX6_shift 26 = .ok (.ifCond .ne 6, 3) := by decide +kernel
theorem dX6_shift_29 : decode cX6_shift 29 = .ok (.bipush (-100), 2) := by decide +kernel
theorem dX6_shift_31 : decode cX6_shift 31 = .ok (.ireturn, 1) := by decide +kernel
theorem dX6_shift_32 : decode cX6_shift 32 = .ok (.aload_n 0, 1) := by decide +kernel
theorem dX6_shift_33 : decode cX6_shift 33 = .ok (.iload_n 1, 1) := by decide +kernel
theorem dX6_shift_34 : decode cX6_shift 34 = .ok (.iload_n 2, 1) := by decide +kernel
theorem dX6_shift_35 : decode cX6_shift 35 = .ok (.invokevirtual 131, 3) := by decide +kernel
theorem dX6_shift_38 : decode cX6_shift 38 = .ok (.istore 4, 2) := by decide +kernel
theorem dX6_shift_40 : decode cX6_shift 40 = .ok (.iload_n 3, 1) := by decide +kernel
theorem dX6_shift_41 : decode cX6_shift 41 = .ok (.ifCond .ne 8, 3) := by decide +kernel
theorem dX6_shift_44 : decode cX6_shift 44 = .ok (.iload 4, 2) := by decide +kernel
theorem dX6_shift_46 : decode cX6_shift 46 = .ok (.goto 11, 3) := by decide +kernel
theorem dX6_shift_49 : decode cX6_shift 49 = .ok (.aload_n 0, 1) := by decide +kernel
theorem dX6_shift_50 : decode cX6_shift 50 = .ok (.iload_n 1, 1) := by decide +kernel
theorem dX6_shift_51 : decode cX6_shift 51 = .ok (.iload_n 2, 1) := by decide +kernel
theorem dX6_shift_52 : decode cX6_shift 52 = .ok (.iload 4, 2) := by decide +kernel
theorem dX6_shift_54 : decode cX6_shift 54 = .ok (.invokevirtual 127, 3) := by decide +kernel
theorem dX6_shift_57 : decode cX6_shift 57 = .ok (.ireturn, 1) := by decide +kernel
theorem dX6_most_0 : decode cX6_most 0 = .ok (.aload_n 0, 1) := by decide +kernel
theorem dX6_most_1 : decode cX6_most 1 = .ok (.iload_n 1, 1) := by decide +kernel
theorem dX6_most_2 : decode cX6_most 2 = .ok (.iload_n 2, 1) := by decide +kernel
theorem dX6_most_3 : decode cX6_most 3 = .ok (.aload_n 0, 1) := by decide +kernel
theorem dX6_most_4 : decode cX6_most 4 = .ok (.iload_n 1, 1) := by decide +kernel
theorem dX6_most_5 : decode cX6_most 5 = .ok (.iload_n 2, 1) := by decide +kernel
theorem dX6_most_6 : decode cX6_most 6 = .ok (.invokevirtual 131, 3) := by decide +kernel
theorem dX6_most_9 : decode cX6_most 9 = .ok (.invokevirtual 127, 3) := by decide +kernel
theorem dX6_most_12 : decode cX6_most 12 = .ok (.ireturn, 1) := by decide +kernel
theorem dX6_home_0 : decode cX6_home 0 = .ok (.aload_n 0, 1) := by decide +kernel
theorem dX6_home_1 : decode cX6_home 1 = .ok (.iconst 0, 1) := by decide +kernel
theorem dX6_home_2 : decode cX6_home 2 = .ok (.putfield 61, 3) := by decide +kernel
theorem dX6_home_5 : decode cX6_home 5 = .ok (.aload_n 0, 1) := by decide +kernel
theorem dX6_home_6 : decode cX6_home 6 = .ok (.iload_n 1, 1) := by decide +kernel
theorem dX6_home_7 : decode cX6_home 7 = .ok (.invokevirtual 91, 3) := by decide +kernel
theorem dX6_home_10 : decode cX6_home 10 = .ok (.ifCond .eq 12, 3) := by decide +kernel
theorem dX6_home_13 : decode cX6_home 13 = .ok (.iload_n 2, 1) := by decide +kernel
theorem dX6_home_14 : decode cX6_home 14 = .ok (.iconst 0, 1) := by decide +kernel
theorem dX6_home_15 : decode cX6_home 15 = .ok (.iconst 1, 1) := by decide +kernel
theorem dX6_home_16 : decode cX6_home 16 = .ok (.invokestatic 65, 3) := by decide +kernel
theorem dX6_home_19 : decode cX6_home 19 = .ok (.ifCond .ne 5, 3) := by decide +kernel
theorem dX6_home_22 : decode cX6_home 22 = .ok (.iconst (-1), 1) := by decide +kernel
theorem dX6_home_23 : decode cX6_home 23 = .ok (.ireturn, 1) := by decide +kernel
theorem dX6_home_24 : decode cX6_home 24 = .ok (.bipush (-9), 2) := by decide +kernel
theorem dX6_home_26 : decode cX6_home 26 = .ok (.istore_n 3, 1) := by decide +kernel
theorem dX6_home_27 : decode cX6_home 27 = .ok (.iconst 1, 1) := by decide +kernel
theorem dX6_home_28 : decode cX6_home 28 = .ok (.istore 4, 2) := by decide +kernel
theorem dX6_home_30 : decode cX6_home 30 = .ok (.iconst 0, 1) := by decide +kernel
theorem dX6_home_31 : decode cX6_home 31 = .ok (.istore 5, 2) := by decide +kernel
theorem dX6_home_33 : decode cX6_home 33 = .ok (.iload 5, 2) := by decide +kernel
theorem dX6_home_35 : decode cX6_home 35 = .ok (.iconst 4, 1) := by decide +kernel
theorem dX6_home_36 : decode cX6_home 36 = .ok (.if_icmp .ge 32, 3) := by decide +kernel
theorem dX6_home_39 : decode cX6_home 39 = .ok (.aload_n 0, 1) := by decide +kernel
theorem dX6_home_40 : decode cX6_home 40 = .ok (.iload_n 1, 1) := by decide +kernel
theorem dX6_home_41 : decode cX6_home 41 = .ok (.iload 5, 2) := by decide +kernel
theorem dX6_home_43 : decode cX6_home 43 = .ok (.invokevirtual 134, 3) := by decide +kernel
theorem dX6_home_46 : decode cX6_home 46 = .ok (.istore 6, 2) := by decide +kernel
theorem dX6_home_48 : decode cX6_home 48 = .ok (.iload 6, 2) := by decide +kernel
theorem dX6_home_50 : decode cX6_home 50 = .ok (.iload 4, 2) := by decide +kernel
theorem dX6_home_52 : decode cX6_home 52 = .ok (.if_icmp .le 10, 3) := by decide +kernel
theorem dX6_home_55 : decode cX6_home 55 = .ok (.iload 6, 2) := by decide +kernel
theorem dX6_home_57 : decode cX6_home 57 = .ok (.istore 4, 2) := by decide +kernel
theorem dX6_home_59 : decode cX6_home 59 = .ok (.iload 5, 2) := by decide +kernel
theorem dX6_home_61 : decode cX6_home 61 = .ok (.istore_n 3, 1) := by decide +kernel
theorem dX6_home_62 : decode cX6_home 62 = .ok (.iinc 5 1, 3) := by decide +kernel
theorem dX6_home_65 : decode cX6_home 65 = .ok (.goto (-32), 3) := by decide +kernel
theorem dX6_home_68 : decode cX6_home 68 = .ok (.iload_n 3, 1) := by decide +kernel
theorem dX6_home_69 : decode cX6_home 69 = .ok (.bipush (-9), 2) := by decide +kernel
theorem dX6_home_71 : decode cX6_home 71 = .ok (.if_icmp .eq 7, 3) := by decide +kernel
theorem dX6_home_74 : decode cX6_home 74 = .ok (.iload_n 2, 1) := by decide +kernel
theorem dX6_home_75 : decode cX6_home 75 = .ok (.ifCond .ne 5, 3) := by decide +kernel
theorem dX6_home_78 : decode cX6_home 78 = .ok (.iload_n 3, 1) := by decide +kernel
theorem dX6_home_79 : decode cX6_home 79 = .ok (.ireturn, 1) := by decide +kernel
theorem dX6_home_80 : decode cX6_home 80 = .ok (.iconst 0, 1) := by decide +kernel
theorem dX6_home_81 : decode cX6_home 81 = .ok (.istore 5, 2) := by decide +kernel
theorem dX6_home_83 : decode cX6_home 83 = .ok (.iconst 0, 1) := by decide +kernel
theorem dX6_home_84 : decode cX6_home 84 = .ok (.istore 6, 2) := by decide +kernel
theorem dX6_home_86 : decode cX6_home 86 = .ok (.iload 6, 2) := by decide +kernel
theorem dX6_home_88 : decode cX6_home 88 = .ok (.aload_n 0, 1) := by decide +kernel
theorem dX6_home_89 : decode cX6_home 89 = .ok (.getfield 88, 3) := by decide +kernel
theorem dX6_home_92 : decode cX6_home 92 = .ok (.if_icmp .ge 37, 3) := by decide +kernel
theorem dX6_home_95 : decode cX6_home 95 = .ok (.iload 5, 2) := by decide +kernel
theorem dX6_home_97 : decode cX6_home 97 = .ok (.iload 6, 2) := by decide +kernel
theorem dX6_home_99 : decode cX6_home 99 = .ok (.iload_n 1, 1) := by decide +kernel
theorem dX6_home_100 : decode cX6_home 100 = .ok (.if_icmp .eq 19, 3) := by decide +kernel
theorem dX6_home_103 : decode cX6_home 103 = .ok (.aload_n 0, 1) := by decide +kernel
theorem dX6_home_104 : decode cX6_home 104 = .ok (.iload 6, 2) := by decide +kernel
theorem dX6_home_106 : decode cX6_home 106 = .ok (.iload_n 3, 1) := by decide +kernel
theorem dX6_home_107 : decode cX6_home 107 = .ok (.invokevirtual 134, 3) := by decide +kernel
theorem dX6_home_110 : decode cX6_home 110 = .ok (.iload 4, 2) := by decide +kernel
theorem dX6_home_112 : decode cX6_home 112 = .ok (.if_icmp .lt 7, 3) := by decide +kernel
theorem dX6_home_115 : decode cX6_home 115 = .ok (.iconst 1, 1) := by decide +kernel
theorem dX6_home_116 : decode cX6_home 116 = .ok (.goto 4, 3) := by decide +kernel
theorem dX6_home_119 : decode cX6_home 119 = .ok (.iconst 0, 1) := by decide +kernel
theorem dX6_home_120 : decode cX6_home 120 = .ok (.iadd, 1) := by decide +kernel
theorem dX6_home_121 : decode cX6_home 121 = .ok (.istore 5, 2) := by decide +kernel
theorem dX6_home_123 : decode cX6_home 123 = .ok (.iinc 6 1, 3) := by decide +kernel
theorem dX6_home_126 : decode cX6_home 126 = .ok (.goto (-40), 3) := by decide +kernel
theorem dX6_home_129 : decode cX6_home 129 = .ok (.iload 5, 2) := by decide +kernel
theorem dX6_home_131 : decode cX6_home 131 = .ok (.ireturn, 1) := by decide +kernel
theorem dX6_count_0 : decode cX6_count 0 = .ok (.aload_n 0, 1) := by decide +kernel
theorem dX6_count_1 : decode cX6_count 1 = .ok (.iconst 0, 1) := by decide +kernel
theorem dX6_count_2 : decode cX6_count 2 = .ok (.putfield 61, 3) := by decide +kernel
theorem dX6_count_5 : decode cX6_count 5 = .ok (.iconst 0, 1) := by decide +kernel
theorem dX6_count_6 : decode cX6_count 6 = .ok (.istore_n 2, 1) := by decide +kernel
theorem dX6_count_7 : decode cX6_count 7 = .ok (.iconst 0, 1) := by decide +kernel
theorem dX6_count_8 : decode cX6_count 8 = .ok (.istore_n 3, 1) := by decide +kernel
theorem dX6_count_9 : decode cX6_count 9 = .ok (.iconst 0, 1) := by decide +kernel
theorem dX6_count_10 : decode cX6_count 10 = .ok (.istore 4, 2) := by decide +kernel
theorem dX6_count_12 : decode cX6_count 12 = .ok (.iload 4, 2) := by decide +kernel
theorem dX6_count_14 : decode cX6_count 14 = .ok (.aload_n 0, 1) := by decide +kernel
theorem dX6_count_15 : decode cX6_count 15 = .ok (.getfield 88, 3) := by decide +kernel
theorem dX6_count_18 : decode cX6_count 18 = .ok (.if_icmp .ge 47, 3) := by decide +kernel
theorem dX6_count_21 : decode cX6_count 21 = .ok (.aload_n 0, 1) := by decide +kernel
theorem dX6_count_22 : decode cX6_count 22 = .ok (.iload 4, 2) := by decide +kernel
theorem dX6_count_24 : decode cX6_count 24 = .ok (.invokevirtual 94, 3) := by decide +kernel
theorem dX6_count_27 : decode cX6_count 27 = .ok (.invokestatic 76, 3) := by decide +kernel
theorem dX6_count_30 : decode cX6_count 30 = .ok (.istore 5, 2) := by decide +kernel
theorem dX6_count_32 : decode cX6_count 32 = .ok (.iload_n 2, 1) := by decide +kernel
theorem dX6_count_33 : decode cX6_count 33 = .ok (.iload 5, 2) := by decide +kernel
theorem dX6_count_35 : decode cX6_count 35 = .ok (.ifCond .ne 7, 3) := by decide +kernel
theorem dX6_count_38 : decode cX6_count 38 = .ok (.iconst 1, 1) := by decide +kernel
theorem dX6_count_39 : decode cX6_count 39 = .ok (.goto 4, 3) := by decide +kernel
theorem dX6_count_42 : decode cX6_count 42 = .ok (.iconst 0, 1) := by decide +kernel
theorem dX6_count_43 : decode cX6_count 43 = .ok (.iadd, 1) := by decide +kernel
theorem dX6_count_44 : decode cX6_count 44 = .ok (.istore_n 2, 1) := by decide +kernel
theorem dX6_count_45 : decode cX6_count 45 = .ok (.iload_n 3, 1) := by decide +kernel
theorem dX6_count_46 : decode cX6_count 46 = .ok (.iload 5, 2) := by decide +kernel
theorem dX6_count_48 : decode cX6_count 48 = .ok (.iconst 1, 1) := by decide +kernel
theorem dX6_count_49 : decode cX6_count 49 = .ok (.if_icmp .ne 7, 3) := by decide +kernel
theorem dX6_count_52 : decode cX6_count 52 = .ok (.iconst 1, 1) := by decide +kernel
theorem dX6_count_53 : decode cX6_count 53 = .ok (.goto 4, 3) := by decide +kernel
theorem dX6_count_56 : decode cX6_count 56 = .ok (.iconst 0, 1) := by decide +kernel
theorem dX6_count_57 : decode cX6_count 57 = .ok (.iadd, 1) := by decide +kernel
theorem dX6_count_58 : decode cX6_count 58 = .ok (.istore_n 3, 1) := by decide +kernel
theorem dX6_count_59 : decode cX6_count 59 = .ok (.iinc 4 1, 3) := by decide +kernel
theorem dX6_count_62 : decode cX6_count 62 = .ok (.goto (-50), 3) := by decide +kernel
theorem dX6_count_65 : decode cX6_count 65 = .ok (.iload_n 1, 1) := by decide +kernel
theorem dX6_count_66 : decode cX6_count 66 = .ok (.tableswitch 62 0 5 #[38, 43, 48, 53, 58, 60], 38) := by decide +kernel
theorem dX6_count_104 : decode cX6_count 104 = .ok (.aload_n 0, 1) := by decide +kernel
theorem dX6_count_105 : decode cX6_count 105 = .ok (.getfield 73, 3) := by decide +kernel
theorem dX6_count_108 : decode cX6_count 108 = .ok (.ireturn, 1) := by decide +kernel
theorem dX6_count_109 : decode cX6_count 109 = .ok (.aload_n 0, 1) := by decide +kernel
theorem dX6_count_110 : decode cX6_count 110 = .ok (.getfield 88, 3) := by decide +kernel
theorem dX6_count_113 : decode cX6_count 113 = .ok (.ireturn, 1) := by decide +kernel
theorem dX6_count_114 : decode cX6_count 114 = .ok (.aload_n 0, 1) := by decide +kernel
theorem dX6_count_115 : decode cX6_count 115 = .ok (.getfield 97, 3) := by decide +kernel
theorem dX6_count_118 : decode cX6_count 118 = .ok (.ireturn, 1) := by decide +kernel
theorem dX6_count_119 : decode cX6_count 119 = .ok (.aload_n 0, 1) := by decide +kernel
theorem dX6_count_120 : decode cX6_count 120 = .ok (.getfield 108, 3) := by decide +kernel
theorem dX6_count_123 : decode cX6_count 123 = .ok (.ireturn, 1) := by decide +kernel
theorem dX6_count_124 : decode cX6_count 124 = .ok (.iload_n 2, 1) := by decide +kernel
theorem dX6_count_125 : decode cX6_count 125 = .ok (.ireturn, 1) := by decide +kernel
theorem dX6_count_126 : decode cX6_count 126 = .ok (.iload_n 3, 1) := by decide +kernel
theorem dX6_count_127 : decode cX6_count 127 = .ok (.ireturn, 1) := by decide +kernel
theorem dX6_count_128 : decode cX6_count 128 = .ok (.iconst (-1), 1) := by decide +kernel
theorem dX6_count_129 : decode cX6_count 129 = .ok (.ireturn, 1) := by decide +kernel
theorem dX6_trace_0 : decode cX6_trace 0 = .ok (.aload_n 0, 1) := by decide +kernel
theorem dX6_trace_1 : decode cX6_trace 1 = .ok (.iconst 0, 1) := by decide +kernel
theorem dX6_trace_2 : decode cX6_trace 2 = .ok (.putfield 61, 3) := by decide +kernel
theorem dX6_trace_5 : decode cX6_trace 5 = .ok (.aload_n 0, 1) := by decide +kernel
theorem dX6_trace_6 : decode cX6_trace 6 = .ok (.getfield 100, 3) := by decide +kernel
theorem dX6_trace_9 : decode cX6_trace 9 = .ok (.lreturn, 1) := by decide +kernel
end
section
theorem dX0_init_0 : decode cX0_init 0 = .ok (.aload_n 0, 1) := by decide +kernel
theorem dX0_init_1 : decode cX0_init 1 = .ok (.invokespecial 3, 3) := by decide +kernel
theorem dX0_init_4 : decode cX0_init 4 = .ok (.aload_n 0, 1) := by decide +kernel
theorem dX0_init_5 : decode cX0_init 5 = .ok (.iconst 2, 1) := by decide +kernel
theorem dX0_init_6 : decode cX0_init 6 = .ok (.putfield 9, 3) := by decide +kernel
theorem dX0_init_9 : decode cX0_init 9 = .ok (.aload_n 0, 1) := by decide +kernel
theorem dX0_init_10 : decode cX0_init 10 = .ok (.iconst 4, 1) := by decide +kernel
theorem dX0_init_11 : decode cX0_init 11 = .ok (.putfield 15, 3) := by decide +kernel
theorem dX0_init_14 : decode cX0_init 14 = .ok (.aload_n 0, 1) := by decide +kernel
theorem dX0_init_15 : decode cX0_init 15 = .ok (.bipush 8, 2) := by decide +kernel
theorem dX0_init_17 : decode cX0_init 17 = .ok (.newarray .int, 2) := by decide +kernel
theorem dX0_init_19 : decode cX0_init 19 = .ok (.putfield 18, 3) := by decide +kernel
theorem dX0_init_22 : decode cX0_init 22 = .ok (.aload_n 0, 1) := by decide +kernel
theorem dX0_init_23 : decode cX0_init 23 = .ok (.bipush 8, 2) := by decide +kernel
theorem dX0_init_25 : decode cX0_init 25 = .ok (.newarray .int, 2) := by decide +kernel
theorem dX0_init_27 : decode cX0_init 27 = .ok (.putfield 22, 3) := by decide +kernel
theorem dX0_init_30 : decode cX0_init 30 = .ok (.aload_n 0, 1) := by decide +kernel
theorem dX0_init_31 : decode cX0_init 31 = .ok (.iconst 0, 1) := by decide +kernel
theorem dX0_init_32 : decode cX0_init 32 = .ok (.putfield 25, 3) := by decide +kernel
theorem dX0_init_35 : decode cX0_init 35 = .ok (.return_, 1) := by decide +kernel
theorem dX0_hasMap_0 : decode cX0_hasMap 0 = .ok (.iload_n 1, 1) := by decide +kernel
theorem dX0_hasMap_1 : decode cX0_hasMap 1 = .ok (.ifCond .lt 15, 3) := by decide +kernel
theorem dX0_hasMap_4 : decode cX0_hasMap 4 = .ok (.iload_n 1, 1) := by decide +kernel
theorem dX0_hasMap_5 : decode cX0_hasMap 5 = .ok (.aload_n 0, 1) := by decide +kernel
theorem dX0_hasMap_6 : decode cX0_hasMap 6 = .ok (.getfield 25, 3) := by decide +kernel
theorem dX0_hasMap_9 : decode cX0_hasMap 9 = .ok (.if_icmp .ge 7, 3) := by decide +kernel
theorem dX0_hasMap_12 : decode cX0_hasMap 12 = .ok (.iconst 1, 1) := by decide +kernel
theorem dX0_hasMap_13 : decode cX0_hasMap 13 = .ok (.goto 4, 3) := by decide +kernel
theorem dX0_hasMap_16 : decode cX0_hasMap 16 = .ok (.iconst 0, 1) := by decide +kernel
theorem dX0_hasMap_17 : decode cX0_hasMap 17 = .ok (.ireturn, 1) := by decide +kernel
theorem dX0_addMap_0 : decode cX0_addMap 0 = .ok (.aload_n 0, 1) := by decide +kernel
theorem dX0_addMap_1 : decode cX0_addMap 1 = .ok (.getfield 25, 3) := by decide +kernel
theorem dX0_addMap_4 : decode cX0_addMap 4 = .ok (.bipush 8, 2) := by decide +kernel
theorem dX0_addMap_6 : decode cX0_addMap 6 = .ok (.if_icmp .lt 6, 3) := by decide +kernel
theorem dX0_addMap_9 : decode cX0_addMap 9 = .ok (.bipush (-3), 2) := by decide +kernel
theorem dX0_addMap_11 : decode cX0_addMap 11 = .ok (.ireturn, 1) := by decide +kernel
theorem dX0_addMap_12 : decode cX0_addMap 12 = .ok (.aload_n 0, 1) := by decide +kernel
theorem dX0_addMap_13 : decode cX0_addMap 13 = .ok (.getfield 18, 3) := by decide +kernel
theorem dX0_addMap_16 : decode cX0_addMap 16 = .ok (.aload_n 0, 1) := by decide +kernel
theorem dX0_addMap_17 : decode cX0_addMap 17 = .ok (.getfield 25, 3) := by decide +kernel
theorem dX0_addMap_20 : decode cX0_addMap 20 = .ok (.iload_n 1, 1) := by decide +kernel
theorem dX0_addMap_21 : decode cX0_addMap 21 = .ok (.iastore, 1) := by decide +kernel
theorem dX0_addMap_22 : decode cX0_addMap 22 = .ok (.aload_n 0, 1) := by decide +kernel
theorem dX0_addMap_23 : decode cX0_addMap 23 = .ok (.getfield 22, 3) := by decide +kernel
theorem dX0_addMap_26 : decode cX0_addMap 26 = .ok (.aload_n 0, 1) := by decide +kernel
theorem dX0_addMap_27 : decode cX0_addMap 27 = .ok (.getfield 25, 3) := by decide +kernel
theorem dX0_addMap_30 : decode cX0_addMap 30 = .ok (.iload_n 2, 1) := by decide +kernel
theorem dX0_addMap_31 : decode cX0_addMap 31 = .ok (.iastore, 1) := by decide +kernel
theorem dX0_addMap_32 : decode cX0_addMap 32 = .ok (.aload_n 0, 1) := by decide +kernel
theorem dX0_addMap_33 : decode cX0_addMap 33 = .ok (.dup, 1) := by decide +kernel
theorem dX0_addMap_34 : decode cX0_addMap 34 = .ok (.getfield 25, 3) := by decide +kernel
theorem dX0_addMap_37 : decode cX0_addMap 37 = .ok (.dup_x1, 1) := by decide +kernel
theorem dX0_addMap_38 : decode cX0_addMap 38 = .ok (.iconst 1, 1) := by decide +kernel
theorem dX0_addMap_39 : decode cX0_addMap 39 = .ok (.iadd, 1) := by decide +kernel
theorem dX0_addMap_40 : decode cX0_addMap 40 = .ok (.putfield 25, 3) := by decide +kernel
theorem dX0_addMap_43 : decode cX0_addMap 43 = .ok (.ireturn, 1) := by decide +kernel
theorem dX0_mayComeFrom_0 : decode cX0_mayComeFrom 0 = .ok (.aload_n 0, 1) := by decide +kernel
theorem dX0_mayComeFrom_1 : decode cX0_mayComeFrom 1 = .ok (.iload_n 1, 1) := by decide +kernel
theorem dX0_mayComeFrom_2 : decode cX0_mayComeFrom 2 = .ok (.invokevirtual 28, 3) := by decide +kernel
theorem dX0_mayComeFrom_5 : decode cX0_mayComeFrom 5 = .ok (.ifCond .ne 5, 3) := by decide +kernel
theorem dX0_mayComeFrom_8 : decode cX0_mayComeFrom 8 = .ok (.iconst 0, 1) := by decide +kernel
theorem dX0_mayComeFrom_9 : decode cX0_mayComeFrom 9 = .ok (.ireturn, 1) := by decide +kernel
theorem dX0_mayComeFrom_10 : decode cX0_mayComeFrom 10 = .ok (.iload_n 2, 1) := by decide +kernel
theorem dX0_mayComeFrom_11 : decode cX0_mayComeFrom 11 = .ok (.bipush (-9), 2) := by decide +kernel
theorem dX0_mayComeFrom_13 : decode cX0_mayComeFrom 13 = .ok (.if_icmp .eq 26, 3) := by decide +kernel
theorem dX0_mayComeFrom_16 : decode cX0_mayComeFrom 16 = .ok (.aload_n 0, 1) := by decide +kernel
theorem dX0_mayComeFrom_17 : decode cX0_mayComeFrom 17 = .ok (.iload_n 2, 1) := by decide +kernel
theorem dX0_mayComeFrom_18 : decode cX0_mayComeFrom 18 = .ok (.invokevirtual 28, 3) := by decide +kernel
theorem dX0_mayComeFrom_21 : decode cX0_mayComeFrom 21 = .ok (.ifCond .eq 22, 3) := by decide +kernel
theorem dX0_mayComeFrom_24 : decode cX0_mayComeFrom 24 = .ok (.aload_n 0, 1) := by decide +kernel
theorem dX0_mayComeFrom_25 : decode cX0_mayComeFrom 25 = .ok (.getfield 18, 3) := by decide +kernel
theorem dX0_mayComeFrom_28 : decode cX0_mayComeFrom 28 = .ok (.iload_n 2, 1) := by decide +kernel
theorem dX0_mayComeFrom_29 : decode cX0_mayComeFrom 29 = .ok (.iaload, 1) := by decide +kernel
theorem dX0_mayComeFrom_30 : decode cX0_mayComeFrom 30 = .ok (.aload_n 0, 1) := by decide +kernel
theorem dX0_mayComeFrom_31 : decode cX0_mayComeFrom 31 = .ok (.getfield 18, 3) := by decide +kernel
theorem dX0_mayComeFrom_34 : decode cX0_mayComeFrom 34 = .ok (.iload_n 1, 1) := by decide +kernel
theorem dX0_mayComeFrom_35 : decode cX0_mayComeFrom 35 = .ok (.iaload, 1) := by decide +kernel
theorem dX0_mayComeFrom_36 : decode cX0_mayComeFrom 36 = .ok (.if_icmp .ge 7, 3) := by decide +kernel
theorem dX0_mayComeFrom_39 : decode cX0_mayComeFrom 39 = .ok (.iconst 1, 1) := by decide +kernel
theorem dX0_mayComeFrom_40 : decode cX0_mayComeFrom 40 = .ok (.goto 4, 3) := by decide +kernel
theorem dX0_mayComeFrom_43 : decode cX0_mayComeFrom 43 = .ok (.iconst 0, 1) := by decide +kernel
theorem dX0_mayComeFrom_44 : decode cX0_mayComeFrom 44 = .ok (.ireturn, 1) := by decide +kernel
theorem dX0_costOf_0 : decode cX0_costOf 0 = .ok (.aload_n 0, 1) := by decide +kernel
theorem dX0_costOf_1 : decode cX0_costOf 1 = .ok (.iload_n 2, 1) := by decide +kernel
theorem dX0_costOf_2 : decode cX0_costOf 2 = .ok (.invokevirtual 28, 3) := by decide +kernel
theorem dX0_costOf_5 : decode cX0_costOf 5 = .ok (.ifCond .ne 18, 3) := by decide +kernel
theorem dX0_costOf_8 : decode cX0_costOf 8 = .ok (.aload_n 0, 1) := by decide +kernel
theorem dX0_costOf_9 : decode cX0_costOf 9 = .ok (.getfield 22, 3) := by decide +kernel
theorem dX0_costOf_12 : decode cX0_costOf 12 = .ok (.iload_n 1, 1) := by decide +kernel
theorem dX0_costOf_13 : decode cX0_costOf 13 = .ok (.iaload, 1) := by decide +kernel
theorem dX0_costOf_14 : decode cX0_costOf 14 = .ok (.invokestatic 32, 3) := by decide +kernel
theorem dX0_costOf_17 : decode cX0_costOf 17 = .ok (.aload_n 0, 1) := by decide +kernel
theorem dX0_costOf_18 : decode cX0_costOf 18 = .ok (.getfield 15, 3) := by decide +kernel
theorem dX0_costOf_21 : decode cX0_costOf 21 = .ok (.iadd, 1) := by decide +kernel
theorem dX0_costOf_22 : decode cX0_costOf 22 = .ok (.ireturn, 1) := by decide +kernel
theorem dX0_costOf_23 : decode cX0_costOf 23 = .ok (.aload_n 0, 1) := by decide +kernel
theorem dX0_costOf_24 : decode cX0_costOf 24 = .ok (.getfield 22, 3) := by decide +kernel
theorem dX0_costOf_27 : decode cX0_costOf 27 = .ok (.iload_n 1, 1) := by decide +kernel
theorem dX0_costOf_28 : decode cX0_costOf 28 = .ok (.iaload, 1) := by decide +kernel
theorem dX0_costOf_29 : decode cX0_costOf 29 = .ok (.aload_n 0, 1) := by decide +kernel
theorem dX0_costOf_30 : decode cX0_costOf 30 = .ok (.getfield 22, 3) := by decide +kernel
theorem dX0_costOf_33 : decode cX0_costOf 33 = .ok (.iload_n 2, 1) := by decide +kernel
theorem dX0_costOf_34 : decode cX0_costOf 34 = .ok (.iaload, 1) := by decide +kernel
theorem dX0_costOf_35 : decode cX0_costOf 35 = .ok (.iconst (-1), 1) := by decide +kernel
theorem dX0_costOf_36 : decode cX0_costOf 36 = .ok (.ixor, 1) := by decide +kernel
theorem dX0_costOf_37 : decode cX0_costOf 37 = .ok (.iand, 1) := by decide +kernel
theorem dX0_costOf_38 : decode cX0_costOf 38 = .ok (.invokestatic 32, 3) := by decide +kernel
theorem dX0_costOf_41 : decode cX0_costOf 41 = .ok (.istore_n 3, 1) := by decide +kernel
theorem dX0_costOf_42 : decode cX0_costOf 42 = .ok (.aload_n 0, 1) := by decide +kernel
theorem dX0_costOf_43 : decode cX0_costOf 43 = .ok (.getfield 22, 3) := by decide +kernel
theorem dX0_costOf_46 : decode cX0_costOf 46 = .ok (.iload_n 2, 1) := by decide +kernel
theorem dX0_costOf_47 : decode cX0_costOf 47 = .ok (.iaload, 1) := by decide +kernel
theorem dX0_costOf_48 : decode cX0_costOf 48 = .ok (.aload_n 0, 1) := by decide +kernel
theorem dX0_costOf_49 : decode cX0_costOf 49 = .ok (.getfield 22, 3) := by decide +kernel
theorem dX0_costOf_52 : decode cX0_costOf 52 = .ok (.iload_n 1, 1) := by decide +kernel
theorem dX0_costOf_53 : decode cX0_costOf 53 = .ok (.iaload, 1) := by decide +kernel
theorem dX0_costOf_54 : decode cX0_costOf 54 = .ok (.iconst (-1), 1) := by decide +kernel
theorem dX0_costOf_55 : decode cX0_costOf 55 = .ok (.ixor, 1) := by decide +kernel
theorem dX0_costOf_56 : decode cX0_costOf 56 = .ok (.iand, 1) := by decide +kernel
theorem dX0_costOf_57 : decode cX0_costOf 57 = .ok (.invokestatic 32, 3) := by decide +kernel
theorem dX0_costOf_60 : decode cX0_costOf 60 = .ok (.istore 4, 2) := by decide +kernel
theorem dX0_costOf_62 : decode cX0_costOf 62 = .ok (.iload_n 3, 1) := by decide +kernel
theorem dX0_costOf_63 : decode cX0_costOf 63 = .ok (.iload 4, 2) := by decide +kernel
theorem dX0_costOf_65 : decode cX0_costOf 65 = .ok (.aload_n 0, 1) := by decide +kernel
theorem dX0_costOf_66 : decode cX0_costOf 66 = .ok (.getfield 9, 3) := by decide +kernel
theorem dX0_costOf_69 : decode cX0_costOf 69 = .ok (.imul, 1) := by decide +kernel
theorem dX0_costOf_70 : decode cX0_costOf 70 = .ok (.iadd, 1) := by decide +kernel
theorem dX0_costOf_71 : decode cX0_costOf 71 = .ok (.ireturn, 1) := by decide +kernel
theorem dX0_cheapest_0 : decode cX0_cheapest 0 = .ok (.bipush (-9), 2) := by decide +kernel
theorem dX0_cheapest_2 : decode cX0_cheapest 2 = .ok (.istore_n 2, 1) := by decide +kernel
theorem dX0_cheapest_3 : decode cX0_cheapest 3 = .ok (.aload_n 0, 1) := by decide +kernel
theorem dX0_cheapest_4 : decode cX0_cheapest 4 = .ok (.iload_n 1, 1) := by decide +kernel
theorem dX0_cheapest_5 : decode cX0_cheapest 5 = .ok (.bipush (-9), 2) := by decide +kernel
theorem dX0_cheapest_7 : decode cX0_cheapest 7 = .ok (.invokevirtual 38, 3) := by decide +kernel
theorem dX0_cheapest_10 : decode cX0_cheapest 10 = .ok (.istore_n 3, 1) := by decide +kernel
theorem dX0_cheapest_11 : decode cX0_cheapest 11 = .ok (.iconst 0, 1) := by decide +kernel
theorem dX0_cheapest_12 : decode cX0_cheapest 12 = .ok (.istore 4, 2) := by decide +kernel
theorem dX0_cheapest_14 : decode cX0_cheapest 14 = .ok (.iload 4, 2) := by decide +kernel
theorem dX0_cheapest_16 : decode cX0_cheapest 16 = .ok (.aload_n 0, 1) := by decide +kernel
theorem dX0_cheapest_17 : decode cX0_cheapest 17 = .ok (.getfield 25, 3) := by decide +kernel
theorem dX0_cheapest_20 : decode cX0_cheapest 20 = .ok (.if_icmp .ge 41, 3) := by decide +kernel
theorem dX0_cheapest_23 : decode cX0_cheapest 23 = .ok (.aload_n 0, 1) := by decide +kernel
theorem dX0_cheapest_24 : decode cX0_cheapest 24 = .ok (.iload_n 1, 1) := by decide +kernel
theorem dX0_cheapest_25 : decode cX0_cheapest 25 = .ok (.iload 4, 2) := by decide +kernel
theorem dX0_cheapest_27 : decode cX0_cheapest 27 = .ok (.invokevirtual 42, 3) := by decide +kernel
theorem dX0_cheapest_30 : decode cX0_cheapest 30 = .ok (.ifCond .eq 25, 3) := by decide +kernel
theorem dX0_cheapest_33 : decode cX0_cheapest 33 = .ok (.aload_n 0, 1) := by decide +kernel
theorem dX0_cheapest_34 : decode cX0_cheapest 34 = .ok (.iload_n 1, 1) := by decide +kernel
theorem dX0_cheapest_35 : decode cX0_cheapest 35 = .ok (.iload 4, 2) := by decide +kernel
theorem dX0_cheapest_37 : decode cX0_cheapest 37 = .ok (.invokevirtual 38, 3) := by decide +kernel
theorem dX0_cheapest_40 : decode cX0_cheapest 40 = .ok (.iload_n 3, 1) := by decide +kernel
theorem dX0_cheapest_41 : decode cX0_cheapest 41 = .ok (.if_icmp .ge 14, 3) := by decide +kernel
theorem dX0_cheapest_44 : decode cX0_cheapest 44 = .ok (.iload 4, 2) := by decide +kernel
theorem dX0_cheapest_46 : decode cX0_cheapest 46 = .ok (.istore_n 2, 1) := by decide +kernel
theorem dX0_cheapest_47 : decode cX0_cheapest 47 = .ok (.aload_n 0, 1) := by decide +kernel
theorem dX0_cheapest_48 : decode cX0_cheapest 48 = .ok (.iload_n 1, 1) := by decide +kernel
theorem dX0_cheapest_49 : decode cX0_cheapest 49 = .ok (.iload 4, 2) := by decide +kernel
theorem dX0_cheapest_51 : decode cX0_cheapest 51 = .ok (.invokevirtual 38, 3) := by decide +kernel
theorem dX0_cheapest_54 : decode cX0_cheapest 54 = .ok (.istore_n 3, 1) := by decide +kernel
theorem dX0_cheapest_55 : decode cX0_cheapest 55 = .ok (.iinc 4 1, 3) := by decide +kernel
theorem dX0_cheapest_58 : decode cX0_cheapest 58 = .ok (.goto (-44), 3) := by decide +kernel
theorem dX0_cheapest_61 : decode cX0_cheapest 61 = .ok (.iload_n 2, 1) := by decide +kernel
theorem dX0_cheapest_62 : decode cX0_cheapest 62 = .ok (.ireturn, 1) := by decide +kernel
theorem dX0_rivalCount_0 : decode cX0_rivalCount 0 = .ok (.aload_n 0, 1) := by decide +kernel
theorem dX0_rivalCount_1 : decode cX0_rivalCount 1 = .ok (.iload_n 1, 1) := by decide +kernel
theorem dX0_rivalCount_2 : decode cX0_rivalCount 2 = .ok (.invokevirtual 46, 3) := by decide +kernel
theorem dX0_rivalCount_5 : decode cX0_rivalCount 5 = .ok (.istore_n 2, 1) := by decide +kernel
theorem dX0_rivalCount_6 : decode cX0_rivalCount 6 = .ok (.aload_n 0, 1) := by decide +kernel
theorem dX0_rivalCount_7 : decode cX0_rivalCount 7 = .ok (.iload_n 1, 1) := by decide +kernel
theorem dX0_rivalCount_8 : decode cX0_rivalCount 8 = .ok (.iload_n 2, 1) := by decide +kernel
theorem dX0_rivalCount_9 : decode cX0_rivalCount 9 = .ok (.invokevirtual 38, 3) := by decide +kernel
theorem dX0_rivalCount_12 : decode cX0_rivalCount 12 = .ok (.istore_n 3, 1) := by decide +kernel
theorem dX0_rivalCount_13 : decode cX0_rivalCount 13 = .ok (.iconst 0, 1) := by decide +kernel
theorem dX0_rivalCount_14 : decode cX0_rivalCount 14 = .ok (.istore 4, 2) := by decide +kernel
theorem dX0_rivalCount_16 : decode cX0_rivalCount 16 = .ok (.iconst 0, 1) := by decide +kernel
theorem dX0_rivalCount_17 : decode cX0_rivalCount 17 = .ok (.istore 5, 2) := by decide +kernel
theorem dX0_rivalCount_19 : decode cX0_rivalCount 19 = .ok (.iload 5, 2) := by decide +kernel
theorem dX0_rivalCount_21 : decode cX0_rivalCount 21 = .ok (.aload_n 0, 1) := by decide +kernel
theorem dX0_rivalCount_22 : decode cX0_rivalCount 22 = .ok (.getfield 25, 3) := by decide +kernel
theorem dX0_rivalCount_25 : decode cX0_rivalCount 25 = .ok (.if_icmp .ge 39, 3) := by decide +kernel
theorem dX0_rivalCount_28 : decode cX0_rivalCount 28 = .ok (.iload 5, 2) := by decide +kernel
theorem dX0_rivalCount_30 : decode cX0_rivalCount 30 = .ok (.iload_n 2, 1) := by decide +kernel
theorem dX0_rivalCount_31 : decode cX0_rivalCount 31 = .ok (.if_icmp .eq 27, 3) := by decide +kernel
theorem dX0_rivalCount_34 : decode cX0_rivalCount 34 = .ok (.aload_n 0, 1) := by decide +kernel
theorem dX0_rivalCount_35 : decode cX0_rivalCount 35 = .ok (.iload_n 1, 1) := by decide +kernel
theorem dX0_rivalCount_36 : decode cX0_rivalCount 36 = .ok (.iload 5, 2) := by decide +kernel
theorem dX0_rivalCount_38 : decode cX0_rivalCount 38 = .ok (.invokevirtual 42, 3) := by decide +kernel
theorem dX0_rivalCount_41 : decode cX0_rivalCount 41 = .ok (.ifCond .eq 17, 3) := by decide +kernel
theorem dX0_rivalCount_44 : decode cX0_rivalCount 44 = .ok (.aload_n 0, 1) := by decide +kernel
theorem dX0_rivalCount_45 : decode cX0_rivalCount 45 = .ok (.iload_n 1, 1) := by decide +kernel
theorem dX0_rivalCount_46 : decode cX0_rivalCount 46 = .ok (.iload 5, 2) := by decide +kernel
theorem dX0_rivalCount_48 : decode cX0_rivalCount 48 = .ok (.invokevirtual 38, 3) := by decide +kernel
theorem dX0_rivalCount_51 : decode cX0_rivalCount 51 = .ok (.iload_n 3, 1) := by decide +kernel
theorem dX0_rivalCount_52 : decode cX0_rivalCount 52 = .ok (.if_icmp .ne 6, 3) := by decide +kernel
theorem dX0_rivalCount_55 : decode cX0_rivalCount 55 = .ok (.iinc 4 1, 3) := by decide +kernel
theorem dX0_rivalCount_58 : decode cX0_rivalCount 58 = .ok (.iinc 5 1, 3) := by decide +kernel
theorem dX0_rivalCount_61 : decode cX0_rivalCount 61 = .ok (.goto (-42), 3) := by decide +kernel
theorem dX0_rivalCount_64 : decode cX0_rivalCount 64 = .ok (.iload 4, 2) := by decide +kernel
theorem dX0_rivalCount_66 : decode cX0_rivalCount 66 = .ok (.ireturn, 1) := by decide +kernel
theorem dX0_lifeOf_0 : decode cX0_lifeOf 0 = .ok (.iconst 0, 1) := by decide +kernel
theorem dX0_lifeOf_1 : decode cX0_lifeOf 1 = .ok (.istore_n 3, 1) := by decide +kernel
theorem dX0_lifeOf_2 : decode cX0_lifeOf 2 = .ok (.iconst 0, 1) := by decide +kernel
theorem dX0_lifeOf_3 : decode cX0_lifeOf 3 = .ok (.istore 4, 2) := by decide +kernel
theorem dX0_lifeOf_5 : decode cX0_lifeOf 5 = .ok (.iload 4, 2) := by decide +kernel
theorem dX0_lifeOf_7 : decode cX0_lifeOf 7 = .ok (.aload_n 0, 1) := by decide +kernel
theorem dX0_lifeOf_8 : decode cX0_lifeOf 8 = .ok (.getfield 25, 3) := by decide +kernel
theorem dX0_lifeOf_11 : decode cX0_lifeOf 11 = .ok (.if_icmp .ge 23, 3) := by decide +kernel
theorem dX0_lifeOf_14 : decode cX0_lifeOf 14 = .ok (.aload_n 0, 1) := by decide +kernel
theorem dX0_lifeOf_15 : decode cX0_lifeOf 15 = .ok (.iload 4, 2) := by decide +kernel
theorem dX0_lifeOf_17 : decode cX0_lifeOf 17 = .ok (.iload_n 1, 1) := by decide +kernel
theorem dX0_lifeOf_18 : decode cX0_lifeOf 18 = .ok (.iload_n 2, 1) := by decide +kernel
theorem dX0_lifeOf_19 : decode cX0_lifeOf 19 = .ok (.invokevirtual 49, 3) := by decide +kernel
theorem dX0_lifeOf_22 : decode cX0_lifeOf 22 = .ok (.ifCond .eq 6, 3) := by decide +kernel
theorem dX0_lifeOf_25 : decode cX0_lifeOf 25 = .ok (.iinc 3 1, 3) := by decide +kernel
theorem dX0_lifeOf_28 : decode cX0_lifeOf 28 = .ok (.iinc 4 1, 3) := by decide +kernel
theorem dX0_lifeOf_31 : decode cX0_lifeOf 31 = .ok (.goto (-26), 3) := by decide +kernel
theorem dX0_lifeOf_34 : decode cX0_lifeOf 34 = .ok (.iload_n 3, 1) := by decide +kernel
theorem dX0_lifeOf_35 : decode cX0_lifeOf 35 = .ok (.ireturn, 1) := by decide +kernel
theorem dX0_hasItFrom_0 : decode cX0_hasItFrom 0 = .ok (.iload_n 1, 1) := by decide +kernel
theorem dX0_hasItFrom_1 : decode cX0_hasItFrom 1 = .ok (.istore 4, 2) := by decide +kernel
theorem dX0_hasItFrom_3 : decode cX0_hasItFrom 3 = .ok (.iconst 0, 1) := by decide +kernel
theorem dX0_hasItFrom_4 : decode cX0_hasItFrom 4 = .ok (.istore 5, 2) := by decide +kernel
theorem dX0_hasItFrom_6 : decode cX0_hasItFrom 6 = .ok (.iload 5, 2) := by decide +kernel
theorem dX0_hasItFrom_8 : decode cX0_hasItFrom 8 = .ok (.bipush 8, 2) := by decide +kernel
theorem dX0_hasItFrom_10 : decode cX0_hasItFrom 10 = .ok (.if_icmp .ge 50, 3) := by decide +kernel
theorem dX0_hasItFrom_13 : decode cX0_hasItFrom 13 = .ok (.aload_n 0, 1) := by decide +kernel
theorem dX0_hasItFrom_14 : decode cX0_hasItFrom 14 = .ok (.iload 4, 2) := by decide +kernel
theorem dX0_hasItFrom_16 : decode cX0_hasItFrom 16 = .ok (.invokevirtual 28, 3) := by decide +kernel
theorem dX0_hasItFrom_19 : decode cX0_hasItFrom 19 = .ok (.ifCond .eq 17, 3) := by decide +kernel
theorem dX0_hasItFrom_22 : decode cX0_hasItFrom 22 = .ok (.aload_n 0, 1) := by decide +kernel
theorem dX0_hasItFrom_23 : decode cX0_hasItFrom 23 = .ok (.getfield 22, 3) := by decide +kernel
theorem dX0_hasItFrom_26 : decode cX0_hasItFrom 26 = .ok (.iload 4, 2) := by decide +kernel
theorem dX0_hasItFrom_28 : decode cX0_hasItFrom 28 = .ok (.iaload, 1) := by decide +kernel
theorem dX0_hasItFrom_29 : decode cX0_hasItFrom 29 = .ok (.iload_n 3, 1) := by decide +kernel
theorem dX0_hasItFrom_30 : decode cX0_hasItFrom 30 = .ok (.invokestatic 53, 3) := by decide +kernel
theorem dX0_hasItFrom_33 : decode cX0_hasItFrom 33 = .ok (.ifCond .ne 5, 3) := by decide +kernel
theorem dX0_hasItFrom_36 : decode cX0_hasItFrom 36 = .ok (.iconst 0, 1) := by decide +kernel
theorem dX0_hasItFrom_37 : decode cX0_hasItFrom 37 = .ok (.ireturn, 1) := by decide +kernel
theorem dX0_hasItFrom_38 : decode cX0_hasItFrom 38 = .ok (.iload 4, 2) := by decide +kernel
theorem dX0_hasItFrom_40 : decode cX0_hasItFrom 40 = .ok (.iload_n 2, 1) := by decide +kernel
theorem dX0_hasItFrom_41 : decode cX0_hasItFrom 41 = .ok (.if_icmp .ne 5, 3) := by decide +kernel
theorem dX0_hasItFrom_44 : decode cX0_hasItFrom 44 = .ok (.iconst 1, 1) := by decide +kernel
theorem dX0_hasItFrom_45 : decode cX0_hasItFrom 45 = .ok (.ireturn, 1) := by decide +kernel
theorem dX0_hasItFrom_46 : decode cX0_hasItFrom 46 = .ok (.aload_n 0, 1) := by decide +kernel
theorem dX0_hasItFrom_47 : decode cX0_hasItFrom 47 = .ok (.iload 4, 2) := by decide +kernel
theorem dX0_hasItFrom_49 : decode cX0_hasItFrom 49 = .ok (.invokevirtual 46, 3) := by decide +kernel
theorem dX0_hasItFrom_52 : decode cX0_hasItFrom 52 = .ok (.istore 4, 2) := by decide +kernel
theorem dX0_hasItFrom_54 : decode cX0_hasItFrom 54 = .ok (.iinc 5 1, 3) := by decide +kernel
theorem dX0_hasItFrom_57 : decode cX0_hasItFrom 57 = .ok (.goto (-51), 3) := by decide +kernel
theorem dX0_hasItFrom_60 : decode cX0_hasItFrom 60 = .ok (.iconst 0, 1) := by decide +kernel
theorem dX0_hasItFrom_61 : decode cX0_hasItFrom 61 = .ok (.ireturn, 1) := by decide +kernel
theorem dX1_init_0 : decode cX1_init 0 = .ok (.aload_n 0, 1) := by decide +kernel
theorem dX1_init_1 : decode cX1_init 1 = .ok (.invokespecial 3, 3) := by decide +kernel
theorem dX1_init_4 : decode cX1_init 4 = .ok (.aload_n 0, 1) := by decide +kernel
theorem dX1_init_5 : decode cX1_init 5 = .ok (.bipush 6, 2) := by decide +kernel
theorem dX1_init_7 : decode cX1_init 7 = .ok (.newarray .int, 2) := by decide +kernel
theorem dX1_init_9 : decode cX1_init 9 = .ok (.putfield 11, 3) := by decide +kernel
theorem dX1_init_12 : decode cX1_init 12 = .ok (.aload_n 0, 1) := by decide +kernel
theorem dX1_init_13 : decode cX1_init 13 = .ok (.iconst 0, 1) := by decide +kernel
theorem dX1_init_14 : decode cX1_init 14 = .ok (.putfield 15, 3) := by decide +kernel
theorem dX1_init_17 : decode cX1_init 17 = .ok (.return_, 1) := by decide +kernel
theorem dX1_isPlace_0 : decode cX1_isPlace 0 = .ok (.iload_n 0, 1) := by decide +kernel
theorem dX1_isPlace_1 : decode cX1_isPlace 1 = .ok (.ifCond .lt 13, 3) := by decide +kernel
theorem dX1_isPlace_4 : decode cX1_isPlace 4 = .ok (.iload_n 0, 1) := by decide +kernel
theorem dX1_isPlace_5 : decode cX1_isPlace 5 = .ok (.bipush 100, 2) := by decide +kernel
theorem dX1_isPlace_7 : decode cX1_isPlace 7 = .ok (.if_icmp .ge 7, 3) := by decide +kernel
theorem dX1_isPlace_10 : decode cX1_isPlace 10 = .ok (.iconst 1, 1) := by decide +kernel
theorem dX1_isPlace_11 : decode cX1_isPlace 11 = .ok (.goto 4, 3) := by decide +kernel
theorem dX1_isPlace_14 : decode cX1_isPlace 14 = .ok (.iconst 0, 1) := by decide +kernel
theorem dX1_isPlace_15 : decode cX1_isPlace 15 = .ok (.ireturn, 1) := by decide +kernel
theorem dX1_isShift_0 : decode cX1_isShift 0 = .ok (.iload_n 0, 1) := by decide +kernel
theorem dX1_isShift_1 : decode cX1_isShift 1 = .ok (.bipush (-20), 2) := by decide +kernel
theorem dX1_isShift_3 : decode cX1_isShift 3 = .ok (.if_icmp .lt 13, 3) := by decide +kernel
theorem dX1_isShift_6 : decode cX1_isShift 6 = .ok (.iload_n 0, 1) := by decide +kernel
theorem dX1_isShift_7 : decode cX1_isShift 7 = .ok (.bipush 20, 2) := by decide +kernel
theorem dX1_isShift_9 : decode cX1_isShift 9 = .ok (.if_icmp .gt 7, 3) := by decide +kernel
theorem dX1_isShift_12 : decode cX1_isShift 12 = .ok (.iconst 1, 1) := by decide +kernel
theorem dX1_isShift_13 : decode cX1_isShift 13 = .ok (.goto 4, 3) := by decide +kernel
theorem dX1_isShift_16 : decode cX1_isShift 16 = .ok (.iconst 0, 1) := by decide +kernel
theorem dX1_isShift_17 : decode cX1_isShift 17 = .ok (.ireturn, 1) := by decide +kernel
theorem dX1_bore_0 : decode cX1_bore 0 = .ok (.aload_n 0, 1) := by decide +kernel
theorem dX1_bore_1 : decode cX1_bore 1 = .ok (.iload_n 1, 1) := by decide +kernel
theorem dX1_bore_2 : decode cX1_bore 2 = .ok (.iconst 0, 1) := by decide +kernel
theorem dX1_bore_3 : decode cX1_bore 3 = .ok (.invokevirtual 19, 3) := by decide +kernel
theorem dX1_bore_6 : decode cX1_bore 6 = .ok (.ifCond .eq 8, 3) := by decide +kernel
theorem dX1_bore_9 : decode cX1_bore 9 = .ok (.aload_n 0, 1) := by decide +kernel
theorem dX1_bore_10 : decode cX1_bore 10 = .ok (.getfield 15, 3) := by decide +kernel
theorem dX1_bore_13 : decode cX1_bore 13 = .ok (.ireturn, 1) := by decide +kernel
theorem dX1_bore_14 : decode cX1_bore 14 = .ok (.aload_n 0, 1) := by decide +kernel
theorem dX1_bore_15 : decode cX1_bore 15 = .ok (.getfield 15, 3) := by decide +kernel
theorem dX1_bore_18 : decode cX1_bore 18 = .ok (.bipush 6, 2) := by decide +kernel
theorem dX1_bore_20 : decode cX1_bore 20 = .ok (.if_icmp .lt 6, 3) := by decide +kernel
theorem dX1_bore_23 : decode cX1_bore 23 = .ok (.bipush (-3), 2) := by decide +kernel
theorem dX1_bore_25 : decode cX1_bore 25 = .ok (.ireturn, 1) := by decide +kernel
theorem dX1_bore_26 : decode cX1_bore 26 = .ok (.aload_n 0, 1) := by decide +kernel
theorem dX1_bore_27 : decode cX1_bore 27 = .ok (.getfield 11, 3) := by decide +kernel
theorem dX1_bore_30 : decode cX1_bore 30 = .ok (.aload_n 0, 1) := by decide +kernel
theorem dX1_bore_31 : decode cX1_bore 31 = .ok (.getfield 15, 3) := by decide +kernel
theorem dX1_bore_34 : decode cX1_bore 34 = .ok (.iload_n 1, 1) := by decide +kernel
theorem dX1_bore_35 : decode cX1_bore 35 = .ok (.iastore, 1) := by decide +kernel
theorem dX1_bore_36 : decode cX1_bore 36 = .ok (.aload_n 0, 1) := by decide +kernel
theorem dX1_bore_37 : decode cX1_bore 37 = .ok (.dup, 1) := by decide +kernel
theorem dX1_bore_38 : decode cX1_bore 38 = .ok (.getfield 15, 3) := by decide +kernel
theorem dX1_bore_41 : decode cX1_bore 41 = .ok (.iconst 1, 1) := by decide +kernel
theorem dX1_bore_42 : decode cX1_bore 42 = .ok (.iadd, 1) := by decide +kernel
theorem dX1_bore_43 : decode cX1_bore 43 = .ok (.putfield 15, 3) := by decide +kernel
theorem dX1_bore_46 : decode cX1_bore 46 = .ok (.aload_n 0, 1) := by decide +kernel
theorem dX1_bore_47 : decode cX1_bore 47 = .ok (.getfield 15, 3) := by decide +kernel
theorem dX1_bore_50 : decode cX1_bore 50 = .ok (.ireturn, 1) := by decide +kernel
theorem dX1_isWithin_0 : decode cX1_isWithin 0 = .ok (.iconst 0, 1) := by decide +kernel
theorem dX1_isWithin_1 : decode cX1_isWithin 1 = .ok (.istore_n 3, 1) := by decide +kernel
theorem dX1_isWithin_2 : decode cX1_isWithin 2 = .ok (.iload_n 3, 1) := by decide +kernel
theorem dX1_isWithin_3 : decode cX1_isWithin 3 = .ok (.aload_n 0, 1) := by decide +kernel
theorem dX1_isWithin_4 : decode cX1_isWithin 4 = .ok (.getfield 15, 3) := by decide +kernel
theorem dX1_isWithin_7 : decode cX1_isWithin 7 = .ok (.if_icmp .ge 26, 3) := by decide +kernel
theorem dX1_isWithin_10 : decode cX1_isWithin 10 = .ok (.aload_n 0, 1) := by decide +kernel
theorem dX1_isWithin_11 : decode cX1_isWithin 11 = .ok (.getfield 11, 3) := by decide +kernel
theorem dX1_isWithin_14 : decode cX1_isWithin 14 = .ok (.iload_n 3, 1) := by decide +kernel
theorem dX1_isWithin_15 : decode cX1_isWithin 15 = .ok (.iaload, 1) := by decide +kernel
theorem dX1_isWithin_16 : decode cX1_isWithin 16 = .ok (.iload_n 1, 1) := by decide +kernel
theorem dX1_isWithin_17 : decode cX1_isWithin 17 = .ok (.isub, 1) := by decide +kernel
theorem dX1_isWithin_18 : decode cX1_isWithin 18 = .ok (.invokestatic 23, 3) := by decide +kernel
theorem dX1_isWithin_21 : decode cX1_isWithin 21 = .ok (.iload_n 2, 1) := by decide +kernel
theorem dX1_isWithin_22 : decode cX1_isWithin 22 = .ok (.if_icmp .gt 5, 3) := by decide +kernel
theorem dX1_isWithin_25 : decode cX1_isWithin 25 = .ok (.iconst 1, 1) := by decide +kernel
theorem dX1_isWithin_26 : decode cX1_isWithin 26 = .ok (.ireturn, 1) := by decide +kernel
theorem dX1_isWithin_27 : decode cX1_isWithin 27 = .ok (.iinc 3 1, 3) := by decide +kernel
theorem dX1_isWithin_30 : decode cX1_isWithin 30 = .ok (.goto (-28), 3) := by decide +kernel
theorem dX1_isWithin_33 : decode cX1_isWithin 33 = .ok (.iconst 0, 1) := by decide +kernel
theorem dX1_isWithin_34 : decode cX1_isWithin 34 = .ok (.ireturn, 1) := by decide +kernel
theorem dX1_fitting_0 : decode cX1_fitting 0 = .ok (.iconst 0, 1) := by decide +kernel
theorem dX1_fitting_1 : decode cX1_fitting 1 = .ok (.istore_n 3, 1) := by decide +kernel
theorem dX1_fitting_2 : decode cX1_fitting 2 = .ok (.iconst 0, 1) := by decide +kernel
theorem dX1_fitting_3 : decode cX1_fitting 3 = .ok (.istore 4, 2) := by decide +kernel
theorem dX1_fitting_5 : decode cX1_fitting 5 = .ok (.iload 4, 2) := by decide +kernel
theorem dX1_fitting_7 : decode cX1_fitting 7 = .ok (.aload_n 0, 1) := by decide +kernel
theorem dX1_fitting_8 : decode cX1_fitting 8 = .ok (.getfield 15, 3) := by decide +kernel
theorem dX1_fitting_11 : decode cX1_fitting 11 = .ok (.if_icmp .ge 29, 3) := by decide +kernel
theorem dX1_fitting_14 : decode cX1_fitting 14 = .ok (.aload_n 1, 1) := by decide +kernel
theorem dX1_fitting_15 : decode cX1_fitting 15 = .ok (.aload_n 0, 1) := by decide +kernel
theorem dX1_fitting_16 : decode cX1_fitting 16 = .ok (.getfield 11, 3) := by decide +kernel
theorem dX1_fitting_19 : decode cX1_fitting 19 = .ok (.iload 4, 2) := by decide +kernel
theorem dX1_fitting_21 : decode cX1_fitting 21 = .ok (.iaload, 1) := by decide +kernel
theorem dX1_fitting_22 : decode cX1_fitting 22 = .ok (.iload_n 2, 1) := by decide +kernel
theorem dX1_fitting_23 : decode cX1_fitting 23 = .ok (.iadd, 1) := by decide +kernel
theorem dX1_fitting_24 : decode cX1_fitting 24 = .ok (.iconst 1, 1) := by decide +kernel
theorem dX1_fitting_25 : decode cX1_fitting 25 = .ok (.invokevirtual 19, 3) := by decide +kernel
theorem dX1_fitting_28 : decode cX1_fitting 28 = .ok (.ifCond .eq 6, 3) := by decide +kernel
theorem dX1_fitting_31 : decode cX1_fitting 31 = .ok (.iinc 3 1, 3) := by decide +kernel
theorem dX1_fitting_34 : decode cX1_fitting 34 = .ok (.iinc 4 1, 3) := by decide +kernel
theorem dX1_fitting_37 : decode cX1_fitting 37 = .ok (.goto (-32), 3) := by decide +kernel
theorem dX1_fitting_40 : decode cX1_fitting 40 = .ok (.iload_n 3, 1) := by decide +kernel
theorem dX1_fitting_41 : decode cX1_fitting 41 = .ok (.ireturn, 1) := by decide +kernel
theorem dX1_mostFitting_0 : decode cX1_mostFitting 0 = .ok (.aload_n 0, 1) := by decide +kernel
theorem dX1_mostFitting_1 : decode cX1_mostFitting 1 = .ok (.aload_n 1, 1) := by decide +kernel
theorem dX1_mostFitting_2 : decode cX1_mostFitting 2 = .ok (.aload_n 0, 1) := by decide +kernel
theorem dX1_mostFitting_3 : decode cX1_mostFitting 3 = .ok (.aload_n 1, 1) := by decide +kernel
theorem dX1_mostFitting_4 : decode cX1_mostFitting 4 = .ok (.invokevirtual 29, 3) := by decide +kernel
theorem dX1_mostFitting_7 : decode cX1_mostFitting 7 = .ok (.invokevirtual 33, 3) := by decide +kernel
theorem dX1_mostFitting_10 : decode cX1_mostFitting 10 = .ok (.ireturn, 1) := by decide +kernel
theorem dX1_bestShift_0 : decode cX1_bestShift 0 = .ok (.iconst 0, 1) := by decide +kernel
theorem dX1_bestShift_1 : decode cX1_bestShift 1 = .ok (.istore_n 2, 1) := by decide +kernel
theorem dX1_bestShift_2 : decode cX1_bestShift 2 = .ok (.aload_n 0, 1) := by decide +kernel
theorem dX1_bestShift_3 : decode cX1_bestShift 3 = .ok (.aload_n 1, 1) := by decide +kernel
theorem dX1_bestShift_4 : decode cX1_bestShift 4 = .ok (.iconst 0, 1) := by decide +kernel
theorem dX1_bestShift_5 : decode cX1_bestShift 5 = .ok (.invokevirtual 33, 3) := by decide +kernel
theorem dX1_bestShift_8 : decode cX1_bestShift 8 = .ok (.istore_n 3, 1) := by decide +kernel
theorem dX1_bestShift_9 : decode cX1_bestShift 9 = .ok (.iconst 1, 1) := by decide +kernel
theorem dX1_bestShift_10 : decode cX1_bestShift 10 = .ok (.istore 4, 2) := by decide +kernel
theorem dX1_bestShift_12 : decode cX1_bestShift 12 = .ok (.iload 4, 2) := by decide +kernel
theorem dX1_bestShift_14 : decode cX1_bestShift 14 = .ok (.bipush 20, 2) := by decide +kernel
theorem dX1_bestShift_16 : decode cX1_bestShift 16 = .ok (.if_icmp .gt 54, 3) := by decide +kernel
theorem dX1_bestShift_19 : decode cX1_bestShift 19 = .ok (.iload 4, 2) := by decide +kernel
theorem dX1_bestShift_21 : decode cX1_bestShift 21 = .ok (.ineg, 1) := by decide +kernel
theorem dX1_bestShift_22 : decode cX1_bestShift 22 = .ok (.istore 5, 2) := by decide +kernel
theorem dX1_bestShift_24 : decode cX1_bestShift 24 = .ok (.iload 5, 2) := by decide +kernel
theorem dX1_bestShift_26 : decode cX1_bestShift 26 = .ok (.iload 4, 2) := by decide +kernel
theorem dX1_bestShift_28 : decode cX1_bestShift 28 = .ok (.if_icmp .gt 36, 3) := by decide +kernel
theorem dX1_bestShift_31 : decode cX1_bestShift 31 = .ok (.aload_n 0, 1) := by decide +kernel
theorem dX1_bestShift_32 : decode cX1_bestShift 32 = .ok (.aload_n 1, 1) := by decide +kernel
theorem dX1_bestShift_33 : decode cX1_bestShift 33 = .ok (.iload 5, 2) := by decide +kernel
theorem dX1_bestShift_35 : decode cX1_bestShift 35 = .ok (.invokevirtual 33, 3) := by decide +kernel
theorem dX1_bestShift_38 : decode cX1_bestShift 38 = .ok (.istore 6, 2) := by decide +kernel
theorem dX1_bestShift_40 : decode cX1_bestShift 40 = .ok (.iload 6, 2) := by decide +kernel
theorem dX1_bestShift_42 : decode cX1_bestShift 42 = .ok (.iload_n 3, 1) := by decide +kernel
theorem dX1_bestShift_43 : decode cX1_bestShift 43 = .ok (.if_icmp .le 9, 3) := by decide +kernel
theorem dX1_bestShift_46 : decode cX1_bestShift 46 = .ok (.iload 6, 2) := by decide +kernel
theorem dX1_bestShift_48 : decode cX1_bestShift 48 = .ok (.istore_n 3, 1) := by decide +kernel
theorem dX1_bestShift_49 : decode cX1_bestShift 49 = .ok (.iload 5, 2) := by decide +kernel
theorem dX1_bestShift_51 : decode cX1_bestShift 51 = .ok (.istore_n 2, 1) := by decide +kernel
theorem dX1_bestShift_52 : decode cX1_bestShift 52 = .ok (.iload 5, 2) := by decide +kernel
theorem dX1_bestShift_54 : decode cX1_bestShift 54 = .ok (.iconst 2, 1) := by decide +kernel
theorem dX1_bestShift_55 : decode cX1_bestShift 55 = .ok (.iload 4, 2) := by decide +kernel
theorem dX1_bestShift_57 : decode cX1_bestShift 57 = .ok (.imul, 1) := by decide +kernel
theorem dX1_bestShift_58 : decode cX1_bestShift 58 = .ok (.iadd, 1) := by decide +kernel
theorem dX1_bestShift_59 : decode cX1_bestShift 59 = .ok (.istore 5, 2) := by decide +kernel
theorem dX1_bestShift_61 : decode cX1_bestShift 61 = .ok (.goto (-37), 3) := by decide +kernel
theorem dX1_bestShift_64 : decode cX1_bestShift 64 = .ok (.iinc 4 1, 3) := by decide +kernel
theorem dX1_bestShift_67 : decode cX1_bestShift 67 = .ok (.goto (-55), 3) := by decide +kernel
theorem dX1_bestShift_70 : decode cX1_bestShift 70 = .ok (.iload_n 2, 1) := by decide +kernel
theorem dX1_bestShift_71 : decode cX1_bestShift 71 = .ok (.ireturn, 1) := by decide +kernel
theorem dX2_init_0 : decode cX2_init 0 = .ok (.aload_n 0, 1) := by decide +kernel
theorem dX2_init_1 : decode cX2_init 1 = .ok (.invokespecial 3, 3) := by decide +kernel
theorem dX2_init_4 : decode cX2_init 4 = .ok (.aload_n 0, 1) := by decide +kernel
theorem dX2_init_5 : decode cX2_init 5 = .ok (.iconst 0, 1) := by decide +kernel
theorem dX2_init_6 : decode cX2_init 6 = .ok (.putfield 9, 3) := by decide +kernel
theorem dX2_init_9 : decode cX2_init 9 = .ok (.aload_n 0, 1) := by decide +kernel
theorem dX2_init_10 : decode cX2_init 10 = .ok (.iconst 0, 1) := by decide +kernel
theorem dX2_init_11 : decode cX2_init 11 = .ok (.putfield 15, 3) := by decide +kernel
theorem dX2_init_14 : decode cX2_init 14 = .ok (.aload_n 0, 1) := by decide +kernel
theorem dX2_init_15 : decode cX2_init 15 = .ok (.iconst 0, 1) := by decide +kernel
theorem dX2_init_16 : decode cX2_init 16 = .ok (.putfield 18, 3) := by decide +kernel
theorem dX2_init_19 : decode cX2_init 19 = .ok (.aload_n 0, 1) := by decide +kernel
theorem dX2_init_20 : decode cX2_init 20 = .ok (.iconst 0, 1) := by decide +kernel
theorem dX2_init_21 : decode cX2_init 21 = .ok (.putfield 21, 3) := by decide +kernel
theorem dX2_init_24 : decode cX2_init 24 = .ok (.aload_n 0, 1) := by decide +kernel
theorem dX2_init_25 : decode cX2_init 25 = .ok (.bipush (-9), 2) := by decide +kernel
theorem dX2_init_27 : decode cX2_init 27 = .ok (.putfield 24, 3) := by decide +kernel
theorem dX2_init_30 : decode cX2_init 30 = .ok (.aload_n 0, 1) := by decide +kernel
theorem dX2_init_31 : decode cX2_init 31 = .ok (.bipush (-9), 2) := by decide +kernel
theorem dX2_init_33 : decode cX2_init 33 = .ok (.putfield 27, 3) := by decide +kernel
theorem dX2_init_36 : decode cX2_init 36 = .ok (.aload_n 0, 1) := by decide +kernel
theorem dX2_init_37 : decode cX2_init 37 = .ok (.new 30, 3) := by decide +kernel
theorem dX2_init_40 : decode cX2_init 40 = .ok (.dup, 1) := by decide +kernel
theorem dX2_init_41 : decode cX2_init 41 = .ok (.invokespecial 32, 3) := by decide +kernel
theorem dX2_init_44 : decode cX2_init 44 = .ok (.putfield 33, 3) := by decide +kernel
theorem dX2_init_47 : decode cX2_init 47 = .ok (.return_, 1) := by decide +kernel
theorem dX2_strike_0 : decode cX2_strike 0 = .ok (.aload_n 0, 1) := by decide +kernel
theorem dX2_strike_1 : decode cX2_strike 1 = .ok (.iload_n 1, 1) := by decide +kernel
theorem dX2_strike_2 : decode cX2_strike 2 = .ok (.putfield 9, 3) := by decide +kernel
theorem dX2_strike_5 : decode cX2_strike 5 = .ok (.aload_n 0, 1) := by decide +kernel
theorem dX2_strike_6 : decode cX2_strike 6 = .ok (.iload_n 2, 1) := by decide +kernel
theorem dX2_strike_7 : decode cX2_strike 7 = .ok (.putfield 15, 3) := by decide +kernel
theorem dX2_strike_10 : decode cX2_strike 10 = .ok (.aload_n 0, 1) := by decide +kernel
theorem dX2_strike_11 : decode cX2_strike 11 = .ok (.iload_n 3, 1) := by decide +kernel
theorem dX2_strike_12 : decode cX2_strike 12 = .ok (.putfield 18, 3) := by decide +kernel
theorem dX2_strike_15 : decode cX2_strike 15 = .ok (.aload_n 0, 1) := by decide +kernel
theorem dX2_strike_16 : decode cX2_strike 16 = .ok (.iload 4, 2) := by decide +kernel
theorem dX2_strike_18 : decode cX2_strike 18 = .ok (.putfield 21, 3) := by decide +kernel
theorem dX2_strike_21 : decode cX2_strike 21 = .ok (.return_, 1) := by decide +kernel
theorem dX2_lookOf_0 : decode cX2_lookOf 0 = .ok (.aload_n 0, 1) := by decide +kernel
theorem dX2_lookOf_1 : decode cX2_lookOf 1 = .ok (.getfield 9, 3) := by decide +kernel
theorem dX2_lookOf_4 : decode cX2_lookOf 4 = .ok (.iload_n 1, 1) := by decide +kernel
theorem dX2_lookOf_5 : decode cX2_lookOf 5 = .ok (.invokestatic 37, 3) := by decide +kernel
theorem dX2_lookOf_8 : decode cX2_lookOf 8 = .ok (.ifCond .eq 5, 3) := by decide +kernel
theorem dX2_lookOf_11 : decode cX2_lookOf 11 = .ok (.iconst 1, 1) := by decide +kernel
theorem dX2_lookOf_12 : decode cX2_lookOf 12 = .ok (.ireturn, 1) := by decide +kernel
theorem dX2_lookOf_13 : decode cX2_lookOf 13 = .ok (.aload_n 0, 1) := by decide +kernel
theorem dX2_lookOf_14 : decode cX2_lookOf 14 = .ok (.getfield 15, 3) := by decide +kernel
theorem dX2_lookOf_17 : decode cX2_lookOf 17 = .ok (.iload_n 1, 1) := by decide +kernel
theorem dX2_lookOf_18 : decode cX2_lookOf 18 = .ok (.invokestatic 37, 3) := by decide +kernel
theorem dX2_lookOf_21 : decode cX2_lookOf 21 = .ok (.ifCond .eq 7, 3) := by decide +kernel
theorem dX2_lookOf_24 : decode cX2_lookOf 24 = .ok (.iconst 2, 1) := by decide +kernel
theorem dX2_lookOf_25 : decode cX2_lookOf 25 = .ok (.goto 4, 3) := by decide +kernel
theorem dX2_lookOf_28 : decode cX2_lookOf 28 = .ok (.iconst 0, 1) := by decide +kernel
theorem dX2_lookOf_29 : decode cX2_lookOf 29 = .ok (.ireturn, 1) := by decide +kernel
theorem dX2_look_0 : decode cX2_look 0 = .ok (.iconst 1, 1) := by decide +kernel
theorem dX2_look_1 : decode cX2_look 1 = .ok (.iload_n 1, 1) := by decide +kernel
theorem dX2_look_2 : decode cX2_look 2 = .ok (.ishl, 1) := by decide +kernel
theorem dX2_look_3 : decode cX2_look 3 = .ok (.istore_n 3, 1) := by decide +kernel
theorem dX2_look_4 : decode cX2_look 4 = .ok (.aload_n 0, 1) := by decide +kernel
theorem dX2_look_5 : decode cX2_look 5 = .ok (.iload_n 2, 1) := by decide +kernel
theorem dX2_look_6 : decode cX2_look 6 = .ok (.iconst 1, 1) := by decide +kernel
theorem dX2_look_7 : decode cX2_look 7 = .ok (.if_icmp .ne 12, 3) := by decide +kernel
theorem dX2_look_10 : decode cX2_look 10 = .ok (.aload_n 0, 1) := by decide +kernel
theorem dX2_look_11 : decode cX2_look 11 = .ok (.getfield 9, 3) := by decide +kernel
theorem dX2_look_14 : decode cX2_look 14 = .ok (.iload_n 3, 1) := by decide +kernel
theorem dX2_look_15 : decode cX2_look 15 = .ok (.ior, 1) := by decide +kernel
theorem dX2_look_16 : decode cX2_look 16 = .ok (.goto 11, 3) := by decide +kernel
theorem dX2_look_19 : decode cX2_look 19 = .ok (.aload_n 0, 1) := by decide +kernel
theorem dX2_look_20 : decode cX2_look 20 = .ok (.getfield 9, 3) := by decide +kernel
theorem dX2_look_23 : decode cX2_look 23 = .ok (.iload_n 3, 1) := by decide +kernel
theorem dX2_look_24 : decode cX2_look 24 = .ok (.iconst (-1), 1) := by decide +kernel
theorem dX2_look_25 : decode cX2_look 25 = .ok (.ixor, 1) := by decide +kernel
theorem dX2_look_26 : decode cX2_look 26 = .ok (.iand, 1) := by decide +kernel
theorem dX2_look_27 : decode cX2_look 27 = .ok (.putfield 9, 3) := by decide +kernel
theorem dX2_look_30 : decode cX2_look 30 = .ok (.aload_n 0, 1) := by decide +kernel
theorem dX2_look_31 : decode cX2_look 31 = .ok (.iload_n 2, 1) := by decide +kernel
theorem dX2_look_32 : decode cX2_look 32 = .ok (.iconst 2, 1) := by decide +kernel
theorem dX2_look_33 : decode cX2_look 33 = .ok (.if_icmp .ne 12, 3) := by decide +kernel
theorem dX2_look_36 : decode cX2_look 36 = .ok (.aload_n 0, 1) := by decide +kernel
theorem dX2_look_37 : decode cX2_look 37 = .ok (.getfield 15, 3) := by decide +kernel
theorem dX2_look_40 : decode cX2_look 40 = .ok (.iload_n 3, 1) := by decide +kernel
theorem dX2_look_41 : decode cX2_look 41 = .ok (.ior, 1) := by decide +kernel
theorem dX2_look_42 : decode cX2_look 42 = .ok (.goto 11, 3) := by decide +kernel
theorem dX2_look_45 : decode cX2_look 45 = .ok (.aload_n 0, 1) := by decide +kernel
theorem dX2_look_46 : decode cX2_look 46 = .ok (.getfield 15, 3) := by decide +kernel
theorem dX2_look_49 : decode cX2_look 49 = .ok (.iload_n 3, 1) := by decide +kernel
theorem dX2_look_50 : decode cX2_look 50 = .ok (.iconst (-1), 1) := by decide +kernel
theorem dX2_look_51 : decode cX2_look 51 = .ok (.ixor, 1) := by decide +kernel
theorem dX2_look_52 : decode cX2_look 52 = .ok (.iand, 1) := by decide +kernel
theorem dX2_look_53 : decode cX2_look 53 = .ok (.putfield 15, 3) := by decide +kernel
theorem dX2_look_56 : decode cX2_look 56 = .ok (.return_, 1) := by decide +kernel
theorem dX3_init_0 : decode cX3_init 0 = .ok (.aload_n 0, 1) := by decide +kernel
theorem dX3_init_1 : decode cX3_init 1 = .ok (.invokespecial 3, 3) := by decide +kernel
theorem dX3_init_4 : decode cX3_init 4 = .ok (.aload_n 0, 1) := by decide +kernel
theorem dX3_init_5 : decode cX3_init 5 = .ok (.iconst 1, 1) := by decide +kernel
theorem dX3_init_6 : decode cX3_init 6 = .ok (.putfield 9, 3) := by decide +kernel
theorem dX3_init_9 : decode cX3_init 9 = .ok (.aload_n 0, 1) := by decide +kernel
theorem dX3_init_10 : decode cX3_init 10 = .ok (.iconst 2, 1) := by decide +kernel
theorem dX3_init_11 : decode cX3_init 11 = .ok (.putfield 15, 3) := by decide +kernel
theorem dX3_init_14 : decode cX3_init 14 = .ok (.aload_n 0, 1) := by decide +kernel
theorem dX3_init_15 : decode cX3_init 15 = .ok (.bipush 10, 2) := by decide +kernel
theorem dX3_init_17 : decode cX3_init 17 = .ok (.putfield 18, 3) := by decide +kernel
theorem dX3_init_20 : decode cX3_init 20 = .ok (.aload_n 0, 1) := by decide +kernel
theorem dX3_init_21 : decode cX3_init 21 = .ok (.bipush 6, 2) := by decide +kernel
theorem dX3_init_23 : decode cX3_init 23 = .ok (.newarray .int, 2) := by decide +kernel
theorem dX3_init_25 : decode cX3_init 25 = .ok (.putfield 21, 3) := by decide +kernel
theorem dX3_init_28 : decode cX3_init 28 = .ok (.aload_n 0, 1) := by decide +kernel
theorem dX3_init_29 : decode cX3_init 29 = .ok (.bipush 6, 2) := by decide +kernel
theorem dX3_init_31 : decode cX3_init 31 = .ok (.anewarray 25, 3) := by decide +kernel
theorem dX3_init_34 : decode cX3_init 34 = .ok (.putfield 27, 3) := by decide +kernel
theorem dX3_init_37 : decode cX3_init 37 = .ok (.aload_n 0, 1) := by decide +kernel
theorem dX3_init_38 : decode cX3_init 38 = .ok (.iconst 0, 1) := by decide +kernel
theorem dX3_init_39 : decode cX3_init 39 = .ok (.putfield 31, 3) := by decide +kernel
theorem dX3_init_42 : decode cX3_init 42 = .ok (.aload_n 0, 1) := by decide +kernel
theorem dX3_init_43 : decode cX3_init 43 = .ok (.bipush 6, 2) := by decide +kernel
theorem dX3_init_45 : decode cX3_init 45 = .ok (.newarray .int, 2) := by decide +kernel
theorem dX3_init_47 : decode cX3_init 47 = .ok (.putfield 34, 3) := by decide +kernel
theorem dX3_init_50 : decode cX3_init 50 = .ok (.aload_n 0, 1) := by decide +kernel
theorem dX3_init_51 : decode cX3_init 51 = .ok (.bipush 64, 2) := by decide +kernel
theorem dX3_init_53 : decode cX3_init 53 = .ok (.bipush 6, 2) := by decide +kernel
theorem dX3_init_55 : decode cX3_init 55 = .ok (.multianewarray 37 2, 4) := by decide +kernel
theorem dX3_init_59 : decode cX3_init 59 = .ok (.putfield 39, 3) := by decide +kernel
theorem dX3_init_62 : decode cX3_init 62 = .ok (.iconst 0, 1) := by decide +kernel
theorem dX3_init_63 : decode cX3_init 63 = .ok (.istore_n 1, 1) := by decide +kernel
theorem dX3_init_64 : decode cX3_init 64 = .ok (.iload_n 1, 1) := by decide +kernel
theorem dX3_init_65 : decode cX3_init 65 = .ok (.bipush 6, 2) := by decide +kernel
theorem dX3_init_67 : decode cX3_init 67 = .ok (.if_icmp .ge 22, 3) := by decide +kernel
theorem dX3_init_70 : decode cX3_init 70 = .ok (.aload_n 0, 1) := by decide +kernel
theorem dX3_init_71 : decode cX3_init 71 = .ok (.getfield 27, 3) := by decide +kernel
theorem dX3_init_74 : decode cX3_init 74 = .ok (.iload_n 1, 1) := by decide +kernel
theorem dX3_init_75 : decode cX3_init 75 = .ok (.new 25, 3) := by decide +kernel
theorem dX3_init_78 : decode cX3_init 78 = .ok (.dup, 1) := by decide +kernel
theorem dX3_init_79 : decode cX3_init 79 = .ok (.invokespecial 42, 3) := by decide +kernel
theorem dX3_init_82 : decode cX3_init 82 = .ok (.aastore, 1) := by decide +kernel
theorem dX3_init_83 : decode cX3_init 83 = .ok (.iinc 1 1, 3) := by decide +kernel
theorem dX3_init_86 : decode cX3_init 86 = .ok (.goto (-22), 3) := by decide +kernel
theorem dX3_init_89 : decode cX3_init 89 = .ok (.return_, 1) := by decide +kernel
theorem dX3_hasState_0 : decode cX3_hasState 0 = .ok (.iload_n 1, 1) := by decide +kernel
theorem dX3_hasState_1 : decode cX3_hasState 1 = .ok (.ifCond .lt 15, 3) := by decide +kernel
theorem dX3_hasState_4 : decode cX3_hasState 4 = .ok (.iload_n 1, 1) := by decide +kernel
theorem dX3_hasState_5 : decode cX3_hasState 5 = .ok (.aload_n 0, 1) := by decide +kernel
theorem dX3_hasState_6 : decode cX3_hasState 6 = .ok (.getfield 31, 3) := by decide +kernel
theorem dX3_hasState_9 : decode cX3_hasState 9 = .ok (.if_icmp .ge 7, 3) := by decide +kernel
theorem dX3_hasState_12 : decode cX3_hasState 12 = .ok (.iconst 1, 1) := by decide +kernel
theorem dX3_hasState_13 : decode cX3_hasState 13 = .ok (.goto 4, 3) := by decide +kernel
theorem dX3_hasState_16 : decode cX3_hasState 16 = .ok (.iconst 0, 1) := by decide +kernel
theorem dX3_hasState_17 : decode cX3_hasState 17 = .ok (.ireturn, 1) := by decide +kernel
theorem dX3_addState_0 : decode cX3_addState 0 = .ok (.aload_n 0, 1) := by decide +kernel
theorem dX3_addState_1 : decode cX3_addState 1 = .ok (.getfield 31, 3) := by decide +kernel
theorem dX3_addState_4 : decode cX3_addState 4 = .ok (.bipush 6, 2) := by decide +kernel
theorem dX3_addState_6 : decode cX3_addState 6 = .ok (.if_icmp .lt 6, 3) := by decide +kernel
theorem dX3_addState_9 : decode cX3_addState 9 = .ok (.bipush (-3), 2) := by decide +kernel
theorem dX3_addState_11 : decode cX3_addState 11 = .ok (.ireturn, 1) := by decide +kernel
theorem dX3_addState_12 : decode cX3_addState 12 = .ok (.aload_n 0, 1) := by decide +kernel
theorem dX3_addState_13 : decode cX3_addState 13 = .ok (.getfield 21, 3) := by decide +kernel
theorem dX3_addState_16 : decode cX3_addState 16 = .ok (.aload_n 0, 1) := by decide +kernel
theorem dX3_addState_17 : decode cX3_addState 17 = .ok (.getfield 31, 3) := by decide +kernel
theorem dX3_addState_20 : decode cX3_addState 20 = .ok (.iload_n 1, 1) := by decide +kernel
theorem dX3_addState_21 : decode cX3_addState 21 = .ok (.iastore, 1) := by decide +kernel
theorem dX3_addState_22 : decode cX3_addState 22 = .ok (.aload_n 0, 1) := by decide +kernel
theorem dX3_addState_23 : decode cX3_addState 23 = .ok (.getfield 27, 3) := by decide +kernel
theorem dX3_addState_26 : decode cX3_addState 26 = .ok (.aload_n 0, 1) := by decide +kernel
theorem dX3_addState_27 : decode cX3_addState 27 = .ok (.getfield 31, 3) := by decide +kernel
theorem dX3_addState_30 : decode cX3_addState 30 = .ok (.aaload, 1) := by decide +kernel
theorem dX3_addState_31 : decode cX3_addState 31 = .ok (.iload_n 2, 1) := by decide +kernel
theorem dX3_addState_32 : decode cX3_addState 32 = .ok (.iload_n 3, 1) := by decide +kernel
theorem dX3_addState_33 : decode cX3_addState 33 = .ok (.invokevirtual 43, 3) := by decide +kernel
theorem dX3_addState_36 : decode cX3_addState 36 = .ok (.aload_n 0, 1) := by decide +kernel
theorem dX3_addState_37 : decode cX3_addState 37 = .ok (.dup, 1) := by decide +kernel
theorem dX3_addState_38 : decode cX3_addState 38 = .ok (.getfield 31, 3) := by decide +kernel
theorem dX3_addState_41 : decode cX3_addState 41 = .ok (.dup_x1, 1) := by decide +kernel
theorem dX3_addState_42 : decode cX3_addState 42 = .ok (.iconst 1, 1) := by decide +kernel
theorem dX3_addState_43 : decode cX3_addState 43 = .ok (.iadd, 1) := by decide +kernel
theorem dX3_addState_44 : decode cX3_addState 44 = .ok (.putfield 31, 3) := by decide +kernel
theorem dX3_addState_47 : decode cX3_addState 47 = .ok (.ireturn, 1) := by decide +kernel
theorem dX3_statesWith_0 : decode cX3_statesWith 0 = .ok (.iconst 0, 1) := by decide +kernel
theorem dX3_statesWith_1 : decode cX3_statesWith 1 = .ok (.istore_n 3, 1) := by decide +kernel
theorem dX3_statesWith_2 : decode cX3_statesWith 2 = .ok (.iconst 0, 1) := by decide +kernel
theorem dX3_statesWith_3 : decode cX3_statesWith 3 = .ok (.istore 4, 2) := by decide +kernel
theorem dX3_statesWith_5 : decode cX3_statesWith 5 = .ok (.iload 4, 2) := by decide +kernel
theorem dX3_statesWith_7 : decode cX3_statesWith 7 = .ok (.aload_n 0, 1) := by decide +kernel
theorem dX3_statesWith_8 : decode cX3_statesWith 8 = .ok (.getfield 31, 3) := by decide +kernel
theorem dX3_statesWith_11 : decode cX3_statesWith 11 = .ok (.if_icmp .ge 41, 3) := by decide +kernel
theorem dX3_statesWith_14 : decode cX3_statesWith 14 = .ok (.aload_n 0, 1) := by decide +kernel
theorem dX3_statesWith_15 : decode cX3_statesWith 15 = .ok (.getfield 21, 3) := by decide +kernel
theorem dX3_statesWith_18 : decode cX3_statesWith 18 = .ok (.iload 4, 2) := by decide +kernel
theorem dX3_statesWith_20 : decode cX3_statesWith 20 = .ok (.iaload, 1) := by decide +kernel
theorem dX3_statesWith_21 : decode cX3_statesWith 21 = .ok (.iload_n 1, 1) := by decide +kernel
theorem dX3_statesWith_22 : decode cX3_statesWith 22 = .ok (.iand, 1) := by decide +kernel
theorem dX3_statesWith_23 : decode cX3_statesWith 23 = .ok (.iload_n 1, 1) := by decide +kernel
theorem dX3_statesWith_24 : decode cX3_statesWith 24 = .ok (.if_icmp .ne 22, 3) := by decide +kernel
theorem dX3_statesWith_27 : decode cX3_statesWith 27 = .ok (.aload_n 0, 1) := by decide +kernel
theorem dX3_statesWith_28 : decode cX3_statesWith 28 = .ok (.getfield 21, 3) := by decide +kernel
theorem dX3_statesWith_31 : decode cX3_statesWith 31 = .ok (.iload 4, 2) := by decide +kernel
theorem dX3_statesWith_33 : decode cX3_statesWith 33 = .ok (.iaload, 1) := by decide +kernel
theorem dX3_statesWith_34 : decode cX3_statesWith 34 = .ok (.iload_n 2, 1) := by decide +kernel
theorem dX3_statesWith_35 : decode cX3_statesWith 35 = .ok (.iand, 1) := by decide +kernel
theorem dX3_statesWith_36 : decode cX3_statesWith 36 = .ok (.ifCond .ne 10, 3) := by decide +kernel
theorem dX3_statesWith_39 : decode cX3_statesWith 39 = .ok (.iload_n 3, 1) := by decide +kernel
theorem dX3_statesWith_40 : decode cX3_statesWith 40 = .ok (.iconst 1, 1) := by decide +kernel
theorem dX3_statesWith_41 : decode cX3_statesWith 41 = .ok (.iload 4, 2) := by decide +kernel
theorem dX3_statesWith_43 : decode cX3_statesWith 43 = .ok (.ishl, 1) := by decide +kernel
theorem dX3_statesWith_44 : decode cX3_statesWith 44 = .ok (.ior, 1) := by decide +kernel
theorem dX3_statesWith_45 : decode cX3_statesWith 45 = .ok (.istore_n 3, 1) := by decide +kernel
theorem dX3_statesWith_46 : decode cX3_statesWith 46 = .ok (.iinc 4 1, 3) := by decide +kernel
theorem dX3_statesWith_49 : decode cX3_statesWith 49 = .ok (.goto (-44), 3) := by decide +kernel
theorem dX3_statesWith_52 : decode cX3_statesWith 52 = .ok (.iload_n 3, 1) := by decide +kernel
theorem dX3_statesWith_53 : decode cX3_statesWith 53 = .ok (.ireturn, 1) := by decide +kernel
theorem dX3_quarrelOf_0 : decode cX3_quarrelOf 0 = .ok (.aload_n 0, 1) := by decide +kernel
theorem dX3_quarrelOf_1 : decode cX3_quarrelOf 1 = .ok (.iload_n 1, 1) := by decide +kernel
theorem dX3_quarrelOf_2 : decode cX3_quarrelOf 2 = .ok (.invokevirtual 47, 3) := by decide +kernel
theorem dX3_quarrelOf_5 : decode cX3_quarrelOf 5 = .ok (.ifCond .ne 5, 3) := by decide +kernel
theorem dX3_quarrelOf_8 : decode cX3_quarrelOf 8 = .ok (.iconst (-1), 1) := by decide +kernel
theorem dX3_quarrelOf_9 : decode cX3_quarrelOf 9 = .ok (.ireturn, 1) := by decide +kernel
theorem dX3_quarrelOf_10 : decode cX3_quarrelOf 10 = .ok (.iconst 0, 1) := by decide +kernel
theorem dX3_quarrelOf_11 : decode cX3_quarrelOf 11 = .ok (.istore_n 2, 1) := by decide +kernel
theorem dX3_quarrelOf_12 : decode cX3_quarrelOf 12 = .ok (.iconst 0, 1) := by decide +kernel
theorem dX3_quarrelOf_13 : decode cX3_quarrelOf 13 = .ok (.istore_n 3, 1) := by decide +kernel
theorem dX3_quarrelOf_14 : decode cX3_quarrelOf 14 = .ok (.iconst 0, 1) := by decide +kernel
theorem dX3_quarrelOf_15 : decode cX3_quarrelOf 15 = .ok (.istore 4, 2) := by decide +kernel
theorem dX3_quarrelOf_17 : decode cX3_quarrelOf 17 = .ok (.iload 4, 2) := by decide +kernel
theorem dX3_quarrelOf_19 : decode cX3_quarrelOf 19 = .ok (.iconst 1, 1) := by decide +kernel
theorem dX3_quarrelOf_20 : decode cX3_quarrelOf 20 = .ok (.iadd, 1) := by decide +kernel
theorem dX3_quarrelOf_21 : decode cX3_quarrelOf 21 = .ok (.aload_n 0, 1) := by decide +kernel
theorem dX3_quarrelOf_22 : decode cX3_quarrelOf 22 = .ok (.getfield 31, 3) := by decide +kernel
theorem dX3_quarrelOf_25 : decode cX3_quarrelOf 25 = .ok (.if_icmp .ge 58, 3) := by decide +kernel
theorem dX3_quarrelOf_28 : decode cX3_quarrelOf 28 = .ok (.iload_n 3, 1) := by decide +kernel
theorem dX3_quarrelOf_29 : decode cX3_quarrelOf 29 = .ok (.aload_n 0, 1) := by decide +kernel
theorem dX3_quarrelOf_30 : decode cX3_quarrelOf 30 = .ok (.getfield 21, 3) := by decide +kernel
theorem dX3_quarrelOf_33 : decode cX3_quarrelOf 33 = .ok (.aload_n 0, 1) := by decide +kernel
theorem dX3_quarrelOf_34 : decode cX3_quarrelOf 34 = .ok (.getfield 34, 3) := by decide +kernel
theorem dX3_quarrelOf_37 : decode cX3_quarrelOf 37 = .ok (.iload 4, 2) := by decide +kernel
theorem dX3_quarrelOf_39 : decode cX3_quarrelOf 39 = .ok (.iaload, 1) := by decide +kernel
theorem dX3_quarrelOf_40 : decode cX3_quarrelOf 40 = .ok (.iaload, 1) := by decide +kernel
theorem dX3_quarrelOf_41 : decode cX3_quarrelOf 41 = .ok (.ior, 1) := by decide +kernel
theorem dX3_quarrelOf_42 : decode cX3_quarrelOf 42 = .ok (.istore_n 3, 1) := by decide +kernel
theorem dX3_quarrelOf_43 : decode cX3_quarrelOf 43 = .ok (.iload_n 2, 1) := by decide +kernel
theorem dX3_quarrelOf_44 : decode cX3_quarrelOf 44 = .ok (.aload_n 0, 1) := by decide +kernel
theorem dX3_quarrelOf_45 : decode cX3_quarrelOf 45 = .ok (.iload_n 3, 1) := by decide +kernel
theorem dX3_quarrelOf_46 : decode cX3_quarrelOf 46 = .ok (.aload_n 0, 1) := by decide +kernel
theorem dX3_quarrelOf_47 : decode cX3_quarrelOf 47 = .ok (.getfield 21, 3) := by decide +kernel
theorem dX3_quarrelOf_50 : decode cX3_quarrelOf 50 = .ok (.aload_n 0, 1) := by decide +kernel
theorem dX3_quarrelOf_51 : decode cX3_quarrelOf 51 = .ok (.getfield 34, 3) := by decide +kernel
theorem dX3_quarrelOf_54 : decode cX3_quarrelOf 54 = .ok (.iload 4, 2) := by decide +kernel
theorem dX3_quarrelOf_56 : decode cX3_quarrelOf 56 = .ok (.iaload, 1) := by decide +kernel
theorem dX3_quarrelOf_57 : decode cX3_quarrelOf 57 = .ok (.iaload, 1) := by decide +kernel
theorem dX3_quarrelOf_58 : decode cX3_quarrelOf 58 = .ok (.aload_n 0, 1) := by decide +kernel
theorem dX3_quarrelOf_59 : decode cX3_quarrelOf 59 = .ok (.getfield 21, 3) := by decide +kernel
theorem dX3_quarrelOf_62 : decode cX3_quarrelOf 62 = .ok (.aload_n 0, 1) := by decide +kernel
theorem dX3_quarrelOf_63 : decode cX3_quarrelOf 63 = .ok (.getfield 34, 3) := by decide +kernel
theorem dX3_quarrelOf_66 : decode cX3_quarrelOf 66 = .ok (.iload 4, 2) := by decide +kernel
theorem dX3_quarrelOf_68 : decode cX3_quarrelOf 68 = .ok (.iconst 1, 1) := by decide +kernel
theorem dX3_quarrelOf_69 : decode cX3_quarrelOf 69 = .ok (.iadd, 1) := by decide +kernel
theorem dX3_quarrelOf_70 : decode cX3_quarrelOf 70 = .ok (.iaload, 1) := by decide +kernel
theorem dX3_quarrelOf_71 : decode cX3_quarrelOf 71 = .ok (.iaload, 1) := by decide +kernel
theorem dX3_quarrelOf_72 : decode cX3_quarrelOf 72 = .ok (.invokevirtual 51, 3) := by decide +kernel
theorem dX3_quarrelOf_75 : decode cX3_quarrelOf 75 = .ok (.iadd, 1) := by decide +kernel
theorem dX3_quarrelOf_76 : decode cX3_quarrelOf 76 = .ok (.istore_n 2, 1) := by decide +kernel
theorem dX3_quarrelOf_77 : decode cX3_quarrelOf 77 = .ok (.iinc 4 1, 3) := by decide +kernel
theorem dX3_quarrelOf_80 : decode cX3_quarrelOf 80 = .ok (.goto (-63), 3) := by decide +kernel
theorem dX3_quarrelOf_83 : decode cX3_quarrelOf 83 = .ok (.iload_n 2, 1) := by decide +kernel
theorem dX3_quarrelOf_84 : decode cX3_quarrelOf 84 = .ok (.ireturn, 1) := by decide +kernel
theorem dX3_readOrder_0 : decode cX3_readOrder 0 = .ok (.iload_n 1, 1) := by decide +kernel
theorem dX3_readOrder_1 : decode cX3_readOrder 1 = .ok (.ifCond .lt 10, 3) := by decide +kernel
theorem dX3_readOrder_4 : decode cX3_readOrder 4 = .ok (.aload_n 0, 1) := by decide +kernel
theorem dX3_readOrder_5 : decode cX3_readOrder 5 = .ok (.getfield 31, 3) := by decide +kernel
theorem dX3_readOrder_8 : decode cX3_readOrder 8 = .ok (.ifCond .ne 5, 3) := by decide +kernel
theorem dX3_readOrder_11 : decode cX3_readOrder 11 = .ok (.iconst 0, 1) := by decide +kernel
theorem dX3_readOrder_12 : decode cX3_readOrder 12 = .ok (.ireturn, 1) := by decide +kernel
theorem dX3_readOrder_13 : decode cX3_readOrder 13 = .ok (.iload_n 1, 1) := by decide +kernel
theorem dX3_readOrder_14 : decode cX3_readOrder 14 = .ok (.istore_n 2, 1) := by decide +kernel
theorem dX3_readOrder_15 : decode cX3_readOrder 15 = .ok (.iconst 0, 1) := by decide +kernel
theorem dX3_readOrder_16 : decode cX3_readOrder 16 = .ok (.istore_n 3, 1) := by decide +kernel
theorem dX3_readOrder_17 : decode cX3_readOrder 17 = .ok (.aload_n 0, 1) := by decide +kernel
theorem dX3_readOrder_18 : decode cX3_readOrder 18 = .ok (.getfield 31, 3) := by decide +kernel
theorem dX3_readOrder_21 : decode cX3_readOrder 21 = .ok (.iconst 1, 1) := by decide +kernel
theorem dX3_readOrder_22 : decode cX3_readOrder 22 = .ok (.isub, 1) := by decide +kernel
theorem dX3_readOrder_23 : decode cX3_readOrder 23 = .ok (.istore 4, 2) := by decide +kernel
theorem dX3_readOrder_25 : decode cX3_readOrder 25 = .ok (.iload 4, 2) := by decide +kernel
theorem dX3_readOrder_27 : decode cX3_readOrder 27 = .ok (.ifCond .lt 56, 3) := by decide +kernel
theorem dX3_readOrder_30 : decode cX3_readOrder 30 = .ok (.iload_n 2, 1) := by decide +kernel
theorem dX3_readOrder_31 : decode cX3_readOrder 31 = .ok (.bipush 6, 2) := by decide +kernel
theorem dX3_readOrder_33 : decode cX3_readOrder 33 = .ok (.irem, 1) := by decide +kernel
theorem dX3_readOrder_34 : decode cX3_readOrder 34 = .ok (.istore 5, 2) := by decide +kernel
theorem dX3_readOrder_36 : decode cX3_readOrder 36 = .ok (.iload_n 2, 1) := by decide +kernel
theorem dX3_readOrder_37 : decode cX3_readOrder 37 = .ok (.bipush 6, 2) := by decide +kernel
theorem dX3_readOrder_39 : decode cX3_readOrder 39 = .ok (.idiv, 1) := by decide +kernel
theorem dX3_readOrder_40 : decode cX3_readOrder 40 = .ok (.istore_n 2, 1) := by decide +kernel
theorem dX3_readOrder_41 : decode cX3_readOrder 41 = .ok (.aload_n 0, 1) := by decide +kernel
theorem dX3_readOrder_42 : decode cX3_readOrder 42 = .ok (.iload 5, 2) := by decide +kernel
theorem dX3_readOrder_44 : decode cX3_readOrder 44 = .ok (.invokevirtual 55, 3) := by decide +kernel
theorem dX3_readOrder_47 : decode cX3_readOrder 47 = .ok (.ifCond .eq 12, 3) := by decide +kernel
theorem dX3_readOrder_50 : decode cX3_readOrder 50 = .ok (.iload_n 3, 1) := by decide +kernel
theorem dX3_readOrder_51 : decode cX3_readOrder 51 = .ok (.iload 5, 2) := by decide +kernel
theorem dX3_readOrder_53 : decode cX3_readOrder 53 = .ok (.invokestatic 58, 3) := by decide +kernel
theorem dX3_readOrder_56 : decode cX3_readOrder 56 = .ok (.ifCond .eq 5, 3) := by decide +kernel
theorem dX3_readOrder_59 : decode cX3_readOrder 59 = .ok (.iconst 0, 1) := by decide +kernel
theorem dX3_readOrder_60 : decode cX3_readOrder 60 = .ok (.ireturn, 1) := by decide +kernel
theorem dX3_readOrder_61 : decode cX3_readOrder 61 = .ok (.iload_n 3, 1) := by decide +kernel
theorem dX3_readOrder_62 : decode cX3_readOrder 62 = .ok (.iconst 1, 1) := by decide +kernel
theorem dX3_readOrder_63 : decode cX3_readOrder 63 = .ok (.iload 5, 2) := by decide +kernel
theorem dX3_readOrder_65 : decode cX3_readOrder 65 = .ok (.ishl, 1) := by decide +kernel
theorem dX3_readOrder_66 : decode cX3_readOrder 66 = .ok (.ior, 1) := by decide +kernel
theorem dX3_readOrder_67 : decode cX3_readOrder 67 = .ok (.istore_n 3, 1) := by decide +kernel
theorem dX3_readOrder_68 : decode cX3_readOrder 68 = .ok (.aload_n 0, 1) := by decide +kernel
theorem dX3_readOrder_69 : decode cX3_readOrder 69 = .ok (.getfield 34, 3) := by decide +kernel
theorem dX3_readOrder_72 : decode cX3_readOrder 72 = .ok (.iload 4, 2) := by decide +kernel
theorem dX3_readOrder_74 : decode cX3_readOrder 74 = .ok (.iload 5, 2) := by decide +kernel
theorem dX3_readOrder_76 : decode cX3_readOrder 76 = .ok (.iastore, 1) := by decide +kernel
theorem dX3_readOrder_77 : decode cX3_readOrder 77 = .ok (.iinc 4 (-1), 3) := by decide +kernel
theorem dX3_readOrder_80 : decode cX3_readOrder 80 = .ok (.goto (-55), 3) := by decide +kernel
theorem dX3_readOrder_83 : decode cX3_readOrder 83 = .ok (.iload_n 2, 1) := by decide +kernel
theorem dX3_readOrder_84 : decode cX3_readOrder 84 = .ok (.ifCond .ne 7, 3) := by decide +kernel
theorem dX3_readOrder_87 : decode cX3_readOrder 87 = .ok (.iconst 1, 1) := by decide +kernel
theorem dX3_readOrder_88 : decode cX3_readOrder 88 = .ok (.goto 4, 3) := by decide +kernel
theorem dX3_readOrder_91 : decode cX3_readOrder 91 = .ok (.iconst 0, 1) := by decide +kernel
theorem dX3_readOrder_92 : decode cX3_readOrder 92 = .ok (.ireturn, 1) := by decide +kernel
theorem dX3_stepQuarrel_0 : decode cX3_stepQuarrel 0 = .ok (.iload_n 3, 1) := by decide +kernel
theorem dX3_stepQuarrel_1 : decode cX3_stepQuarrel 1 = .ok (.iload_n 2, 1) := by decide +kernel
theorem dX3_stepQuarrel_2 : decode cX3_stepQuarrel 2 = .ok (.iconst (-1), 1) := by decide +kernel
theorem dX3_stepQuarrel_3 : decode cX3_stepQuarrel 3 = .ok (.ixor, 1) := by decide +kernel
theorem dX3_stepQuarrel_4 : decode cX3_stepQuarrel 4 = .ok (.iand, 1) := by decide +kernel
theorem dX3_stepQuarrel_5 : decode cX3_stepQuarrel 5 = .ok (.istore 4, 2) := by decide +kernel
theorem dX3_stepQuarrel_7 : decode cX3_stepQuarrel 7 = .ok (.iload_n 2, 1) := by decide +kernel
theorem dX3_stepQuarrel_8 : decode cX3_stepQuarrel 8 = .ok (.iload_n 3, 1) := by decide +kernel
theorem dX3_stepQuarrel_9 : decode cX3_stepQuarrel 9 = .ok (.iconst (-1), 1) := by decide +kernel
theorem dX3_stepQuarrel_10 : decode cX3_stepQuarrel 10 = .ok (.ixor, 1) := by decide +kernel
theorem dX3_stepQuarrel_11 : decode cX3_stepQuarrel 11 = .ok (.iand, 1) := by decide +kernel
theorem dX3_stepQuarrel_12 : decode cX3_stepQuarrel 12 = .ok (.istore 5, 2) := by decide +kernel
theorem dX3_stepQuarrel_14 : decode cX3_stepQuarrel 14 = .ok (.iload 4, 2) := by decide +kernel
theorem dX3_stepQuarrel_16 : decode cX3_stepQuarrel 16 = .ok (.iload_n 1, 1) := by decide +kernel
theorem dX3_stepQuarrel_17 : decode cX3_stepQuarrel 17 = .ok (.iconst (-1), 1) := by decide +kernel
theorem dX3_stepQuarrel_18 : decode cX3_stepQuarrel 18 = .ok (.ixor, 1) := by decide +kernel
theorem dX3_stepQuarrel_19 : decode cX3_stepQuarrel 19 = .ok (.iand, 1) := by decide +kernel
theorem dX3_stepQuarrel_20 : decode cX3_stepQuarrel 20 = .ok (.invokestatic 62, 3) := by decide +kernel
theorem dX3_stepQuarrel_23 : decode cX3_stepQuarrel 23 = .ok (.aload_n 0, 1) := by decide +kernel
theorem dX3_stepQuarrel_24 : decode cX3_stepQuarrel 24 = .ok (.getfield 9, 3) := by decide +kernel
theorem dX3_stepQuarrel_27 : decode cX3_stepQuarrel 27 = .ok (.imul, 1) := by decide +kernel
theorem dX3_stepQuarrel_28 : decode cX3_stepQuarrel 28 = .ok (.iload 4, 2) := by decide +kernel
theorem dX3_stepQuarrel_30 : decode cX3_stepQuarrel 30 = .ok (.iload_n 1, 1) := by decide +kernel
theorem dX3_stepQuarrel_31 : decode cX3_stepQuarrel 31 = .ok (.iand, 1) := by decide +kernel
theorem dX3_stepQuarrel_32 : decode cX3_stepQuarrel 32 = .ok (.invokestatic 62, 3) := by decide +kernel
theorem dX3_stepQuarrel_35 : decode cX3_stepQuarrel 35 = .ok (.aload_n 0, 1) := by decide +kernel
theorem dX3_stepQuarrel_36 : decode cX3_stepQuarrel 36 = .ok (.getfield 18, 3) := by decide +kernel
theorem dX3_stepQuarrel_39 : decode cX3_stepQuarrel 39 = .ok (.imul, 1) := by decide +kernel
theorem dX3_stepQuarrel_40 : decode cX3_stepQuarrel 40 = .ok (.iadd, 1) := by decide +kernel
theorem dX3_stepQuarrel_41 : decode cX3_stepQuarrel 41 = .ok (.iload 5, 2) := by decide +kernel
theorem dX3_stepQuarrel_43 : decode cX3_stepQuarrel 43 = .ok (.invokestatic 62, 3) := by decide +kernel
theorem dX3_stepQuarrel_46 : decode cX3_stepQuarrel 46 = .ok (.aload_n 0, 1) := by decide +kernel
theorem dX3_stepQuarrel_47 : decode cX3_stepQuarrel 47 = .ok (.getfield 15, 3) := by decide +kernel
theorem dX3_stepQuarrel_50 : decode cX3_stepQuarrel 50 = .ok (.imul, 1) := by decide +kernel
theorem dX3_stepQuarrel_51 : decode cX3_stepQuarrel 51 = .ok (.iadd, 1) := by decide +kernel
theorem dX3_stepQuarrel_52 : decode cX3_stepQuarrel 52 = .ok (.ireturn, 1) := by decide +kernel
theorem dX3_bestOrder_0 : decode cX3_bestOrder 0 = .ok (.aload_n 0, 1) := by decide +kernel
theorem dX3_bestOrder_1 : decode cX3_bestOrder 1 = .ok (.invokevirtual 68, 3) := by decide +kernel
theorem dX3_bestOrder_4 : decode cX3_bestOrder 4 = .ok (.iconst 0, 1) := by decide +kernel
theorem dX3_bestOrder_5 : decode cX3_bestOrder 5 = .ok (.istore_n 1, 1) := by decide +kernel
theorem dX3_bestOrder_6 : decode cX3_bestOrder 6 = .ok (.iconst 0, 1) := by decide +kernel
theorem dX3_bestOrder_7 : decode cX3_bestOrder 7 = .ok (.istore_n 2, 1) := by decide +kernel
theorem dX3_bestOrder_8 : decode cX3_bestOrder 8 = .ok (.bipush (-9), 2) := by decide +kernel
theorem dX3_bestOrder_10 : decode cX3_bestOrder 10 = .ok (.istore_n 3, 1) := by decide +kernel
theorem dX3_bestOrder_11 : decode cX3_bestOrder 11 = .ok (.iconst 0, 1) := by decide +kernel
theorem dX3_bestOrder_12 : decode cX3_bestOrder 12 = .ok (.istore 4, 2) := by decide +kernel
theorem dX3_bestOrder_14 : decode cX3_bestOrder 14 = .ok (.iload 4, 2) := by decide +kernel
theorem dX3_bestOrder_16 : decode cX3_bestOrder 16 = .ok (.aload_n 0, 1) := by decide +kernel
theorem dX3_bestOrder_17 : decode cX3_bestOrder 17 = .ok (.getfield 31, 3) := by decide +kernel
theorem dX3_bestOrder_20 : decode cX3_bestOrder 20 = .ok (.if_icmp .ge 39, 3) := by decide +kernel
theorem dX3_bestOrder_23 : decode cX3_bestOrder 23 = .ok (.aload_n 0, 1) := by decide +kernel
theorem dX3_bestOrder_24 : decode cX3_bestOrder 24 = .ok (.iload_n 2, 1) := by decide +kernel
theorem dX3_bestOrder_25 : decode cX3_bestOrder 25 = .ok (.iload_n 3, 1) := by decide +kernel
theorem dX3_bestOrder_26 : decode cX3_bestOrder 26 = .ok (.invokevirtual 71, 3) := by decide +kernel
theorem dX3_bestOrder_29 : decode cX3_bestOrder 29 = .ok (.istore_n 3, 1) := by decide +kernel
theorem dX3_bestOrder_30 : decode cX3_bestOrder 30 = .ok (.aload_n 0, 1) := by decide +kernel
theorem dX3_bestOrder_31 : decode cX3_bestOrder 31 = .ok (.iload_n 3, 1) := by decide +kernel
theorem dX3_bestOrder_32 : decode cX3_bestOrder 32 = .ok (.invokevirtual 55, 3) := by decide +kernel
theorem dX3_bestOrder_35 : decode cX3_bestOrder 35 = .ok (.ifCond .ne 5, 3) := by decide +kernel
theorem dX3_bestOrder_38 : decode cX3_bestOrder 38 = .ok (.iconst 0, 1) := by decide +kernel
theorem dX3_bestOrder_39 : decode cX3_bestOrder 39 = .ok (.ireturn, 1) := by decide +kernel
theorem dX3_bestOrder_40 : decode cX3_bestOrder 40 = .ok (.iload_n 2, 1) := by decide +kernel
theorem dX3_bestOrder_41 : decode cX3_bestOrder 41 = .ok (.iconst 1, 1) := by decide +kernel
theorem dX3_bestOrder_42 : decode cX3_bestOrder 42 = .ok (.iload_n 3, 1) := by decide +kernel
theorem dX3_bestOrder_43 : decode cX3_bestOrder 43 = .ok (.ishl, 1) := by decide +kernel
theorem dX3_bestOrder_44 : decode cX3_bestOrder 44 = .ok (.ior, 1) := by decide +kernel
theorem dX3_bestOrder_45 : decode cX3_bestOrder 45 = .ok (.istore_n 2, 1) := by decide +kernel
theorem dX3_bestOrder_46 : decode cX3_bestOrder 46 = .ok (.iload_n 1, 1) := by decide +kernel
theorem dX3_bestOrder_47 : decode cX3_bestOrder 47 = .ok (.bipush 6, 2) := by decide +kernel
theorem dX3_bestOrder_49 : decode cX3_bestOrder 49 = .ok (.imul, 1) := by decide +kernel
theorem dX3_bestOrder_50 : decode cX3_bestOrder 50 = .ok (.iload_n 3, 1) := by decide +kernel
theorem dX3_bestOrder_51 : decode cX3_bestOrder 51 = .ok (.iadd, 1) := by decide +kernel
theorem dX3_bestOrder_52 : decode cX3_bestOrder 52 = .ok (.istore_n 1, 1) := by decide +kernel
theorem dX3_bestOrder_53 : decode cX3_bestOrder 53 = .ok (.iinc 4 1, 3) := by decide +kernel
theorem dX3_bestOrder_56 : decode cX3_bestOrder 56 = .ok (.goto (-42), 3) := by decide +kernel
theorem dX3_bestOrder_59 : decode cX3_bestOrder 59 = .ok (.iload_n 1, 1) := by decide +kernel
theorem dX3_bestOrder_60 : decode cX3_bestOrder 60 = .ok (.ireturn, 1) := by decide +kernel
theorem dX3_weighWhatIsToCome_0 : decode cX3_weighWhatIsToCome 0 = .ok (.iconst 1, 1) := by decide +kernel
theorem dX3_weighWhatIsToCome_1 : decode cX3_weighWhatIsToCome 1 = .ok (.aload_n 0, 1) := by decide +kernel
theorem dX3_weighWhatIsToCome_2 : decode cX3_weighWhatIsToCome 2 = .ok (.getfield 31, 3) := by decide +kernel
theorem dX3_weighWhatIsToCome_5 : decode cX3_weighWhatIsToCome 5 = .ok (.ishl, 1) := by decide +kernel
theorem dX3_weighWhatIsToCome_6 : decode cX3_weighWhatIsToCome 6 = .ok (.iconst 1, 1) := by decide +kernel
theorem dX3_weighWhatIsToCome_7 : decode cX3_weighWhatIsToCome 7 = .ok (.isub, 1) := by decide +kernel
theorem dX3_weighWhatIsToCome_8 : decode cX3_weighWhatIsToCome 8 = .ok (.istore_n 1, 1) := by decide +kernel
theorem dX3_weighWhatIsToCome_9 : decode cX3_weighWhatIsToCome 9 = .ok (.iload_n 1, 1) := by decide +kernel
theorem dX3_weighWhatIsToCome_10 : decode cX3_weighWhatIsToCome 10 = .ok (.ifCond .le 59, 3) := by decide +kernel
theorem dX3_weighWhatIsToCome_13 : decode cX3_weighWhatIsToCome 13 = .ok (.iconst 0, 1) := by decide +kernel
theorem dX3_weighWhatIsToCome_14 : decode cX3_weighWhatIsToCome 14 = .ok (.istore_n 2, 1) := by decide +kernel
theorem dX3_weighWhatIsToCome_15 : decode cX3_weighWhatIsToCome 15 = .ok (.iload_n 2, 1) := by decide +kernel
theorem dX3_weighWhatIsToCome_16 : decode cX3_weighWhatIsToCome 16 = .ok (.aload_n 0, 1) := by decide +kernel
theorem dX3_weighWhatIsToCome_17 : decode cX3_weighWhatIsToCome 17 = .ok (.getfield 31, 3) := by decide +kernel
theorem dX3_weighWhatIsToCome_20 : decode cX3_weighWhatIsToCome 20 = .ok (.if_icmp .ge 43, 3) := by decide +kernel
theorem dX3_weighWhatIsToCome_23 : decode cX3_weighWhatIsToCome 23 = .ok (.aload_n 0, 1) := by decide +kernel
theorem dX3_weighWhatIsToCome_24 : decode cX3_weighWhatIsToCome 24 = .ok (.iload_n 1, 1) := by decide +kernel
theorem dX3_weighWhatIsToCome_25 : decode cX3_weighWhatIsToCome 25 = .ok (.iload_n 2, 1) := by decide +kernel
theorem dX3_weighWhatIsToCome_26 : decode cX3_weighWhatIsToCome 26 = .ok (.invokevirtual 71, 3) := by decide +kernel
theorem dX3_weighWhatIsToCome_29 : decode cX3_weighWhatIsToCome 29 = .ok (.istore_n 3, 1) := by decide +kernel
theorem dX3_weighWhatIsToCome_30 : decode cX3_weighWhatIsToCome 30 = .ok (.aload_n 0, 1) := by decide +kernel
theorem dX3_weighWhatIsToCome_31 : decode cX3_weighWhatIsToCome 31 = .ok (.getfield 39, 3) := by decide +kernel
theorem dX3_weighWhatIsToCome_34 : decode cX3_weighWhatIsToCome 34 = .ok (.iload_n 1, 1) := by decide +kernel
theorem dX3_weighWhatIsToCome_35 : decode cX3_weighWhatIsToCome 35 = .ok (.aaload, 1) := by decide +kernel
theorem dX3_weighWhatIsToCome_36 : decode cX3_weighWhatIsToCome 36 = .ok (.iload_n 2, 1) := by decide +kernel
theorem dX3_weighWhatIsToCome_37 : decode cX3_weighWhatIsToCome 37 = .ok (.aload_n 0, 1) := by decide +kernel
theorem dX3_weighWhatIsToCome_38 : decode cX3_weighWhatIsToCome 38 = .ok (.iload_n 3, 1) := by decide +kernel
theorem dX3_weighWhatIsToCome_39 : decode cX3_weighWhatIsToCome 39 = .ok (.invokevirtual 55, 3) := by decide +kernel
theorem dX3_weighWhatIsToCome_42 : decode cX3_weighWhatIsToCome 42 = .ok (.ifCond .eq 13, 3) := by decide +kernel
theorem dX3_weighWhatIsToCome_45 : decode cX3_weighWhatIsToCome 45 = .ok (.aload_n 0, 1) := by decide +kernel
theorem dX3_weighWhatIsToCome_46 : decode cX3_weighWhatIsToCome 46 = .ok (.iload_n 1, 1) := by decide +kernel
theorem dX3_weighWhatIsToCome_47 : decode cX3_weighWhatIsToCome 47 = .ok (.iload_n 2, 1) := by decide +kernel
theorem dX3_weighWhatIsToCome_48 : decode cX3_weighWhatIsToCome 48 = .ok (.iload_n 3, 1) := by decide +kernel
theorem dX3_weighWhatIsToCome_49 : decode cX3_weighWhatIsToCome 49 = .ok (.invokevirtual 75, 3) := by decide +kernel
theorem dX3_weighWhatIsToCome_52 : decode cX3_weighWhatIsToCome 52 = .ok (.goto 4, 3) := by decide +kernel
theorem dX3_weighWhatIsToCome_55 : decode cX3_weighWhatIsToCome 55 = .ok (.iconst 0, 1) := by decide +kernel
theorem dX3_weighWhatIsToCome_56 : decode cX3_weighWhatIsToCome 56 = .ok (.iastore, 1) := by decide +kernel
theorem dX3_weighWhatIsToCome_57 : decode cX3_weighWhatIsToCome 57 = .ok (.iinc 2 1, 3) := by decide +kernel
theorem dX3_weighWhatIsToCome_60 : decode cX3_weighWhatIsToCome 60 = .ok (.goto (-45), 3) := by decide +kernel
theorem dX3_weighWhatIsToCome_63 : decode cX3_weighWhatIsToCome 63 = .ok (.iinc 1 (-1), 3) := by decide +kernel
theorem dX3_weighWhatIsToCome_66 : decode cX3_weighWhatIsToCome 66 = .ok (.goto (-57), 3) := by decide +kernel
theorem dX3_weighWhatIsToCome_69 : decode cX3_weighWhatIsToCome 69 = .ok (.return_, 1) := by decide +kernel
theorem dX3_bestNext_0 : decode cX3_bestNext 0 = .ok (.bipush (-9), 2) := by decide +kernel
theorem dX3_bestNext_2 : decode cX3_bestNext 2 = .ok (.istore_n 3, 1) := by decide +kernel
theorem dX3_bestNext_3 : decode cX3_bestNext 3 = .ok (.iconst 0, 1) := by decide +kernel
theorem dX3_bestNext_4 : decode cX3_bestNext 4 = .ok (.istore 4, 2) := by decide +kernel
theorem dX3_bestNext_6 : decode cX3_bestNext 6 = .ok (.iconst 0, 1) := by decide +kernel
theorem dX3_bestNext_7 : decode cX3_bestNext 7 = .ok (.istore 5, 2) := by decide +kernel
theorem dX3_bestNext_9 : decode cX3_bestNext 9 = .ok (.iload 5, 2) := by decide +kernel
theorem dX3_bestNext_11 : decode cX3_bestNext 11 = .ok (.aload_n 0, 1) := by decide +kernel
theorem dX3_bestNext_12 : decode cX3_bestNext 12 = .ok (.getfield 31, 3) := by decide +kernel
theorem dX3_bestNext_15 : decode cX3_bestNext 15 = .ok (.if_icmp .ge 48, 3) := by decide +kernel
theorem dX3_bestNext_18 : decode cX3_bestNext 18 = .ok (.iload_n 1, 1) := by decide +kernel
theorem dX3_bestNext_19 : decode cX3_bestNext 19 = .ok (.iload 5, 2) := by decide +kernel
theorem dX3_bestNext_21 : decode cX3_bestNext 21 = .ok (.invokestatic 58, 3) := by decide +kernel
theorem dX3_bestNext_24 : decode cX3_bestNext 24 = .ok (.ifCond .ne 33, 3) := by decide +kernel
theorem dX3_bestNext_27 : decode cX3_bestNext 27 = .ok (.aload_n 0, 1) := by decide +kernel
theorem dX3_bestNext_28 : decode cX3_bestNext 28 = .ok (.iload_n 1, 1) := by decide +kernel
theorem dX3_bestNext_29 : decode cX3_bestNext 29 = .ok (.iload_n 2, 1) := by decide +kernel
theorem dX3_bestNext_30 : decode cX3_bestNext 30 = .ok (.iload 5, 2) := by decide +kernel
theorem dX3_bestNext_32 : decode cX3_bestNext 32 = .ok (.invokevirtual 75, 3) := by decide +kernel
theorem dX3_bestNext_35 : decode cX3_bestNext 35 = .ok (.istore 6, 2) := by decide +kernel
theorem dX3_bestNext_37 : decode cX3_bestNext 37 = .ok (.iload_n 3, 1) := by decide +kernel
theorem dX3_bestNext_38 : decode cX3_bestNext 38 = .ok (.bipush (-9), 2) := by decide +kernel
theorem dX3_bestNext_40 : decode cX3_bestNext 40 = .ok (.if_icmp .eq 10, 3) := by decide +kernel
theorem dX3_bestNext_43 : decode cX3_bestNext 43 = .ok (.iload 6, 2) := by decide +kernel
theorem dX3_bestNext_45 : decode cX3_bestNext 45 = .ok (.iload 4, 2) := by decide +kernel
theorem dX3_bestNext_47 : decode cX3_bestNext 47 = .ok (.if_icmp .ge 10, 3) := by decide +kernel
theorem dX3_bestNext_50 : decode cX3_bestNext 50 = .ok (.iload 5, 2) := by decide +kernel
theorem dX3_bestNext_52 : decode cX3_bestNext 52 = .ok (.istore_n 3, 1) := by decide +kernel
theorem dX3_bestNext_53 : decode cX3_bestNext 53 = .ok (.iload 6, 2) := by decide +kernel
theorem dX3_bestNext_55 : decode cX3_bestNext 55 = .ok (.istore 4, 2) := by decide +kernel
theorem dX3_bestNext_57 : decode cX3_bestNext 57 = .ok (.iinc 5 1, 3) := by decide +kernel
theorem dX3_bestNext_60 : decode cX3_bestNext 60 = .ok (.goto (-51), 3) := by decide +kernel
theorem dX3_bestNext_63 : decode cX3_bestNext 63 = .ok (.iload_n 3, 1) := by decide +kernel
theorem dX3_bestNext_64 : decode cX3_bestNext 64 = .ok (.ireturn, 1) := by decide +kernel
theorem dX3_quarrelBy_0 : decode cX3_quarrelBy 0 = .ok (.aload_n 0, 1) := by decide +kernel
theorem dX3_quarrelBy_1 : decode cX3_quarrelBy 1 = .ok (.iload_n 2, 1) := by decide +kernel
theorem dX3_quarrelBy_2 : decode cX3_quarrelBy 2 = .ok (.invokevirtual 55, 3) := by decide +kernel
theorem dX3_quarrelBy_5 : decode cX3_quarrelBy 5 = .ok (.ifCond .eq 27, 3) := by decide +kernel
theorem dX3_quarrelBy_8 : decode cX3_quarrelBy 8 = .ok (.aload_n 0, 1) := by decide +kernel
theorem dX3_quarrelBy_9 : decode cX3_quarrelBy 9 = .ok (.aload_n 0, 1) := by decide +kernel
theorem dX3_quarrelBy_10 : decode cX3_quarrelBy 10 = .ok (.iload_n 1, 1) := by decide +kernel
theorem dX3_quarrelBy_11 : decode cX3_quarrelBy 11 = .ok (.invokevirtual 78, 3) := by decide +kernel
theorem dX3_quarrelBy_14 : decode cX3_quarrelBy 14 = .ok (.aload_n 0, 1) := by decide +kernel
theorem dX3_quarrelBy_15 : decode cX3_quarrelBy 15 = .ok (.getfield 21, 3) := by decide +kernel
theorem dX3_quarrelBy_18 : decode cX3_quarrelBy 18 = .ok (.iload_n 2, 1) := by decide +kernel
theorem dX3_quarrelBy_19 : decode cX3_quarrelBy 19 = .ok (.iaload, 1) := by decide +kernel
theorem dX3_quarrelBy_20 : decode cX3_quarrelBy 20 = .ok (.aload_n 0, 1) := by decide +kernel
theorem dX3_quarrelBy_21 : decode cX3_quarrelBy 21 = .ok (.getfield 21, 3) := by decide +kernel
theorem dX3_quarrelBy_24 : decode cX3_quarrelBy 24 = .ok (.iload_n 3, 1) := by decide +kernel
theorem dX3_quarrelBy_25 : decode cX3_quarrelBy 25 = .ok (.iaload, 1) := by decide +kernel
theorem dX3_quarrelBy_26 : decode cX3_quarrelBy 26 = .ok (.invokevirtual 51, 3) := by decide +kernel
theorem dX3_quarrelBy_29 : decode cX3_quarrelBy 29 = .ok (.goto 4, 3) := by decide +kernel
theorem dX3_quarrelBy_32 : decode cX3_quarrelBy 32 = .ok (.iconst 0, 1) := by decide +kernel
theorem dX3_quarrelBy_33 : decode cX3_quarrelBy 33 = .ok (.istore 4, 2) := by decide +kernel
theorem dX3_quarrelBy_35 : decode cX3_quarrelBy 35 = .ok (.iload 4, 2) := by decide +kernel
theorem dX3_quarrelBy_37 : decode cX3_quarrelBy 37 = .ok (.aload_n 0, 1) := by decide +kernel
theorem dX3_quarrelBy_38 : decode cX3_quarrelBy 38 = .ok (.getfield 39, 3) := by decide +kernel
theorem dX3_quarrelBy_41 : decode cX3_quarrelBy 41 = .ok (.iload_n 1, 1) := by decide +kernel
theorem dX3_quarrelBy_42 : decode cX3_quarrelBy 42 = .ok (.iconst 1, 1) := by decide +kernel
theorem dX3_quarrelBy_43 : decode cX3_quarrelBy 43 = .ok (.iload_n 3, 1) := by decide +kernel
theorem dX3_quarrelBy_44 : decode cX3_quarrelBy 44 = .ok (.ishl, 1) := by decide +kernel
theorem dX3_quarrelBy_45 : decode cX3_quarrelBy 45 = .ok (.ior, 1) := by decide +kernel
theorem dX3_quarrelBy_46 : decode cX3_quarrelBy 46 = .ok (.aaload, 1) := by decide +kernel
theorem dX3_quarrelBy_47 : decode cX3_quarrelBy 47 = .ok (.iload_n 3, 1) := by decide +kernel
theorem dX3_quarrelBy_48 : decode cX3_quarrelBy 48 = .ok (.iaload, 1) := by decide +kernel
theorem dX3_quarrelBy_49 : decode cX3_quarrelBy 49 = .ok (.iadd, 1) := by decide +kernel
theorem dX3_quarrelBy_50 : decode cX3_quarrelBy 50 = .ok (.ireturn, 1) := by decide +kernel
theorem dX3_linesOf_0 : decode cX3_linesOf 0 = .ok (.iconst 0, 1) := by decide +kernel
theorem dX3_linesOf_1 : decode cX3_linesOf 1 = .ok (.istore_n 2, 1) := by decide +kernel
theorem dX3_linesOf_2 : decode cX3_linesOf 2 = .ok (.iconst 0, 1) := by decide +kernel
theorem dX3_linesOf_3 : decode cX3_linesOf 3 = .ok (.istore_n 3, 1) := by decide +kernel
theorem dX3_linesOf_4 : decode cX3_linesOf 4 = .ok (.iload_n 3, 1) := by decide +kernel
theorem dX3_linesOf_5 : decode cX3_linesOf 5 = .ok (.aload_n 0, 1) := by decide +kernel
theorem dX3_linesOf_6 : decode cX3_linesOf 6 = .ok (.getfield 31, 3) := by decide +kernel
theorem dX3_linesOf_9 : decode cX3_linesOf 9 = .ok (.if_icmp .ge 26, 3) := by decide +kernel
theorem dX3_linesOf_12 : decode cX3_linesOf 12 = .ok (.iload_n 1, 1) := by decide +kernel
theorem dX3_linesOf_13 : decode cX3_linesOf 13 = .ok (.iload_n 3, 1) := by decide +kernel
theorem dX3_linesOf_14 : decode cX3_linesOf 14 = .ok (.invokestatic 58, 3) := by decide +kernel
theorem dX3_linesOf_17 : decode cX3_linesOf 17 = .ok (.ifCond .eq 12, 3) := by decide +kernel
theorem dX3_linesOf_20 : decode cX3_linesOf 20 = .ok (.iload_n 2, 1) := by decide +kernel
theorem dX3_linesOf_21 : decode cX3_linesOf 21 = .ok (.aload_n 0, 1) := by decide +kernel
theorem dX3_linesOf_22 : decode cX3_linesOf 22 = .ok (.getfield 21, 3) := by decide +kernel
theorem dX3_linesOf_25 : decode cX3_linesOf 25 = .ok (.iload_n 3, 1) := by decide +kernel
theorem dX3_linesOf_26 : decode cX3_linesOf 26 = .ok (.iaload, 1) := by decide +kernel
theorem dX3_linesOf_27 : decode cX3_linesOf 27 = .ok (.ior, 1) := by decide +kernel
theorem dX3_linesOf_28 : decode cX3_linesOf 28 = .ok (.istore_n 2, 1) := by decide +kernel
theorem dX3_linesOf_29 : decode cX3_linesOf 29 = .ok (.iinc 3 1, 3) := by decide +kernel
theorem dX3_linesOf_32 : decode cX3_linesOf 32 = .ok (.goto (-28), 3) := by decide +kernel
theorem dX3_linesOf_35 : decode cX3_linesOf 35 = .ok (.iload_n 2, 1) := by decide +kernel
theorem dX3_linesOf_36 : decode cX3_linesOf 36 = .ok (.ireturn, 1) := by decide +kernel
theorem dX4_init_0 : decode cX4_init 0 = .ok (.aload_n 0, 1) := by decide +kernel
theorem dX4_init_1 : decode cX4_init 1 = .ok (.invokespecial 3, 3) := by decide +kernel
theorem dX4_init_4 : decode cX4_init 4 = .ok (.aload_n 0, 1) := by decide +kernel
theorem dX4_init_5 : decode cX4_init 5 = .ok (.sipush 1500, 3) := by decide +kernel
theorem dX4_init_8 : decode cX4_init 8 = .ok (.putfield 9, 3) := by decide +kernel
theorem dX4_init_11 : decode cX4_init 11 = .ok (.aload_n 0, 1) := by decide +kernel
theorem dX4_init_12 : decode cX4_init 12 = .ok (.sipush 1900, 3) := by decide +kernel
theorem dX4_init_15 : decode cX4_init 15 = .ok (.putfield 15, 3) := by decide +kernel
theorem dX4_init_18 : decode cX4_init 18 = .ok (.return_, 1) := by decide +kernel
theorem dX4_put_0 : decode cX4_put 0 = .ok (.aload_n 0, 1) := by decide +kernel
theorem dX4_put_1 : decode cX4_put 1 = .ok (.iload_n 1, 1) := by decide +kernel
theorem dX4_put_2 : decode cX4_put 2 = .ok (.putfield 9, 3) := by decide +kernel
theorem dX4_put_5 : decode cX4_put 5 = .ok (.aload_n 0, 1) := by decide +kernel
theorem dX4_put_6 : decode cX4_put 6 = .ok (.iload_n 2, 1) := by decide +kernel
theorem dX4_put_7 : decode cX4_put 7 = .ok (.putfield 15, 3) := by decide +kernel
theorem dX4_put_10 : decode cX4_put 10 = .ok (.return_, 1) := by decide +kernel
theorem dX5_init_0 : decode cX5_init 0 = .ok (.aload_n 0, 1) := by decide +kernel
theorem dX5_init_1 : decode cX5_init 1 = .ok (.invokespecial 1, 3) := by decide +kernel
theorem dX5_init_4 : decode cX5_init 4 = .ok (.aload_n 0, 1) := by decide +kernel
theorem dX5_init_5 : decode cX5_init 5 = .ok (.new 7, 3) := by decide +kernel
theorem dX5_init_8 : decode cX5_init 8 = .ok (.dup, 1) := by decide +kernel
theorem dX5_init_9 : decode cX5_init 9 = .ok (.invokespecial 9, 3) := by decide +kernel
theorem dX5_init_12 : decode cX5_init 12 = .ok (.putfield 10, 3) := by decide +kernel
theorem dX5_init_15 : decode cX5_init 15 = .ok (.aload_n 0, 1) := by decide +kernel
theorem dX5_init_16 : decode cX5_init 16 = .ok (.new 16, 3) := by decide +kernel
theorem dX5_init_19 : decode cX5_init 19 = .ok (.dup, 1) := by decide +kernel
theorem dX5_init_20 : decode cX5_init 20 = .ok (.invokespecial 18, 3) := by decide +kernel
theorem dX5_init_23 : decode cX5_init 23 = .ok (.putfield 19, 3) := by decide +kernel
theorem dX5_init_26 : decode cX5_init 26 = .ok (.aload_n 0, 1) := by decide +kernel
theorem dX5_init_27 : decode cX5_init 27 = .ok (.bipush 20, 2) := by decide +kernel
theorem dX5_init_29 : decode cX5_init 29 = .ok (.anewarray 23, 3) := by decide +kernel
theorem dX5_init_32 : decode cX5_init 32 = .ok (.putfield 25, 3) := by decide +kernel
theorem dX5_init_35 : decode cX5_init 35 = .ok (.aload_n 0, 1) := by decide +kernel
theorem dX5_init_36 : decode cX5_init 36 = .ok (.iconst 0, 1) := by decide +kernel
theorem dX5_init_37 : decode cX5_init 37 = .ok (.putfield 29, 3) := by decide +kernel
theorem dX5_init_40 : decode cX5_init 40 = .ok (.aload_n 0, 1) := by decide +kernel
theorem dX5_init_41 : decode cX5_init 41 = .ok (.bipush 8, 2) := by decide +kernel
theorem dX5_init_43 : decode cX5_init 43 = .ok (.anewarray 33, 3) := by decide +kernel
theorem dX5_init_46 : decode cX5_init 46 = .ok (.putfield 35, 3) := by decide +kernel
theorem dX5_init_49 : decode cX5_init 49 = .ok (.aload_n 0, 1) := by decide +kernel
theorem dX5_init_50 : decode cX5_init 50 = .ok (.iconst 0, 1) := by decide +kernel
theorem dX5_init_51 : decode cX5_init 51 = .ok (.putfield 39, 3) := by decide +kernel
theorem dX5_init_54 : decode cX5_init 54 = .ok (.aload_n 0, 1) := by decide +kernel
theorem dX5_init_55 : decode cX5_init 55 = .ok (.iconst 4, 1) := by decide +kernel
theorem dX5_init_56 : decode cX5_init 56 = .ok (.anewarray 42, 3) := by decide +kernel
theorem dX5_init_59 : decode cX5_init 59 = .ok (.putfield 44, 3) := by decide +kernel
theorem dX5_init_62 : decode cX5_init 62 = .ok (.aload_n 0, 1) := by decide +kernel
theorem dX5_init_63 : decode cX5_init 63 = .ok (.lconst 0, 1) := by decide +kernel
theorem dX5_init_64 : decode cX5_init 64 = .ok (.putfield 48, 3) := by decide +kernel
theorem dX5_init_67 : decode cX5_init 67 = .ok (.iconst 0, 1) := by decide +kernel
theorem dX5_init_68 : decode cX5_init 68 = .ok (.istore_n 1, 1) := by decide +kernel
theorem dX5_init_69 : decode cX5_init 69 = .ok (.iload_n 1, 1) := by decide +kernel
theorem dX5_init_70 : decode cX5_init 70 = .ok (.bipush 20, 2) := by decide +kernel
theorem dX5_init_72 : decode cX5_init 72 = .ok (.if_icmp .ge 22, 3) := by decide +kernel
theorem dX5_init_75 : decode cX5_init 75 = .ok (.aload_n 0, 1) := by decide +kernel
theorem dX5_init_76 : decode cX5_init 76 = .ok (.getfield 25, 3) := by decide +kernel
theorem dX5_init_79 : decode cX5_init 79 = .ok (.iload_n 1, 1) := by decide +kernel
theorem dX5_init_80 : decode cX5_init 80 = .ok (.new 23, 3) := by decide +kernel
theorem dX5_init_83 : decode cX5_init 83 = .ok (.dup, 1) := by decide +kernel
theorem dX5_init_84 : decode cX5_init 84 = .ok (.invokespecial 52, 3) := by decide +kernel
theorem dX5_init_87 : decode cX5_init 87 = .ok (.aastore, 1) := by decide +kernel
theorem dX5_init_88 : decode cX5_init 88 = .ok (.iinc 1 1, 3) := by decide +kernel
theorem dX5_init_91 : decode cX5_init 91 = .ok (.goto (-22), 3) := by decide +kernel
theorem dX5_init_94 : decode cX5_init 94 = .ok (.iconst 0, 1) := by decide +kernel
theorem dX5_init_95 : decode cX5_init 95 = .ok (.istore_n 1, 1) := by decide +kernel
theorem dX5_init_96 : decode cX5_init 96 = .ok (.iload_n 1, 1) := by decide +kernel
theorem dX5_init_97 : decode cX5_init 97 = .ok (.bipush 8, 2) := by decide +kernel
theorem dX5_init_99 : decode cX5_init 99 = .ok (.if_icmp .ge 22, 3) := by decide +kernel
theorem dX5_init_102 : decode cX5_init 102 = .ok (.aload_n 0, 1) := by decide +kernel
theorem dX5_init_103 : decode cX5_init 103 = .ok (.getfield 35, 3) := by decide +kernel
theorem dX5_init_106 : decode cX5_init 106 = .ok (.iload_n 1, 1) := by decide +kernel
theorem dX5_init_107 : decode cX5_init 107 = .ok (.new 33, 3) := by decide +kernel
theorem dX5_init_110 : decode cX5_init 110 = .ok (.dup, 1) := by decide +kernel
theorem dX5_init_111 : decode cX5_init 111 = .ok (.invokespecial 53, 3) := by decide +kernel
theorem dX5_init_114 : decode cX5_init 114 = .ok (.aastore, 1) := by decide +kernel
theorem dX5_init_115 : decode cX5_init 115 = .ok (.iinc 1 1, 3) := by decide +kernel
theorem dX5_init_118 : decode cX5_init 118 = .ok (.goto (-22), 3) := by decide +kernel
theorem dX5_init_121 : decode cX5_init 121 = .ok (.iconst 0, 1) := by decide +kernel
theorem dX5_init_122 : decode cX5_init 122 = .ok (.istore_n 1, 1) := by decide +kernel
theorem dX5_init_123 : decode cX5_init 123 = .ok (.iload_n 1, 1) := by decide +kernel
theorem dX5_init_124 : decode cX5_init 124 = .ok (.iconst 4, 1) := by decide +kernel
theorem dX5_init_125 : decode cX5_init 125 = .ok (.if_icmp .ge 22, 3) := by decide +kernel
theorem dX5_init_128 : decode cX5_init 128 = .ok (.aload_n 0, 1) := by decide +kernel
theorem dX5_init_129 : decode cX5_init 129 = .ok (.getfield 44, 3) := by decide +kernel
theorem dX5_init_132 : decode cX5_init 132 = .ok (.iload_n 1, 1) := by decide +kernel
theorem dX5_init_133 : decode cX5_init 133 = .ok (.new 42, 3) := by decide +kernel
theorem dX5_init_136 : decode cX5_init 136 = .ok (.dup, 1) := by decide +kernel
theorem dX5_init_137 : decode cX5_init 137 = .ok (.invokespecial 54, 3) := by decide +kernel
theorem dX5_init_140 : decode cX5_init 140 = .ok (.aastore, 1) := by decide +kernel
theorem dX5_init_141 : decode cX5_init 141 = .ok (.iinc 1 1, 3) := by decide +kernel
theorem dX5_init_144 : decode cX5_init 144 = .ok (.goto (-21), 3) := by decide +kernel
theorem dX5_init_147 : decode cX5_init 147 = .ok (.return_, 1) := by decide +kernel
theorem dX5_state_0 : decode cX5_state 0 = .ok (.iload_n 1, 1) := by decide +kernel
theorem dX5_state_1 : decode cX5_state 1 = .ok (.invokestatic 55, 3) := by decide +kernel
theorem dX5_state_4 : decode cX5_state 4 = .ok (.ifCond .eq 11, 3) := by decide +kernel
theorem dX5_state_7 : decode cX5_state 7 = .ok (.iload_n 2, 1) := by decide +kernel
theorem dX5_state_8 : decode cX5_state 8 = .ok (.iload_n 3, 1) := by decide +kernel
theorem dX5_state_9 : decode cX5_state 9 = .ok (.invokestatic 59, 3) := by decide +kernel
theorem dX5_state_12 : decode cX5_state 12 = .ok (.ifCond .ne 5, 3) := by decide +kernel
theorem dX5_state_15 : decode cX5_state 15 = .ok (.iconst (-1), 1) := by decide +kernel
theorem dX5_state_16 : decode cX5_state 16 = .ok (.ireturn, 1) := by decide +kernel
theorem dX5_state_17 : decode cX5_state 17 = .ok (.aload_n 0, 1) := by decide +kernel
theorem dX5_state_18 : decode cX5_state 18 = .ok (.getfield 10, 3) := by decide +kernel
theorem dX5_state_21 : decode cX5_state 21 = .ok (.iload_n 1, 1) := by decide +kernel
theorem dX5_state_22 : decode cX5_state 22 = .ok (.iload_n 2, 1) := by decide +kernel
theorem dX5_state_23 : decode cX5_state 23 = .ok (.iload_n 3, 1) := by decide +kernel
theorem dX5_state_24 : decode cX5_state 24 = .ok (.invokevirtual 63, 3) := by decide +kernel
theorem dX5_state_27 : decode cX5_state 27 = .ok (.ireturn, 1) := by decide +kernel
theorem dX5_about_0 : decode cX5_about 0 = .ok (.aload_n 0, 1) := by decide +kernel
theorem dX5_about_1 : decode cX5_about 1 = .ok (.getfield 10, 3) := by decide +kernel
theorem dX5_about_4 : decode cX5_about 4 = .ok (.iload_n 1, 1) := by decide +kernel
theorem dX5_about_5 : decode cX5_about 5 = .ok (.invokevirtual 67, 3) := by decide +kernel
theorem dX5_about_8 : decode cX5_about 8 = .ok (.ifCond .ne 5, 3) := by decide +kernel
theorem dX5_about_11 : decode cX5_about 11 = .ok (.iconst (-1), 1) := by decide +kernel
theorem dX5_about_12 : decode cX5_about 12 = .ok (.ireturn, 1) := by decide +kernel
theorem dX5_about_13 : decode cX5_about 13 = .ok (.iload_n 2, 1) := by decide +kernel
theorem dX5_about_14 : decode cX5_about 14 = .ok (.tableswitch 62 0 2 #[26, 36, 49], 26) := by decide +kernel
theorem dX5_about_40 : decode cX5_about 40 = .ok (.aload_n 0, 1) := by decide +kernel
theorem dX5_about_41 : decode cX5_about 41 = .ok (.getfield 10, 3) := by decide +kernel
theorem dX5_about_44 : decode cX5_about 44 = .ok (.getfield 70, 3) := by decide +kernel
theorem dX5_about_47 : decode cX5_about 47 = .ok (.iload_n 1, 1) := by decide +kernel
theorem dX5_about_48 : decode cX5_about 48 = .ok (.iaload, 1) := by decide +kernel
theorem dX5_about_49 : decode cX5_about 49 = .ok (.ireturn, 1) := by decide +kernel
theorem dX5_about_50 : decode cX5_about 50 = .ok (.aload_n 0, 1) := by decide +kernel
theorem dX5_about_51 : decode cX5_about 51 = .ok (.getfield 10, 3) := by decide +kernel
theorem dX5_about_54 : decode cX5_about 54 = .ok (.getfield 74, 3) := by decide +kernel
theorem dX5_about_57 : decode cX5_about 57 = .ok (.iload_n 1, 1) := by decide +kernel
theorem dX5_about_58 : decode cX5_about 58 = .ok (.aaload, 1) := by decide +kernel
theorem dX5_about_59 : decode cX5_about 59 = .ok (.getfield 77, 3) := by decide +kernel
theorem dX5_about_62 : decode cX5_about 62 = .ok (.ireturn, 1) := by decide +kernel
theorem dX5_about_63 : decode cX5_about 63 = .ok (.aload_n 0, 1) := by decide +kernel
theorem dX5_about_64 : decode cX5_about 64 = .ok (.getfield 10, 3) := by decide +kernel
theorem dX5_about_67 : decode cX5_about 67 = .ok (.getfield 74, 3) := by decide +kernel
theorem dX5_about_70 : decode cX5_about 70 = .ok (.iload_n 1, 1) := by decide +kernel
theorem dX5_about_71 : decode cX5_about 71 = .ok (.aaload, 1) := by decide +kernel
theorem dX5_about_72 : decode cX5_about 72 = .ok (.getfield 80, 3) := by decide +kernel
theorem dX5_about_75 : decode cX5_about 75 = .ok (.ireturn, 1) := by decide +kernel
theorem dX5_about_76 : decode cX5_about 76 = .ok (.iconst (-1), 1) := by decide +kernel
theorem dX5_about_77 : decode cX5_about 77 = .ok (.ireturn, 1) := by decide +kernel
theorem dX5_set_0 : decode cX5_set 0 = .ok (.iload_n 2, 1) := by decide +kernel
theorem dX5_set_1 : decode cX5_set 1 = .ok (.ifCond .lt 11, 3) := by decide +kernel
theorem dX5_set_4 : decode cX5_set 4 = .ok (.iload_n 2, 1) := by decide +kernel
theorem dX5_set_5 : decode cX5_set 5 = .ok (.iload_n 1, 1) := by decide +kernel
theorem dX5_set_6 : decode cX5_set 6 = .ok (.invokestatic 83, 3) := by decide +kernel
theorem dX5_set_9 : decode cX5_set 9 = .ok (.if_icmp .le 5, 3) := by decide +kernel
theorem dX5_set_12 : decode cX5_set 12 = .ok (.iconst (-1), 1) := by decide +kernel
theorem dX5_set_13 : decode cX5_set 13 = .ok (.ireturn, 1) := by decide +kernel
theorem dX5_set_14 : decode cX5_set 14 = .ok (.aload_n 0, 1) := by decide +kernel
theorem dX5_set_15 : decode cX5_set 15 = .ok (.iload_n 1, 1) := by decide +kernel
theorem dX5_set_16 : decode cX5_set 16 = .ok (.invokevirtual 87, 3) := by decide +kernel
theorem dX5_set_19 : decode cX5_set 19 = .ok (.istore_n 3, 1) := by decide +kernel
theorem dX5_set_20 : decode cX5_set 20 = .ok (.aload_n 0, 1) := by decide +kernel
theorem dX5_set_21 : decode cX5_set 21 = .ok (.iload_n 1, 1) := by decide +kernel
theorem dX5_set_22 : decode cX5_set 22 = .ok (.iload_n 2, 1) := by decide +kernel
theorem dX5_set_23 : decode cX5_set 23 = .ok (.invokevirtual 90, 3) := by decide +kernel
theorem dX5_set_26 : decode cX5_set 26 = .ok (.iload_n 3, 1) := by decide +kernel
theorem dX5_set_27 : decode cX5_set 27 = .ok (.ireturn, 1) := by decide +kernel
theorem dX5_quarrel_0 : decode cX5_quarrel 0 = .ok (.aload_n 0, 1) := by decide +kernel
theorem dX5_quarrel_1 : decode cX5_quarrel 1 = .ok (.getfield 10, 3) := by decide +kernel
theorem dX5_quarrel_4 : decode cX5_quarrel 4 = .ok (.iload_n 1, 1) := by decide +kernel
theorem dX5_quarrel_5 : decode cX5_quarrel 5 = .ok (.invokevirtual 94, 3) := by decide +kernel
theorem dX5_quarrel_8 : decode cX5_quarrel 8 = .ok (.ireturn, 1) := by decide +kernel
theorem dX5_best_0 : decode cX5_best 0 = .ok (.iload_n 1, 1) := by decide +kernel
theorem dX5_best_1 : decode cX5_best 1 = .ok (.invokestatic 97, 3) := by decide +kernel
theorem dX5_best_4 : decode cX5_best 4 = .ok (.ifCond .ne 5, 3) := by decide +kernel
theorem dX5_best_7 : decode cX5_best 7 = .ok (.iconst (-1), 1) := by decide +kernel
theorem dX5_best_8 : decode cX5_best 8 = .ok (.ireturn, 1) := by decide +kernel
theorem dX5_best_9 : decode cX5_best 9 = .ok (.aload_n 0, 1) := by decide +kernel
theorem dX5_best_10 : decode cX5_best 10 = .ok (.getfield 10, 3) := by decide +kernel
theorem dX5_best_13 : decode cX5_best 13 = .ok (.getfield 100, 3) := by decide +kernel
theorem dX5_best_16 : decode cX5_best 16 = .ok (.ifCond .ne 6, 3) := by decide +kernel
theorem dX5_best_19 : decode cX5_best 19 = .ok (.bipush (-2), 2) := by decide +kernel
theorem dX5_best_21 : decode cX5_best 21 = .ok (.ireturn, 1) := by decide +kernel
theorem dX5_best_22 : decode cX5_best 22 = .ok (.aload_n 0, 1) := by decide +kernel
theorem dX5_best_23 : decode cX5_best 23 = .ok (.getfield 10, 3) := by decide +kernel
theorem dX5_best_26 : decode cX5_best 26 = .ok (.invokevirtual 103, 3) := by decide +kernel
theorem dX5_best_29 : decode cX5_best 29 = .ok (.istore_n 2, 1) := by decide +kernel
theorem dX5_best_30 : decode cX5_best 30 = .ok (.iload_n 1, 1) := by decide +kernel
theorem dX5_best_31 : decode cX5_best 31 = .ok (.ifCond .ne 7, 3) := by decide +kernel
theorem dX5_best_34 : decode cX5_best 34 = .ok (.iload_n 2, 1) := by decide +kernel
theorem dX5_best_35 : decode cX5_best 35 = .ok (.goto 11, 3) := by decide +kernel
theorem dX5_best_38 : decode cX5_best 38 = .ok (.aload_n 0, 1) := by decide +kernel
theorem dX5_best_39 : decode cX5_best 39 = .ok (.getfield 10, 3) := by decide +kernel
theorem dX5_best_42 : decode cX5_best 42 = .ok (.iload_n 2, 1) := by decide +kernel
theorem dX5_best_43 : decode cX5_best 43 = .ok (.invokevirtual 94, 3) := by decide +kernel
theorem dX5_best_46 : decode cX5_best 46 = .ok (.ireturn, 1) := by decide +kernel
theorem dX5_leaf_0 : decode cX5_leaf 0 = .ok (.iload_n 1, 1) := by decide +kernel
theorem dX5_leaf_1 : decode cX5_leaf 1 = .ok (.invokestatic 55, 3) := by decide +kernel
theorem dX5_leaf_4 : decode cX5_leaf 4 = .ok (.ifCond .eq 16, 3) := by decide +kernel
theorem dX5_leaf_7 : decode cX5_leaf 7 = .ok (.iload_n 2, 1) := by decide +kernel
theorem dX5_leaf_8 : decode cX5_leaf 8 = .ok (.invokestatic 55, 3) := by decide +kernel
theorem dX5_leaf_11 : decode cX5_leaf 11 = .ok (.ifCond .eq 9, 3) := by decide +kernel
theorem dX5_leaf_14 : decode cX5_leaf 14 = .ok (.iload_n 1, 1) := by decide +kernel
theorem dX5_leaf_15 : decode cX5_leaf 15 = .ok (.iload_n 2, 1) := by decide +kernel
theorem dX5_leaf_16 : decode cX5_leaf 16 = .ok (.iand, 1) := by decide +kernel
theorem dX5_leaf_17 : decode cX5_leaf 17 = .ok (.ifCond .eq 5, 3) := by decide +kernel
theorem dX5_leaf_20 : decode cX5_leaf 20 = .ok (.iconst (-1), 1) := by decide +kernel
theorem dX5_leaf_21 : decode cX5_leaf 21 = .ok (.ireturn, 1) := by decide +kernel
theorem dX5_leaf_22 : decode cX5_leaf 22 = .ok (.iload_n 3, 1) := by decide +kernel
theorem dX5_leaf_23 : decode cX5_leaf 23 = .ok (.ifCond .lt 21, 3) := by decide +kernel
theorem dX5_leaf_26 : decode cX5_leaf 26 = .ok (.iload_n 3, 1) := by decide +kernel
theorem dX5_leaf_27 : decode cX5_leaf 27 = .ok (.sipush 1000, 3) := by decide +kernel
theorem dX5_leaf_30 : decode cX5_leaf 30 = .ok (.if_icmp .gt 14, 3) := by decide +kernel
theorem dX5_leaf_33 : decode cX5_leaf 33 = .ok (.iload 4, 2) := by decide +kernel
theorem dX5_leaf_35 : decode cX5_leaf 35 = .ok (.ifCond .lt 9, 3) := by decide +kernel
theorem dX5_leaf_38 : decode cX5_leaf 38 = .ok (.iload 4, 2) := by decide +kernel
theorem dX5_leaf_40 : decode cX5_leaf 40 = .ok (.iconst 3, 1) := by decide +kernel
theorem dX5_leaf_41 : decode cX5_leaf 41 = .ok (.if_icmp .lt 5, 3) := by decide +kernel
theorem dX5_leaf_44 : decode cX5_leaf 44 = .ok (.iconst (-1), 1) := by decide +kernel
theorem dX5_leaf_45 : decode cX5_leaf 45 = .ok (.ireturn, 1) := by decide +kernel
theorem dX5_leaf_46 : decode cX5_leaf 46 = .ok (.aload_n 0, 1) := by decide +kernel
theorem dX5_leaf_47 : decode cX5_leaf 47 = .ok (.getfield 29, 3) := by decide +kernel
theorem dX5_leaf_50 : decode cX5_leaf 50 = .ok (.bipush 20, 2) := by decide +kernel
theorem dX5_leaf_52 : decode cX5_leaf 52 = .ok (.if_icmp .lt 6, 3) := by decide +kernel
theorem dX5_leaf_55 : decode cX5_leaf 55 = .ok (.bipush (-3), 2) := by decide +kernel
theorem dX5_leaf_57 : decode cX5_leaf 57 = .ok (.ireturn, 1) := by decide +kernel
theorem dX5_leaf_58 : decode cX5_leaf 58 = .ok (.aload_n 0, 1) := by decide +kernel
theorem dX5_leaf_59 : decode cX5_leaf 59 = .ok (.getfield 25, 3) := by decide +kernel
theorem dX5_leaf_62 : decode cX5_leaf 62 = .ok (.aload_n 0, 1) := by decide +kernel
theorem dX5_leaf_63 : decode cX5_leaf 63 = .ok (.getfield 29, 3) := by decide +kernel
theorem dX5_leaf_66 : decode cX5_leaf 66 = .ok (.aaload, 1) := by decide +kernel
theorem dX5_leaf_67 : decode cX5_leaf 67 = .ok (.iload_n 1, 1) := by decide +kernel
theorem dX5_leaf_68 : decode cX5_leaf 68 = .ok (.iload_n 2, 1) := by decide +kernel
theorem dX5_leaf_69 : decode cX5_leaf 69 = .ok (.iload_n 3, 1) := by decide +kernel
theorem dX5_leaf_70 : decode cX5_leaf 70 = .ok (.iload 4, 2) := by decide +kernel
theorem dX5_leaf_72 : decode cX5_leaf 72 = .ok (.invokevirtual 107, 3) := by decide +kernel
theorem dX5_leaf_75 : decode cX5_leaf 75 = .ok (.aload_n 0, 1) := by decide +kernel
theorem dX5_leaf_76 : decode cX5_leaf 76 = .ok (.dup, 1) := by decide +kernel
theorem dX5_leaf_77 : decode cX5_leaf 77 = .ok (.getfield 29, 3) := by decide +kernel
theorem dX5_leaf_80 : decode cX5_leaf 80 = .ok (.dup_x1, 1) := by decide +kernel
theorem dX5_leaf_81 : decode cX5_leaf 81 = .ok (.iconst 1, 1) := by decide +kernel
theorem dX5_leaf_82 : decode cX5_leaf 82 = .ok (.iadd, 1) := by decide +kernel
theorem dX5_leaf_83 : decode cX5_leaf 83 = .ok (.putfield 29, 3) := by decide +kernel
theorem dX5_leaf_86 : decode cX5_leaf 86 = .ok (.ireturn, 1) := by decide +kernel
theorem dX5_see_0 : decode cX5_see 0 = .ok (.aload_n 0, 1) := by decide +kernel
theorem dX5_see_1 : decode cX5_see 1 = .ok (.iload_n 1, 1) := by decide +kernel
theorem dX5_see_2 : decode cX5_see 2 = .ok (.invokevirtual 111, 3) := by decide +kernel
theorem dX5_see_5 : decode cX5_see 5 = .ok (.ifCond .eq 19, 3) := by decide +kernel
theorem dX5_see_8 : decode cX5_see 8 = .ok (.iload_n 2, 1) := by decide +kernel
theorem dX5_see_9 : decode cX5_see 9 = .ok (.invokestatic 114, 3) := by decide +kernel
theorem dX5_see_12 : decode cX5_see 12 = .ok (.ifCond .eq 12, 3) := by decide +kernel
theorem dX5_see_15 : decode cX5_see 15 = .ok (.iload_n 3, 1) := by decide +kernel
theorem dX5_see_16 : decode cX5_see 16 = .ok (.ifCond .lt 8, 3) := by decide +kernel
theorem dX5_see_19 : decode cX5_see 19 = .ok (.iload_n 3, 1) := by decide +kernel
theorem dX5_see_20 : decode cX5_see 20 = .ok (.iconst 2, 1) := by decide +kernel
theorem dX5_see_21 : decode cX5_see 21 = .ok (.if_icmp .le 5, 3) := by decide +kernel
theorem dX5_see_24 : decode cX5_see 24 = .ok (.iconst (-1), 1) := by decide +kernel
theorem dX5_see_25 : decode cX5_see 25 = .ok (.ireturn, 1) := by decide +kernel
theorem dX5_see_26 : decode cX5_see 26 = .ok (.aload_n 0, 1) := by decide +kernel
theorem dX5_see_27 : decode cX5_see 27 = .ok (.getfield 25, 3) := by decide +kernel
theorem dX5_see_30 : decode cX5_see 30 = .ok (.iload_n 1, 1) := by decide +kernel
theorem dX5_see_31 : decode cX5_see 31 = .ok (.aaload, 1) := by decide +kernel
theorem dX5_see_32 : decode cX5_see 32 = .ok (.iload_n 2, 1) := by decide +kernel
theorem dX5_see_33 : decode cX5_see 33 = .ok (.invokevirtual 117, 3) := by decide +kernel
theorem dX5_see_36 : decode cX5_see 36 = .ok (.istore 4, 2) := by decide +kernel
theorem dX5_see_38 : decode cX5_see 38 = .ok (.aload_n 0, 1) := by decide +kernel
theorem dX5_see_39 : decode cX5_see 39 = .ok (.getfield 25, 3) := by decide +kernel
theorem dX5_see_42 : decode cX5_see 42 = .ok (.iload_n 1, 1) := by decide +kernel
theorem dX5_see_43 : decode cX5_see 43 = .ok (.aaload, 1) := by decide +kernel
theorem dX5_see_44 : decode cX5_see 44 = .ok (.iload_n 2, 1) := by decide +kernel
theorem dX5_see_45 : decode cX5_see 45 = .ok (.iload_n 3, 1) := by decide +kernel
theorem dX5_see_46 : decode cX5_see 46 = .ok (.invokevirtual 120, 3) := by decide +kernel
theorem dX5_see_49 : decode cX5_see 49 = .ok (.iload 4, 2) := by decide +kernel
theorem dX5_see_51 : decode cX5_see 51 = .ok (.ireturn, 1) := by decide +kernel
theorem dX5_candidates_0 : decode cX5_candidates 0 = .ok (.aload_n 0, 1) := by decide +kernel
theorem dX5_candidates_1 : decode cX5_candidates 1 = .ok (.iload_n 1, 1) := by decide +kernel
theorem dX5_candidates_2 : decode cX5_candidates 2 = .ok (.invokevirtual 111, 3) := by decide +kernel
theorem dX5_candidates_5 : decode cX5_candidates 5 = .ok (.ifCond .ne 5, 3) := by decide +kernel
theorem dX5_candidates_8 : decode cX5_candidates 8 = .ok (.iconst (-1), 1) := by decide +kernel
theorem dX5_candidates_9 : decode cX5_candidates 9 = .ok (.ireturn, 1) := by decide +kernel
theorem dX5_candidates_10 : decode cX5_candidates 10 = .ok (.aload_n 0, 1) := by decide +kernel
theorem dX5_candidates_11 : decode cX5_candidates 11 = .ok (.aload_n 0, 1) := by decide +kernel
theorem dX5_candidates_12 : decode cX5_candidates 12 = .ok (.getfield 25, 3) := by decide +kernel
theorem dX5_candidates_15 : decode cX5_candidates 15 = .ok (.iload_n 1, 1) := by decide +kernel
theorem dX5_candidates_16 : decode cX5_candidates 16 = .ok (.aaload, 1) := by decide +kernel
theorem dX5_candidates_17 : decode cX5_candidates 17 = .ok (.invokevirtual 123, 3) := by decide +kernel
theorem dX5_candidates_20 : decode cX5_candidates 20 = .ok (.ireturn, 1) := by decide +kernel
theorem dX5_mould_0 : decode cX5_mould 0 = .ok (.iload_n 1, 1) := by decide +kernel
theorem dX5_mould_1 : decode cX5_mould 1 = .ok (.iload_n 2, 1) := by decide +kernel
theorem dX5_mould_2 : decode cX5_mould 2 = .ok (.invokestatic 59, 3) := by decide +kernel
theorem dX5_mould_5 : decode cX5_mould 5 = .ok (.ifCond .ne 5, 3) := by decide +kernel
theorem dX5_mould_8 : decode cX5_mould 8 = .ok (.iconst (-1), 1) := by decide +kernel
theorem dX5_mould_9 : decode cX5_mould 9 = .ok (.ireturn, 1) := by decide +kernel
theorem dX5_mould_10 : decode cX5_mould 10 = .ok (.aload_n 0, 1) := by decide +kernel
theorem dX5_mould_11 : decode cX5_mould 11 = .ok (.getfield 39, 3) := by decide +kernel
theorem dX5_mould_14 : decode cX5_mould 14 = .ok (.bipush 8, 2) := by decide +kernel
theorem dX5_mould_16 : decode cX5_mould 16 = .ok (.if_icmp .lt 6, 3) := by decide +kernel
theorem dX5_mould_19 : decode cX5_mould 19 = .ok (.bipush (-3), 2) := by decide +kernel
theorem dX5_mould_21 : decode cX5_mould 21 = .ok (.ireturn, 1) := by decide +kernel
theorem dX5_mould_22 : decode cX5_mould 22 = .ok (.aload_n 0, 1) := by decide +kernel
theorem dX5_mould_23 : decode cX5_mould 23 = .ok (.getfield 35, 3) := by decide +kernel
theorem dX5_mould_26 : decode cX5_mould 26 = .ok (.aload_n 0, 1) := by decide +kernel
theorem dX5_mould_27 : decode cX5_mould 27 = .ok (.getfield 39, 3) := by decide +kernel
theorem dX5_mould_30 : decode cX5_mould 30 = .ok (.aaload, 1) := by decide +kernel
theorem dX5_mould_31 : decode cX5_mould 31 = .ok (.iload_n 1, 1) := by decide +kernel
theorem dX5_mould_32 : decode cX5_mould 32 = .ok (.iload_n 2, 1) := by decide +kernel
theorem dX5_mould_33 : decode cX5_mould 33 = .ok (.invokevirtual 127, 3) := by decide +kernel
theorem dX5_mould_36 : decode cX5_mould 36 = .ok (.aload_n 0, 1) := by decide +kernel
theorem dX5_mould_37 : decode cX5_mould 37 = .ok (.dup, 1) := by decide +kernel
theorem dX5_mould_38 : decode cX5_mould 38 = .ok (.getfield 39, 3) := by decide +kernel
theorem dX5_mould_41 : decode cX5_mould 41 = .ok (.dup_x1, 1) := by decide +kernel
theorem dX5_mould_42 : decode cX5_mould 42 = .ok (.iconst 1, 1) := by decide +kernel
theorem dX5_mould_43 : decode cX5_mould 43 = .ok (.iadd, 1) := by decide +kernel
theorem dX5_mould_44 : decode cX5_mould 44 = .ok (.putfield 39, 3) := by decide +kernel
theorem dX5_mould_47 : decode cX5_mould 47 = .ok (.ireturn, 1) := by decide +kernel
theorem dX5_paper_0 : decode cX5_paper 0 = .ok (.aload_n 0, 1) := by decide +kernel
theorem dX5_paper_1 : decode cX5_paper 1 = .ok (.iload_n 1, 1) := by decide +kernel
theorem dX5_paper_2 : decode cX5_paper 2 = .ok (.invokevirtual 111, 3) := by decide +kernel
theorem dX5_paper_5 : decode cX5_paper 5 = .ok (.ifCond .eq 17, 3) := by decide +kernel
theorem dX5_paper_8 : decode cX5_paper 8 = .ok (.iload_n 2, 1) := by decide +kernel
theorem dX5_paper_9 : decode cX5_paper 9 = .ok (.bipush (-9), 2) := by decide +kernel
theorem dX5_paper_11 : decode cX5_paper 11 = .ok (.if_icmp .eq 14, 3) := by decide +kernel
theorem dX5_paper_14 : decode cX5_paper 14 = .ok (.aload_n 0, 1) := by decide +kernel
theorem dX5_paper_15 : decode cX5_paper 15 = .ok (.iload_n 2, 1) := by decide +kernel
theorem dX5_paper_16 : decode cX5_paper 16 = .ok (.invokevirtual 130, 3) := by decide +kernel
theorem dX5_paper_19 : decode cX5_paper 19 = .ok (.ifCond .ne 6, 3) := by decide +kernel
theorem dX5_paper_22 : decode cX5_paper 22 = .ok (.bipush (-2), 2) := by decide +kernel
theorem dX5_paper_24 : decode cX5_paper 24 = .ok (.ireturn, 1) := by decide +kernel
theorem dX5_paper_25 : decode cX5_paper 25 = .ok (.aload_n 0, 1) := by decide +kernel
theorem dX5_paper_26 : decode cX5_paper 26 = .ok (.getfield 25, 3) := by decide +kernel
theorem dX5_paper_29 : decode cX5_paper 29 = .ok (.iload_n 1, 1) := by decide +kernel
theorem dX5_paper_30 : decode cX5_paper 30 = .ok (.aaload, 1) := by decide +kernel
theorem dX5_paper_31 : decode cX5_paper 31 = .ok (.getfield 133, 3) := by decide +kernel
theorem dX5_paper_34 : decode cX5_paper 34 = .ok (.istore_n 3, 1) := by decide +kernel
theorem dX5_paper_35 : decode cX5_paper 35 = .ok (.aload_n 0, 1) := by decide +kernel
theorem dX5_paper_36 : decode cX5_paper 36 = .ok (.getfield 25, 3) := by decide +kernel
theorem dX5_paper_39 : decode cX5_paper 39 = .ok (.iload_n 1, 1) := by decide +kernel
theorem dX5_paper_40 : decode cX5_paper 40 = .ok (.aaload, 1) := by decide +kernel
theorem dX5_paper_41 : decode cX5_paper 41 = .ok (.iload_n 2, 1) := by decide +kernel
theorem dX5_paper_42 : decode cX5_paper 42 = .ok (.putfield 133, 3) := by decide +kernel
theorem dX5_paper_45 : decode cX5_paper 45 = .ok (.iload_n 3, 1) := by decide +kernel
theorem dX5_paper_46 : decode cX5_paper 46 = .ok (.ireturn, 1) := by decide +kernel
theorem dX5_imprint_0 : decode cX5_imprint 0 = .ok (.aload_n 0, 1) := by decide +kernel
theorem dX5_imprint_1 : decode cX5_imprint 1 = .ok (.iload_n 1, 1) := by decide +kernel
theorem dX5_imprint_2 : decode cX5_imprint 2 = .ok (.invokevirtual 111, 3) := by decide +kernel
theorem dX5_imprint_5 : decode cX5_imprint 5 = .ok (.ifCond .eq 16, 3) := by decide +kernel
theorem dX5_imprint_8 : decode cX5_imprint 8 = .ok (.iload_n 2, 1) := by decide +kernel
theorem dX5_imprint_9 : decode cX5_imprint 9 = .ok (.bipush (-9), 2) := by decide +kernel
theorem dX5_imprint_11 : decode cX5_imprint 11 = .ok (.if_icmp .eq 13, 3) := by decide +kernel
theorem dX5_imprint_14 : decode cX5_imprint 14 = .ok (.iload_n 2, 1) := by decide +kernel
theorem dX5_imprint_15 : decode cX5_imprint 15 = .ok (.invokestatic 136, 3) := by decide +kernel
theorem dX5_imprint_18 : decode cX5_imprint 18 = .ok (.ifCond .ne 6, 3) := by decide +kernel
theorem dX5_imprint_21 : decode cX5_imprint 21 = .ok (.bipush (-2), 2) := by decide +kernel
theorem dX5_imprint_23 : decode cX5_imprint 23 = .ok (.ireturn, 1) := by decide +kernel
theorem dX5_imprint_24 : decode cX5_imprint 24 = .ok (.aload_n 0, 1) := by decide +kernel
theorem dX5_imprint_25 : decode cX5_imprint 25 = .ok (.getfield 25, 3) := by decide +kernel
theorem dX5_imprint_28 : decode cX5_imprint 28 = .ok (.iload_n 1, 1) := by decide +kernel
theorem dX5_imprint_29 : decode cX5_imprint 29 = .ok (.aaload, 1) := by decide +kernel
theorem dX5_imprint_30 : decode cX5_imprint 30 = .ok (.getfield 139, 3) := by decide +kernel
theorem dX5_imprint_33 : decode cX5_imprint 33 = .ok (.istore_n 3, 1) := by decide +kernel
theorem dX5_imprint_34 : decode cX5_imprint 34 = .ok (.aload_n 0, 1) := by decide +kernel
theorem dX5_imprint_35 : decode cX5_imprint 35 = .ok (.getfield 25, 3) := by decide +kernel
theorem dX5_imprint_38 : decode cX5_imprint 38 = .ok (.iload_n 1, 1) := by decide +kernel
theorem dX5_imprint_39 : decode cX5_imprint 39 = .ok (.aaload, 1) := by decide +kernel
theorem dX5_imprint_40 : decode cX5_imprint 40 = .ok (.iload_n 2, 1) := by decide +kernel
theorem dX5_imprint_41 : decode cX5_imprint 41 = .ok (.putfield 139, 3) := by decide +kernel
theorem dX5_imprint_44 : decode cX5_imprint 44 = .ok (.iload_n 3, 1) := by decide +kernel
theorem dX5_imprint_45 : decode cX5_imprint 45 = .ok (.ireturn, 1) := by decide +kernel
theorem dX5_span_0 : decode cX5_span 0 = .ok (.aload_n 0, 1) := by decide +kernel
theorem dX5_span_1 : decode cX5_span 1 = .ok (.iload_n 1, 1) := by decide +kernel
theorem dX5_span_2 : decode cX5_span 2 = .ok (.invokevirtual 111, 3) := by decide +kernel
theorem dX5_span_5 : decode cX5_span 5 = .ok (.ifCond .eq 10, 3) := by decide +kernel
theorem dX5_span_8 : decode cX5_span 8 = .ok (.iload_n 2, 1) := by decide +kernel
theorem dX5_span_9 : decode cX5_span 9 = .ok (.invokestatic 97, 3) := by decide +kernel
theorem dX5_span_12 : decode cX5_span 12 = .ok (.ifCond .ne 5, 3) := by decide +kernel
theorem dX5_span_15 : decode cX5_span 15 = .ok (.iconst (-1), 1) := by decide +kernel
theorem dX5_span_16 : decode cX5_span 16 = .ok (.ireturn, 1) := by decide +kernel
theorem dX5_span_17 : decode cX5_span 17 = .ok (.aload_n 0, 1) := by decide +kernel
theorem dX5_span_18 : decode cX5_span 18 = .ok (.getfield 25, 3) := by decide +kernel
theorem dX5_span_21 : decode cX5_span 21 = .ok (.iload_n 1, 1) := by decide +kernel
theorem dX5_span_22 : decode cX5_span 22 = .ok (.aaload, 1) := by decide +kernel
theorem dX5_span_23 : decode cX5_span 23 = .ok (.astore_n 3, 1) := by decide +kernel
theorem dX5_span_24 : decode cX5_span 24 = .ok (.aload_n 0, 1) := by decide +kernel
theorem dX5_span_25 : decode cX5_span 25 = .ok (.aload_n 3, 1) := by decide +kernel
theorem dX5_span_26 : decode cX5_span 26 = .ok (.invokevirtual 142, 3) := by decide +kernel
theorem dX5_span_29 : decode cX5_span 29 = .ok (.istore 4, 2) := by decide +kernel
theorem dX5_span_31 : decode cX5_span 31 = .ok (.aload_n 0, 1) := by decide +kernel
theorem dX5_span_32 : decode cX5_span 32 = .ok (.aload_n 3, 1) := by decide +kernel
theorem dX5_span_33 : decode cX5_span 33 = .ok (.invokevirtual 145, 3) := by decide +kernel
theorem dX5_span_36 : decode cX5_span 36 = .ok (.istore 5, 2) := by decide +kernel
theorem dX5_span_38 : decode cX5_span 38 = .ok (.aload_n 0, 1) := by decide +kernel
theorem dX5_span_39 : decode cX5_span 39 = .ok (.aload_n 3, 1) := by decide +kernel
theorem dX5_span_40 : decode cX5_span 40 = .ok (.invokevirtual 123, 3) := by decide +kernel
theorem dX5_span_43 : decode cX5_span 43 = .ok (.istore 6, 2) := by decide +kernel
theorem dX5_span_45 : decode cX5_span 45 = .ok (.bipush (-9), 2) := by decide +kernel
theorem dX5_span_47 : decode cX5_span 47 = .ok (.istore 7, 2) := by decide +kernel
theorem dX5_span_49 : decode cX5_span 49 = .ok (.bipush (-9), 2) := by decide +kernel
theorem dX5_span_51 : decode cX5_span 51 = .ok (.istore 8, 2) := by decide +kernel
theorem dX5_span_53 : decode cX5_span 53 = .ok (.iconst 0, 1) := by decide +kernel
theorem dX5_span_54 : decode cX5_span 54 = .ok (.istore 9, 2) := by decide +kernel
theorem dX5_span_56 : decode cX5_span 56 = .ok (.iload 9, 2) := by decide +kernel
theorem dX5_span_58 : decode cX5_span 58 = .ok (.aload_n 0, 1) := by decide +kernel
theorem dX5_span_59 : decode cX5_span 59 = .ok (.getfield 10, 3) := by decide +kernel
theorem dX5_span_62 : decode cX5_span 62 = .ok (.getfield 100, 3) := by decide +kernel
theorem dX5_span_65 : decode cX5_span 65 = .ok (.if_icmp .ge 108, 3) := by decide +kernel
theorem dX5_span_68 : decode cX5_span 68 = .ok (.iload 4, 2) := by decide +kernel
theorem dX5_span_70 : decode cX5_span 70 = .ok (.aload_n 0, 1) := by decide +kernel
theorem dX5_span_71 : decode cX5_span 71 = .ok (.getfield 10, 3) := by decide +kernel
theorem dX5_span_74 : decode cX5_span 74 = .ok (.getfield 74, 3) := by decide +kernel
theorem dX5_span_77 : decode cX5_span 77 = .ok (.iload 9, 2) := by decide +kernel
theorem dX5_span_79 : decode cX5_span 79 = .ok (.aaload, 1) := by decide +kernel
theorem dX5_span_80 : decode cX5_span 80 = .ok (.getfield 77, 3) := by decide +kernel
theorem dX5_span_83 : decode cX5_span 83 = .ok (.invokestatic 148, 3) := by decide +kernel
theorem dX5_span_86 : decode cX5_span 86 = .ok (.istore 10, 2) := by decide +kernel
theorem dX5_span_88 : decode cX5_span 88 = .ok (.iload 5, 2) := by decide +kernel
theorem dX5_span_90 : decode cX5_span 90 = .ok (.aload_n 0, 1) := by decide +kernel
theorem dX5_span_91 : decode cX5_span 91 = .ok (.getfield 10, 3) := by decide +kernel
theorem dX5_span_94 : decode cX5_span 94 = .ok (.getfield 74, 3) := by decide +kernel
theorem dX5_span_97 : decode cX5_span 97 = .ok (.iload 9, 2) := by decide +kernel
theorem dX5_span_99 : decode cX5_span 99 = .ok (.aaload, 1) := by decide +kernel
theorem dX5_span_100 : decode cX5_span 100 = .ok (.getfield 80, 3) := by decide +kernel
theorem dX5_span_103 : decode cX5_span 103 = .ok (.invokestatic 154, 3) := by decide +kernel
theorem dX5_span_106 : decode cX5_span 106 = .ok (.istore 11, 2) := by decide +kernel
theorem dX5_span_108 : decode cX5_span 108 = .ok (.iload 6, 2) := by decide +kernel
theorem dX5_span_110 : decode cX5_span 110 = .ok (.iload 9, 2) := by decide +kernel
theorem dX5_span_112 : decode cX5_span 112 = .ok (.invokestatic 157, 3) := by decide +kernel
theorem dX5_span_115 : decode cX5_span 115 = .ok (.ifCond .eq 52, 3) := by decide +kernel
theorem dX5_span_118 : decode cX5_span 118 = .ok (.iload 10, 2) := by decide +kernel
theorem dX5_span_120 : decode cX5_span 120 = .ok (.iload 11, 2) := by decide +kernel
theorem dX5_span_122 : decode cX5_span 122 = .ok (.if_icmp .gt 45, 3) := by decide +kernel
theorem dX5_span_125 : decode cX5_span 125 = .ok (.iload 7, 2) := by decide +kernel
theorem dX5_span_127 : decode cX5_span 127 = .ok (.bipush (-9), 2) := by decide +kernel
theorem dX5_span_129 : decode cX5_span 129 = .ok (.if_icmp .ne 8, 3) := by decide +kernel
theorem dX5_span_132 : decode cX5_span 132 = .ok (.iload 10, 2) := by decide +kernel
theorem dX5_span_134 : decode cX5_span 134 = .ok (.goto 10, 3) := by decide +kernel
theorem dX5_span_137 : decode cX5_span 137 = .ok (.iload 7, 2) := by decide +kernel
theorem dX5_span_139 : decode cX5_span 139 = .ok (.iload 10, 2) := by decide +kernel
theorem dX5_span_141 : decode cX5_span 141 = .ok (.invokestatic 154, 3) := by decide +kernel
theorem dX5_span_144 : decode cX5_span 144 = .ok (.istore 7, 2) := by decide +kernel
theorem dX5_span_146 : decode cX5_span 146 = .ok (.iload 8, 2) := by decide +kernel
theorem dX5_span_148 : decode cX5_span 148 = .ok (.bipush (-9), 2) := by decide +kernel
theorem dX5_span_150 : decode cX5_span 150 = .ok (.if_icmp .ne 8, 3) := by decide +kernel
theorem dX5_span_153 : decode cX5_span 153 = .ok (.iload 11, 2) := by decide +kernel
theorem dX5_span_155 : decode cX5_span 155 = .ok (.goto 10, 3) := by decide +kernel
theorem dX5_span_158 : decode cX5_span 158 = .ok (.iload 8, 2) := by decide +kernel
theorem dX5_span_160 : decode cX5_span 160 = .ok (.iload 11, 2) := by decide +kernel
theorem dX5_span_162 : decode cX5_span 162 = .ok (.invokestatic 148, 3) := by decide +kernel
theorem dX5_span_165 : decode cX5_span 165 = .ok (.istore 8, 2) := by decide +kernel
theorem dX5_span_167 : decode cX5_span 167 = .ok (.iinc 9 1, 3) := by decide +kernel
theorem dX5_span_170 : decode cX5_span 170 = .ok (.goto (-114), 3) := by decide +kernel
theorem dX5_span_173 : decode cX5_span 173 = .ok (.iload_n 2, 1) := by decide +kernel
theorem dX5_span_174 : decode cX5_span 174 = .ok (.ifCond .ne 8, 3) := by decide +kernel
theorem dX5_span_177 : decode cX5_span 177 = .ok (.iload 7, 2) := by decide +kernel
theorem dX5_span_179 : decode cX5_span 179 = .ok (.goto 5, 3) := by decide +kernel
theorem dX5_span_182 : decode cX5_span 182 = .ok (.iload 8, 2) := by decide +kernel
theorem dX5_span_184 : decode cX5_span 184 = .ok (.ireturn, 1) := by decide +kernel
theorem dX5_price_0 : decode cX5_price 0 = .ok (.aload_n 0, 1) := by decide +kernel
theorem dX5_price_1 : decode cX5_price 1 = .ok (.iload_n 2, 1) := by decide +kernel
theorem dX5_price_2 : decode cX5_price 2 = .ok (.invokevirtual 111, 3) := by decide +kernel
theorem dX5_price_5 : decode cX5_price 5 = .ok (.ifCond .ne 5, 3) := by decide +kernel
theorem dX5_price_8 : decode cX5_price 8 = .ok (.iconst (-1), 1) := by decide +kernel
theorem dX5_price_9 : decode cX5_price 9 = .ok (.ireturn, 1) := by decide +kernel
theorem dX5_price_10 : decode cX5_price 10 = .ok (.iload_n 1, 1) := by decide +kernel
theorem dX5_price_11 : decode cX5_price 11 = .ok (.tableswitch 58 0 2 #[25, 36, 47], 25) := by decide +kernel
theorem dX5_price_36 : decode cX5_price 36 = .ok (.aload_n 0, 1) := by decide +kernel
theorem dX5_price_37 : decode cX5_price 37 = .ok (.aload_n 0, 1) := by decide +kernel
theorem dX5_price_38 : decode cX5_price 38 = .ok (.getfield 25, 3) := by decide +kernel
theorem dX5_price_41 : decode cX5_price 41 = .ok (.iload_n 2, 1) := by decide +kernel
theorem dX5_price_42 : decode cX5_price 42 = .ok (.aaload, 1) := by decide +kernel
theorem dX5_price_43 : decode cX5_price 43 = .ok (.invokevirtual 160, 3) := by decide +kernel
theorem dX5_price_46 : decode cX5_price 46 = .ok (.ireturn, 1) := by decide +kernel
theorem dX5_price_47 : decode cX5_price 47 = .ok (.aload_n 0, 1) := by decide +kernel
theorem dX5_price_48 : decode cX5_price 48 = .ok (.aload_n 0, 1) := by decide +kernel
theorem dX5_price_49 : decode cX5_price 49 = .ok (.getfield 25, 3) := by decide +kernel
theorem dX5_price_52 : decode cX5_price 52 = .ok (.iload_n 2, 1) := by decide +kernel
theorem dX5_price_53 : decode cX5_price 53 = .ok (.aaload, 1) := by decide +kernel
theorem dX5_price_54 : decode cX5_price 54 = .ok (.invokevirtual 163, 3) := by decide +kernel
theorem dX5_price_57 : decode cX5_price 57 = .ok (.ireturn, 1) := by decide +kernel
theorem dX5_price_58 : decode cX5_price 58 = .ok (.aload_n 0, 1) := by decide +kernel
theorem dX5_price_59 : decode cX5_price 59 = .ok (.aload_n 0, 1) := by decide +kernel
theorem dX5_price_60 : decode cX5_price 60 = .ok (.getfield 25, 3) := by decide +kernel
theorem dX5_price_63 : decode cX5_price 63 = .ok (.iload_n 2, 1) := by decide +kernel
theorem dX5_price_64 : decode cX5_price 64 = .ok (.aaload, 1) := by decide +kernel
theorem dX5_price_65 : decode cX5_price 65 = .ok (.invokevirtual 166, 3) := by decide +kernel
theorem dX5_price_68 : decode cX5_price 68 = .ok (.ireturn, 1) := by decide +kernel
theorem dX5_price_69 : decode cX5_price 69 = .ok (.iconst (-1), 1) := by decide +kernel
theorem dX5_price_70 : decode cX5_price 70 = .ok (.ireturn, 1) := by decide +kernel
theorem dX5_map_0 : decode cX5_map 0 = .ok (.iload_n 1, 1) := by decide +kernel
theorem dX5_map_1 : decode cX5_map 1 = .ok (.invokestatic 136, 3) := by decide +kernel
theorem dX5_map_4 : decode cX5_map 4 = .ok (.ifCond .eq 10, 3) := by decide +kernel
theorem dX5_map_7 : decode cX5_map 7 = .ok (.iload_n 2, 1) := by decide +kernel
theorem dX5_map_8 : decode cX5_map 8 = .ok (.invokestatic 55, 3) := by decide +kernel
theorem dX5_map_11 : decode cX5_map 11 = .ok (.ifCond .ne 5, 3) := by decide +kernel
theorem dX5_map_14 : decode cX5_map 14 = .ok (.iconst (-1), 1) := by decide +kernel
theorem dX5_map_15 : decode cX5_map 15 = .ok (.ireturn, 1) := by decide +kernel
theorem dX5_map_16 : decode cX5_map 16 = .ok (.aload_n 0, 1) := by decide +kernel
theorem dX5_map_17 : decode cX5_map 17 = .ok (.getfield 19, 3) := by decide +kernel
theorem dX5_map_20 : decode cX5_map 20 = .ok (.iload_n 1, 1) := by decide +kernel
theorem dX5_map_21 : decode cX5_map 21 = .ok (.iload_n 2, 1) := by decide +kernel
theorem dX5_map_22 : decode cX5_map 22 = .ok (.invokevirtual 169, 3) := by decide +kernel
theorem dX5_map_25 : decode cX5_map 25 = .ok (.ireturn, 1) := by decide +kernel
theorem dX5_cost_0 : decode cX5_cost 0 = .ok (.aload_n 0, 1) := by decide +kernel
theorem dX5_cost_1 : decode cX5_cost 1 = .ok (.getfield 19, 3) := by decide +kernel
theorem dX5_cost_4 : decode cX5_cost 4 = .ok (.iload_n 1, 1) := by decide +kernel
theorem dX5_cost_5 : decode cX5_cost 5 = .ok (.iload_n 2, 1) := by decide +kernel
theorem dX5_cost_6 : decode cX5_cost 6 = .ok (.invokevirtual 172, 3) := by decide +kernel
theorem dX5_cost_9 : decode cX5_cost 9 = .ok (.ifCond .ne 5, 3) := by decide +kernel
theorem dX5_cost_12 : decode cX5_cost 12 = .ok (.iconst (-1), 1) := by decide +kernel
theorem dX5_cost_13 : decode cX5_cost 13 = .ok (.ireturn, 1) := by decide +kernel
theorem dX5_cost_14 : decode cX5_cost 14 = .ok (.aload_n 0, 1) := by decide +kernel
theorem dX5_cost_15 : decode cX5_cost 15 = .ok (.getfield 19, 3) := by decide +kernel
theorem dX5_cost_18 : decode cX5_cost 18 = .ok (.iload_n 1, 1) := by decide +kernel
theorem dX5_cost_19 : decode cX5_cost 19 = .ok (.iload_n 2, 1) := by decide +kernel
theorem dX5_cost_20 : decode cX5_cost 20 = .ok (.invokevirtual 175, 3) := by decide +kernel
theorem dX5_cost_23 : decode cX5_cost 23 = .ok (.ireturn, 1) := by decide +kernel
theorem dX5_from_0 : decode cX5_from 0 = .ok (.aload_n 0, 1) := by decide +kernel
theorem dX5_from_1 : decode cX5_from 1 = .ok (.getfield 19, 3) := by decide +kernel
theorem dX5_from_4 : decode cX5_from 4 = .ok (.iload_n 1, 1) := by decide +kernel
theorem dX5_from_5 : decode cX5_from 5 = .ok (.invokevirtual 178, 3) := by decide +kernel
theorem dX5_from_8 : decode cX5_from 8 = .ok (.ifCond .ne 6, 3) := by decide +kernel
theorem dX5_from_11 : decode cX5_from 11 = .ok (.bipush (-2), 2) := by decide +kernel
theorem dX5_from_13 : decode cX5_from 13 = .ok (.ireturn, 1) := by decide +kernel
theorem dX5_from_14 : decode cX5_from 14 = .ok (.aload_n 0, 1) := by decide +kernel
theorem dX5_from_15 : decode cX5_from 15 = .ok (.getfield 19, 3) := by decide +kernel
theorem dX5_from_18 : decode cX5_from 18 = .ok (.iload_n 1, 1) := by decide +kernel
theorem dX5_from_19 : decode cX5_from 19 = .ok (.invokevirtual 181, 3) := by decide +kernel
theorem dX5_from_22 : decode cX5_from 22 = .ok (.ireturn, 1) := by decide +kernel
theorem dX5_rivals_0 : decode cX5_rivals 0 = .ok (.aload_n 0, 1) := by decide +kernel
theorem dX5_rivals_1 : decode cX5_rivals 1 = .ok (.getfield 19, 3) := by decide +kernel
theorem dX5_rivals_4 : decode cX5_rivals 4 = .ok (.iload_n 1, 1) := by decide +kernel
theorem dX5_rivals_5 : decode cX5_rivals 5 = .ok (.invokevirtual 178, 3) := by decide +kernel
theorem dX5_rivals_8 : decode cX5_rivals 8 = .ok (.ifCond .ne 5, 3) := by decide +kernel
theorem dX5_rivals_11 : decode cX5_rivals 11 = .ok (.iconst (-1), 1) := by decide +kernel
theorem dX5_rivals_12 : decode cX5_rivals 12 = .ok (.ireturn, 1) := by decide +kernel
theorem dX5_rivals_13 : decode cX5_rivals 13 = .ok (.aload_n 0, 1) := by decide +kernel
theorem dX5_rivals_14 : decode cX5_rivals 14 = .ok (.getfield 19, 3) := by decide +kernel
theorem dX5_rivals_17 : decode cX5_rivals 17 = .ok (.iload_n 1, 1) := by decide +kernel
theorem dX5_rivals_18 : decode cX5_rivals 18 = .ok (.invokevirtual 184, 3) := by decide +kernel
theorem dX5_rivals_21 : decode cX5_rivals 21 = .ok (.ireturn, 1) := by decide +kernel
theorem dX5_life_0 : decode cX5_life 0 = .ok (.iload_n 2, 1) := by decide +kernel
theorem dX5_life_1 : decode cX5_life 1 = .ok (.invokestatic 114, 3) := by decide +kernel
theorem dX5_life_4 : decode cX5_life 4 = .ok (.ifCond .eq 30, 3) := by decide +kernel
theorem dX5_life_7 : decode cX5_life 7 = .ok (.aload_n 0, 1) := by decide +kernel
theorem dX5_life_8 : decode cX5_life 8 = .ok (.getfield 19, 3) := by decide +kernel
theorem dX5_life_11 : decode cX5_life 11 = .ok (.iload_n 1, 1) := by decide +kernel
theorem dX5_life_12 : decode cX5_life 12 = .ok (.invokevirtual 178, 3) := by decide +kernel
theorem dX5_life_15 : decode cX5_life 15 = .ok (.ifCond .eq 19, 3) := by decide +kernel
theorem dX5_life_18 : decode cX5_life 18 = .ok (.aload_n 0, 1) := by decide +kernel
theorem dX5_life_19 : decode cX5_life 19 = .ok (.getfield 19, 3) := by decide +kernel
theorem dX5_life_22 : decode cX5_life 22 = .ok (.getfield 187, 3) := by decide +kernel
theorem dX5_life_25 : decode cX5_life 25 = .ok (.iload_n 1, 1) := by decide +kernel
theorem dX5_life_26 : decode cX5_life 26 = .ok (.iaload, 1) := by decide +kernel
theorem dX5_life_27 : decode cX5_life 27 = .ok (.iload_n 2, 1) := by decide +kernel
theorem dX5_life_28 : decode cX5_life 28 = .ok (.invokestatic 157, 3) := by decide +kernel
theorem dX5_life_31 : decode cX5_life 31 = .ok (.ifCond .ne 5, 3) := by decide +kernel
theorem dX5_life_34 : decode cX5_life 34 = .ok (.iconst (-1), 1) := by decide +kernel
theorem dX5_life_35 : decode cX5_life 35 = .ok (.ireturn, 1) := by decide +kernel
theorem dX5_life_36 : decode cX5_life 36 = .ok (.aload_n 0, 1) := by decide +kernel
theorem dX5_life_37 : decode cX5_life 37 = .ok (.getfield 19, 3) := by decide +kernel
theorem dX5_life_40 : decode cX5_life 40 = .ok (.iload_n 1, 1) := by decide +kernel
theorem dX5_life_41 : decode cX5_life 41 = .ok (.iload_n 2, 1) := by decide +kernel
theorem dX5_life_42 : decode cX5_life 42 = .ok (.invokevirtual 190, 3) := by decide +kernel
theorem dX5_life_45 : decode cX5_life 45 = .ok (.ireturn, 1) := by decide +kernel
theorem dX5_hole_0 : decode cX5_hole 0 = .ok (.iload_n 3, 1) := by decide +kernel
theorem dX5_hole_1 : decode cX5_hole 1 = .ok (.invokestatic 193, 3) := by decide +kernel
theorem dX5_hole_4 : decode cX5_hole 4 = .ok (.ifCond .ne 5, 3) := by decide +kernel
theorem dX5_hole_7 : decode cX5_hole 7 = .ok (.iconst (-1), 1) := by decide +kernel
theorem dX5_hole_8 : decode cX5_hole 8 = .ok (.ireturn, 1) := by decide +kernel
theorem dX5_hole_9 : decode cX5_hole 9 = .ok (.iload_n 1, 1) := by decide +kernel
theorem dX5_hole_10 : decode cX5_hole 10 = .ok (.ifCond .ne 25, 3) := by decide +kernel
theorem dX5_hole_13 : decode cX5_hole 13 = .ok (.aload_n 0, 1) := by decide +kernel
theorem dX5_hole_14 : decode cX5_hole 14 = .ok (.iload_n 2, 1) := by decide +kernel
theorem dX5_hole_15 : decode cX5_hole 15 = .ok (.invokevirtual 111, 3) := by decide +kernel
theorem dX5_hole_18 : decode cX5_hole 18 = .ok (.ifCond .eq 17, 3) := by decide +kernel
theorem dX5_hole_21 : decode cX5_hole 21 = .ok (.aload_n 0, 1) := by decide +kernel
theorem dX5_hole_22 : decode cX5_hole 22 = .ok (.getfield 25, 3) := by decide +kernel
theorem dX5_hole_25 : decode cX5_hole 25 = .ok (.iload_n 2, 1) := by decide +kernel
theorem dX5_hole_26 : decode cX5_hole 26 = .ok (.aaload, 1) := by decide +kernel
theorem dX5_hole_27 : decode cX5_hole 27 = .ok (.getfield 196, 3) := by decide +kernel
theorem dX5_hole_30 : decode cX5_hole 30 = .ok (.iload_n 3, 1) := by decide +kernel
theorem dX5_hole_31 : decode cX5_hole 31 = .ok (.invokevirtual 200, 3) := by decide +kernel
theorem dX5_hole_34 : decode cX5_hole 34 = .ok (.ireturn, 1) := by decide +kernel
theorem dX5_hole_35 : decode cX5_hole 35 = .ok (.iload_n 1, 1) := by decide +kernel
theorem dX5_hole_36 : decode cX5_hole 36 = .ok (.iconst 1, 1) := by decide +kernel
theorem dX5_hole_37 : decode cX5_hole 37 = .ok (.if_icmp .ne 21, 3) := by decide +kernel
theorem dX5_hole_40 : decode cX5_hole 40 = .ok (.iload_n 2, 1) := by decide +kernel
theorem dX5_hole_41 : decode cX5_hole 41 = .ok (.invokestatic 203, 3) := by decide +kernel
theorem dX5_hole_44 : decode cX5_hole 44 = .ok (.ifCond .eq 14, 3) := by decide +kernel
theorem dX5_hole_47 : decode cX5_hole 47 = .ok (.aload_n 0, 1) := by decide +kernel
theorem dX5_hole_48 : decode cX5_hole 48 = .ok (.getfield 44, 3) := by decide +kernel
theorem dX5_hole_51 : decode cX5_hole 51 = .ok (.iload_n 2, 1) := by decide +kernel
theorem dX5_hole_52 : decode cX5_hole 52 = .ok (.aaload, 1) := by decide +kernel
theorem dX5_hole_53 : decode cX5_hole 53 = .ok (.iload_n 3, 1) := by decide +kernel
theorem dX5_hole_54 : decode cX5_hole 54 = .ok (.invokevirtual 200, 3) := by decide +kernel
theorem dX5_hole_57 : decode cX5_hole 57 = .ok (.ireturn, 1) := by decide +kernel
theorem dX5_hole_58 : decode cX5_hole 58 = .ok (.iconst (-1), 1) := by decide +kernel
theorem dX5_hole_59 : decode cX5_hole 59 = .ok (.ireturn, 1) := by decide +kernel
theorem dX5_fits_0 : decode cX5_fits 0 = .ok (.aload_n 0, 1) := by decide +kernel
theorem dX5_fits_1 : decode cX5_fits 1 = .ok (.iload_n 1, 1) := by decide +kernel
theorem dX5_fits_2 : decode cX5_fits 2 = .ok (.invokevirtual 111, 3) := by decide +kernel
theorem dX5_fits_5 : decode cX5_fits 5 = .ok (.ifCond .eq 17, 3) := by decide +kernel
theorem dX5_fits_8 : decode cX5_fits 8 = .ok (.iload_n 2, 1) := by decide +kernel
theorem dX5_fits_9 : decode cX5_fits 9 = .ok (.invokestatic 203, 3) := by decide +kernel
theorem dX5_fits_12 : decode cX5_fits 12 = .ok (.ifCond .eq 10, 3) := by decide +kernel
theorem dX5_fits_15 : decode cX5_fits 15 = .ok (.iload_n 3, 1) := by decide +kernel
theorem dX5_fits_16 : decode cX5_fits 16 = .ok (.invokestatic 206, 3) := by decide +kernel
theorem dX5_fits_19 : decode cX5_fits 19 = .ok (.ifCond .ne 5, 3) := by decide +kernel
theorem dX5_fits_22 : decode cX5_fits 22 = .ok (.iconst (-1), 1) := by decide +kernel
theorem dX5_fits_23 : decode cX5_fits 23 = .ok (.ireturn, 1) := by decide +kernel
theorem dX5_fits_24 : decode cX5_fits 24 = .ok (.aload_n 0, 1) := by decide +kernel
theorem dX5_fits_25 : decode cX5_fits 25 = .ok (.getfield 25, 3) := by decide +kernel
theorem dX5_fits_28 : decode cX5_fits 28 = .ok (.iload_n 1, 1) := by decide +kernel
theorem dX5_fits_29 : decode cX5_fits 29 = .ok (.aaload, 1) := by decide +kernel
theorem dX5_fits_30 : decode cX5_fits 30 = .ok (.getfield 196, 3) := by decide +kernel
theorem dX5_fits_33 : decode cX5_fits 33 = .ok (.aload_n 0, 1) := by decide +kernel
theorem dX5_fits_34 : decode cX5_fits 34 = .ok (.getfield 44, 3) := by decide +kernel
theorem dX5_fits_37 : decode cX5_fits 37 = .ok (.iload_n 2, 1) := by decide +kernel
theorem dX5_fits_38 : decode cX5_fits 38 = .ok (.aaload, 1) := by decide +kernel
theorem dX5_fits_39 : decode cX5_fits 39 = .ok (.iload_n 3, 1) := by decide +kernel
theorem dX5_fits_40 : decode cX5_fits 40 = .ok (.invokevirtual 209, 3) := by decide +kernel
theorem dX5_fits_43 : decode cX5_fits 43 = .ok (.ireturn, 1) := by decide +kernel
theorem dX5_shift_0 : decode cX5_shift 0 = .ok (.aload_n 0, 1) := by decide +kernel
theorem dX5_shift_1 : decode cX5_shift 1 = .ok (.iload_n 1, 1) := by decide +kernel
theorem dX5_shift_2 : decode cX5_shift 2 = .ok (.invokevirtual 111, 3) := by decide +kernel
theorem dX5_shift_5 : decode cX5_shift 5 = .ok (.ifCond .eq 17, 3) := by decide +kernel
theorem dX5_shift_8 : decode cX5_shift 8 = .ok (.iload_n 2, 1) := by decide +kernel
theorem dX5_shift_9 : decode cX5_shift 9 = .ok (.invokestatic 203, 3) := by decide +kernel
theorem dX5_shift_12 : decode cX5_shift 12 = .ok (.ifCond .eq 10, 3) := by decide +kernel
theorem dX5_shift_15 : decode cX5_shift 15 = .ok (.iload_n 3, 1) := by decide +kernel
theorem dX5_shift_16 : decode cX5_shift 16 = .ok (.invokestatic 97, 3) := by decide +kernel
theorem dX5_shift_19 : decode cX5_shift 19 = .ok (.ifCond .ne 6, 3) := by decide +kernel
theorem dX5_shift_22 : decode cX5_shift 22 = .ok (.bipush (-100), 2) := by decide +kernel
theorem dX5_shift_24 : decode cX5_shift 24 = .ok (.ireturn, 1) := by decide +kernel
theorem dX5_shift_25 : decode cX5_shift 25 = .ok (.aload_n 0, 1) := by decide +kernel
theorem dX5_shift_26 : decode cX5_shift 26 = .ok (.getfield 25, 3) := by decide +kernel
theorem dX5_shift_29 : decode cX5_shift 29 = .ok (.iload_n 1, 1) := by decide +kernel
theorem dX5_shift_30 : decode cX5_shift 30 = .ok (.aaload, 1) := by decide +kernel
theorem dX5_shift_31 : decode cX5_shift 31 = .ok (.getfield 196, 3) := by decide +kernel
theorem dX5_shift_34 : decode cX5_shift 34 = .ok (.astore 4, 2) := by decide +kernel
theorem dX5_shift_36 : decode cX5_shift 36 = .ok (.aload 4, 2) := by decide +kernel
theorem dX5_shift_38 : decode cX5_shift 38 = .ok (.aload_n 0, 1) := by decide +kernel
theorem dX5_shift_39 : decode cX5_shift 39 = .ok (.getfield 44, 3) := by decide +kernel
theorem dX5_shift_42 : decode cX5_shift 42 = .ok (.iload_n 2, 1) := by decide +kernel
theorem dX5_shift_43 : decode cX5_shift 43 = .ok (.aaload, 1) := by decide +kernel
theorem dX5_shift_44 : decode cX5_shift 44 = .ok (.invokevirtual 213, 3) := by decide +kernel
theorem dX5_shift_47 : decode cX5_shift 47 = .ok (.istore 5, 2) := by decide +kernel
theorem dX5_shift_49 : decode cX5_shift 49 = .ok (.iload_n 3, 1) := by decide +kernel
theorem dX5_shift_50 : decode cX5_shift 50 = .ok (.ifCond .ne 8, 3) := by decide +kernel
theorem dX5_shift_53 : decode cX5_shift 53 = .ok (.iload 5, 2) := by decide +kernel
theorem dX5_shift_55 : decode cX5_shift 55 = .ok (.goto 16, 3) := by decide +kernel
theorem dX5_shift_58 : decode cX5_shift 58 = .ok (.aload 4, 2) := by decide +kernel
theorem dX5_shift_60 : decode cX5_shift 60 = .ok (.aload_n 0, 1) := by decide +kernel
theorem dX5_shift_61 : decode cX5_shift 61 = .ok (.getfield 44, 3) := by decide +kernel
theorem dX5_shift_64 : decode cX5_shift 64 = .ok (.iload_n 2, 1) := by decide +kernel
theorem dX5_shift_65 : decode cX5_shift 65 = .ok (.aaload, 1) := by decide +kernel
theorem dX5_shift_66 : decode cX5_shift 66 = .ok (.iload 5, 2) := by decide +kernel
theorem dX5_shift_68 : decode cX5_shift 68 = .ok (.invokevirtual 209, 3) := by decide +kernel
theorem dX5_shift_71 : decode cX5_shift 71 = .ok (.ireturn, 1) := by decide +kernel
theorem dX5_home_0 : decode cX5_home 0 = .ok (.aload_n 0, 1) := by decide +kernel
theorem dX5_home_1 : decode cX5_home 1 = .ok (.iload_n 1, 1) := by decide +kernel
theorem dX5_home_2 : decode cX5_home 2 = .ok (.invokevirtual 111, 3) := by decide +kernel
theorem dX5_home_5 : decode cX5_home 5 = .ok (.ifCond .eq 10, 3) := by decide +kernel
theorem dX5_home_8 : decode cX5_home 8 = .ok (.iload_n 2, 1) := by decide +kernel
theorem dX5_home_9 : decode cX5_home 9 = .ok (.invokestatic 97, 3) := by decide +kernel
theorem dX5_home_12 : decode cX5_home 12 = .ok (.ifCond .ne 5, 3) := by decide +kernel
theorem dX5_home_15 : decode cX5_home 15 = .ok (.iconst (-1), 1) := by decide +kernel
theorem dX5_home_16 : decode cX5_home 16 = .ok (.ireturn, 1) := by decide +kernel
theorem dX5_home_17 : decode cX5_home 17 = .ok (.aload_n 0, 1) := by decide +kernel
theorem dX5_home_18 : decode cX5_home 18 = .ok (.iload_n 1, 1) := by decide +kernel
theorem dX5_home_19 : decode cX5_home 19 = .ok (.invokevirtual 217, 3) := by decide +kernel
theorem dX5_home_22 : decode cX5_home 22 = .ok (.istore_n 3, 1) := by decide +kernel
theorem dX5_home_23 : decode cX5_home 23 = .ok (.iload_n 2, 1) := by decide +kernel
theorem dX5_home_24 : decode cX5_home 24 = .ok (.ifCond .eq 10, 3) := by decide +kernel
theorem dX5_home_27 : decode cX5_home 27 = .ok (.iload_n 3, 1) := by decide +kernel
theorem dX5_home_28 : decode cX5_home 28 = .ok (.invokestatic 203, 3) := by decide +kernel
theorem dX5_home_31 : decode cX5_home 31 = .ok (.ifCond .ne 5, 3) := by decide +kernel
theorem dX5_home_34 : decode cX5_home 34 = .ok (.iload_n 3, 1) := by decide +kernel
theorem dX5_home_35 : decode cX5_home 35 = .ok (.ireturn, 1) := by decide +kernel
theorem dX5_home_36 : decode cX5_home 36 = .ok (.aload_n 0, 1) := by decide +kernel
theorem dX5_home_37 : decode cX5_home 37 = .ok (.iload_n 1, 1) := by decide +kernel
theorem dX5_home_38 : decode cX5_home 38 = .ok (.iload_n 3, 1) := by decide +kernel
theorem dX5_home_39 : decode cX5_home 39 = .ok (.invokevirtual 220, 3) := by decide +kernel
theorem dX5_home_42 : decode cX5_home 42 = .ok (.ireturn, 1) := by decide +kernel
theorem dX5_count_0 : decode cX5_count 0 = .ok (.iload_n 1, 1) := by decide +kernel
theorem dX5_count_1 : decode cX5_count 1 = .ok (.tableswitch 77 0 5 #[39, 47, 52, 57, 65, 71], 39) := by decide +kernel
theorem dX5_count_40 : decode cX5_count 40 = .ok (.aload_n 0, 1) := by decide +kernel
theorem dX5_count_41 : decode cX5_count 41 = .ok (.getfield 10, 3) := by decide +kernel
theorem dX5_count_44 : decode cX5_count 44 = .ok (.getfield 100, 3) := by decide +kernel
theorem dX5_count_47 : decode cX5_count 47 = .ok (.ireturn, 1) := by decide +kernel
theorem dX5_count_48 : decode cX5_count 48 = .ok (.aload_n 0, 1) := by decide +kernel
theorem dX5_count_49 : decode cX5_count 49 = .ok (.getfield 29, 3) := by decide +kernel
theorem dX5_count_52 : decode cX5_count 52 = .ok (.ireturn, 1) := by decide +kernel
theorem dX5_count_53 : decode cX5_count 53 = .ok (.aload_n 0, 1) := by decide +kernel
theorem dX5_count_54 : decode cX5_count 54 = .ok (.getfield 39, 3) := by decide +kernel
theorem dX5_count_57 : decode cX5_count 57 = .ok (.ireturn, 1) := by decide +kernel
theorem dX5_count_58 : decode cX5_count 58 = .ok (.aload_n 0, 1) := by decide +kernel
theorem dX5_count_59 : decode cX5_count 59 = .ok (.getfield 19, 3) := by decide +kernel
theorem dX5_count_62 : decode cX5_count 62 = .ok (.getfield 223, 3) := by decide +kernel
theorem dX5_count_65 : decode cX5_count 65 = .ok (.ireturn, 1) := by decide +kernel
theorem dX5_count_66 : decode cX5_count 66 = .ok (.aload_n 0, 1) := by decide +kernel
theorem dX5_count_67 : decode cX5_count 67 = .ok (.iconst 0, 1) := by decide +kernel
theorem dX5_count_68 : decode cX5_count 68 = .ok (.invokevirtual 226, 3) := by decide +kernel
theorem dX5_count_71 : decode cX5_count 71 = .ok (.ireturn, 1) := by decide +kernel
theorem dX5_count_72 : decode cX5_count 72 = .ok (.aload_n 0, 1) := by decide +kernel
theorem dX5_count_73 : decode cX5_count 73 = .ok (.iconst 1, 1) := by decide +kernel
theorem dX5_count_74 : decode cX5_count 74 = .ok (.invokevirtual 226, 3) := by decide +kernel
theorem dX5_count_77 : decode cX5_count 77 = .ok (.ireturn, 1) := by decide +kernel
theorem dX5_count_78 : decode cX5_count 78 = .ok (.iconst (-1), 1) := by decide +kernel
theorem dX5_count_79 : decode cX5_count 79 = .ok (.ireturn, 1) := by decide +kernel
theorem dX5_trace_0 : decode cX5_trace 0 = .ok (.aload_n 0, 1) := by decide +kernel
theorem dX5_trace_1 : decode cX5_trace 1 = .ok (.getfield 48, 3) := by decide +kernel
theorem dX5_trace_4 : decode cX5_trace 4 = .ok (.lreturn, 1) := by decide +kernel
theorem dX5_has_0 : decode cX5_has 0 = .ok (.iload_n 0, 1) := by decide +kernel
theorem dX5_has_1 : decode cX5_has 1 = .ok (.iload_n 1, 1) := by decide +kernel
theorem dX5_has_2 : decode cX5_has 2 = .ok (.ishr, 1) := by decide +kernel
theorem dX5_has_3 : decode cX5_has 3 = .ok (.iconst 1, 1) := by decide +kernel
theorem dX5_has_4 : decode cX5_has 4 = .ok (.iand, 1) := by decide +kernel
theorem dX5_has_5 : decode cX5_has 5 = .ok (.iconst 1, 1) := by decide +kernel
theorem dX5_has_6 : decode cX5_has 6 = .ok (.if_icmp .ne 7, 3) := by decide +kernel
theorem dX5_has_9 : decode cX5_has 9 = .ok (.iconst 1, 1) := by decide +kernel
theorem dX5_has_10 : decode cX5_has 10 = .ok (.goto 4, 3) := by decide +kernel
theorem dX5_has_13 : decode cX5_has 13 = .ok (.iconst 0, 1) := by decide +kernel
theorem dX5_has_14 : decode cX5_has 14 = .ok (.ireturn, 1) := by decide +kernel
theorem dX5_areLines_0 : decode cX5_areLines 0 = .ok (.iload_n 0, 1) := by decide +kernel
theorem dX5_areLines_1 : decode cX5_areLines 1 = .ok (.ifCond .lt 14, 3) := by decide +kernel
theorem dX5_areLines_4 : decode cX5_areLines 4 = .ok (.iload_n 0, 1) := by decide +kernel
theorem dX5_areLines_5 : decode cX5_areLines 5 = .ok (.sipush 4095, 3) := by decide +kernel
theorem dX5_areLines_8 : decode cX5_areLines 8 = .ok (.if_icmp .gt 7, 3) := by decide +kernel
theorem dX5_areLines_11 : decode cX5_areLines 11 = .ok (.iconst 1, 1) := by decide +kernel
theorem dX5_areLines_12 : decode cX5_areLines 12 = .ok (.goto 4, 3) := by decide +kernel
theorem dX5_areLines_15 : decode cX5_areLines 15 = .ok (.iconst 0, 1) := by decide +kernel
theorem dX5_areLines_16 : decode cX5_areLines 16 = .ok (.ireturn, 1) := by decide +kernel
theorem dX5_isLine_0 : decode cX5_isLine 0 = .ok (.iload_n 0, 1) := by decide +kernel
theorem dX5_isLine_1 : decode cX5_isLine 1 = .ok (.ifCond .lt 13, 3) := by decide +kernel
theorem dX5_isLine_4 : decode cX5_isLine 4 = .ok (.iload_n 0, 1) := by decide +kernel
theorem dX5_isLine_5 : decode cX5_isLine 5 = .ok (.bipush 12, 2) := by decide +kernel
theorem dX5_isLine_7 : decode cX5_isLine 7 = .ok (.if_icmp .ge 7, 3) := by decide +kernel
theorem dX5_isLine_10 : decode cX5_isLine 10 = .ok (.iconst 1, 1) := by decide +kernel
theorem dX5_isLine_11 : decode cX5_isLine 11 = .ok (.goto 4, 3) := by decide +kernel
theorem dX5_isLine_14 : decode cX5_isLine 14 = .ok (.iconst 0, 1) := by decide +kernel
theorem dX5_isLine_15 : decode cX5_isLine 15 = .ok (.ireturn, 1) := by decide +kernel
theorem dX5_isYear_0 : decode cX5_isYear 0 = .ok (.iload_n 0, 1) := by decide +kernel
theorem dX5_isYear_1 : decode cX5_isYear 1 = .ok (.sipush 1500, 3) := by decide +kernel
theorem dX5_isYear_4 : decode cX5_isYear 4 = .ok (.if_icmp .lt 14, 3) := by decide +kernel
theorem dX5_isYear_7 : decode cX5_isYear 7 = .ok (.iload_n 0, 1) := by decide +kernel
theorem dX5_isYear_8 : decode cX5_isYear 8 = .ok (.sipush 1900, 3) := by decide +kernel
theorem dX5_isYear_11 : decode cX5_isYear 11 = .ok (.if_icmp .gt 7, 3) := by decide +kernel
theorem dX5_isYear_14 : decode cX5_isYear 14 = .ok (.iconst 1, 1) := by decide +kernel
theorem dX5_isYear_15 : decode cX5_isYear 15 = .ok (.goto 4, 3) := by decide +kernel
theorem dX5_isYear_18 : decode cX5_isYear 18 = .ok (.iconst 0, 1) := by decide +kernel
theorem dX5_isYear_19 : decode cX5_isYear 19 = .ok (.ireturn, 1) := by decide +kernel
theorem dX5_areYears_0 : decode cX5_areYears 0 = .ok (.iload_n 0, 1) := by decide +kernel
theorem dX5_areYears_1 : decode cX5_areYears 1 = .ok (.invokestatic 136, 3) := by decide +kernel
theorem dX5_areYears_4 : decode cX5_areYears 4 = .ok (.ifCond .eq 19, 3) := by decide +kernel
theorem dX5_areYears_7 : decode cX5_areYears 7 = .ok (.iload_n 1, 1) := by decide +kernel
theorem dX5_areYears_8 : decode cX5_areYears 8 = .ok (.invokestatic 136, 3) := by decide +kernel
theorem dX5_areYears_11 : decode cX5_areYears 11 = .ok (.ifCond .eq 12, 3) := by decide +kernel
theorem dX5_areYears_14 : decode cX5_areYears 14 = .ok (.iload_n 0, 1) := by decide +kernel
theorem dX5_areYears_15 : decode cX5_areYears 15 = .ok (.iload_n 1, 1) := by decide +kernel
theorem dX5_areYears_16 : decode cX5_areYears 16 = .ok (.if_icmp .gt 7, 3) := by decide +kernel
theorem dX5_areYears_19 : decode cX5_areYears 19 = .ok (.iconst 1, 1) := by decide +kernel
theorem dX5_areYears_20 : decode cX5_areYears 20 = .ok (.goto 4, 3) := by decide +kernel
theorem dX5_areYears_23 : decode cX5_areYears 23 = .ok (.iconst 0, 1) := by decide +kernel
theorem dX5_areYears_24 : decode cX5_areYears 24 = .ok (.ireturn, 1) := by decide +kernel
theorem dX5_isFirstOrSecond_0 : decode cX5_isFirstOrSecond 0 = .ok (.iload_n 0, 1) := by decide +kernel
theorem dX5_isFirstOrSecond_1 : decode cX5_isFirstOrSecond 1 = .ok (.ifCond .eq 8, 3) := by decide +kernel
theorem dX5_isFirstOrSecond_4 : decode cX5_isFirstOrSecond 4 = .ok (.iload_n 0, 1) := by decide +kernel
theorem dX5_isFirstOrSecond_5 : decode cX5_isFirstOrSecond 5 = .ok (.iconst 1, 1) := by decide +kernel
theorem dX5_isFirstOrSecond_6 : decode cX5_isFirstOrSecond 6 = .ok (.if_icmp .ne 7, 3) := by decide +kernel
theorem dX5_isFirstOrSecond_9 : decode cX5_isFirstOrSecond 9 = .ok (.iconst 1, 1) := by decide +kernel
theorem dX5_isFirstOrSecond_10 : decode cX5_isFirstOrSecond 10 = .ok (.goto 4, 3) := by decide +kernel
theorem dX5_isFirstOrSecond_13 : decode cX5_isFirstOrSecond 13 = .ok (.iconst 0, 1) := by decide +kernel
theorem dX5_isFirstOrSecond_14 : decode cX5_isFirstOrSecond 14 = .ok (.ireturn, 1) := by decide +kernel
theorem dX5_isBook_0 : decode cX5_isBook 0 = .ok (.iload_n 0, 1) := by decide +kernel
theorem dX5_isBook_1 : decode cX5_isBook 1 = .ok (.ifCond .lt 12, 3) := by decide +kernel
theorem dX5_isBook_4 : decode cX5_isBook 4 = .ok (.iload_n 0, 1) := by decide +kernel
theorem dX5_isBook_5 : decode cX5_isBook 5 = .ok (.iconst 4, 1) := by decide +kernel
theorem dX5_isBook_6 : decode cX5_isBook 6 = .ok (.if_icmp .ge 7, 3) := by decide +kernel
theorem dX5_isBook_9 : decode cX5_isBook 9 = .ok (.iconst 1, 1) := by decide +kernel
theorem dX5_isBook_10 : decode cX5_isBook 10 = .ok (.goto 4, 3) := by decide +kernel
theorem dX5_isBook_13 : decode cX5_isBook 13 = .ok (.iconst 0, 1) := by decide +kernel
theorem dX5_isBook_14 : decode cX5_isBook 14 = .ok (.ireturn, 1) := by decide +kernel
theorem dX5_isLeaf_0 : decode cX5_isLeaf 0 = .ok (.iload_n 1, 1) := by decide +kernel
theorem dX5_isLeaf_1 : decode cX5_isLeaf 1 = .ok (.ifCond .lt 15, 3) := by decide +kernel
theorem dX5_isLeaf_4 : decode cX5_isLeaf 4 = .ok (.iload_n 1, 1) := by decide +kernel
theorem dX5_isLeaf_5 : decode cX5_isLeaf 5 = .ok (.aload_n 0, 1) := by decide +kernel
theorem dX5_isLeaf_6 : decode cX5_isLeaf 6 = .ok (.getfield 29, 3) := by decide +kernel
theorem dX5_isLeaf_9 : decode cX5_isLeaf 9 = .ok (.if_icmp .ge 7, 3) := by decide +kernel
theorem dX5_isLeaf_12 : decode cX5_isLeaf 12 = .ok (.iconst 1, 1) := by decide +kernel
theorem dX5_isLeaf_13 : decode cX5_isLeaf 13 = .ok (.goto 4, 3) := by decide +kernel
theorem dX5_isLeaf_16 : decode cX5_isLeaf 16 = .ok (.iconst 0, 1) := by decide +kernel
theorem dX5_isLeaf_17 : decode cX5_isLeaf 17 = .ok (.ireturn, 1) := by decide +kernel
theorem dX5_isMould_0 : decode cX5_isMould 0 = .ok (.iload_n 1, 1) := by decide +kernel
theorem dX5_isMould_1 : decode cX5_isMould 1 = .ok (.ifCond .lt 15, 3) := by decide +kernel
theorem dX5_isMould_4 : decode cX5_isMould 4 = .ok (.iload_n 1, 1) := by decide +kernel
theorem dX5_isMould_5 : decode cX5_isMould 5 = .ok (.aload_n 0, 1) := by decide +kernel
theorem dX5_isMould_6 : decode cX5_isMould 6 = .ok (.getfield 39, 3) := by decide +kernel
theorem dX5_isMould_9 : decode cX5_isMould 9 = .ok (.if_icmp .ge 7, 3) := by decide +kernel
theorem dX5_isMould_12 : decode cX5_isMould 12 = .ok (.iconst 1, 1) := by decide +kernel
theorem dX5_isMould_13 : decode cX5_isMould 13 = .ok (.goto 4, 3) := by decide +kernel
theorem dX5_isMould_16 : decode cX5_isMould 16 = .ok (.iconst 0, 1) := by decide +kernel
theorem dX5_isMould_17 : decode cX5_isMould 17 = .ok (.ireturn, 1) := by decide +kernel
theorem dX5_mostOfCharge_0 : decode cX5_mostOfCharge 0 = .ok (.iload_n 0, 1) := by decide +kernel
theorem dX5_mostOfCharge_1 : decode cX5_mostOfCharge 1 = .ok (.tableswitch 44 0 4 #[35, 35, 38, 35, 41], 35) := by decide +kernel
theorem dX5_mostOfCharge_36 : decode cX5_mostOfCharge 36 = .ok (.bipush 9, 2) := by decide +kernel
theorem dX5_mostOfCharge_38 : decode cX5_mostOfCharge 38 = .ok (.ireturn, 1) := by decide +kernel
theorem dX5_mostOfCharge_39 : decode cX5_mostOfCharge 39 = .ok (.bipush 50, 2) := by decide +kernel
theorem dX5_mostOfCharge_41 : decode cX5_mostOfCharge 41 = .ok (.ireturn, 1) := by decide +kernel
theorem dX5_mostOfCharge_42 : decode cX5_mostOfCharge 42 = .ok (.bipush 20, 2) := by decide +kernel
theorem dX5_mostOfCharge_44 : decode cX5_mostOfCharge 44 = .ok (.ireturn, 1) := by decide +kernel
theorem dX5_mostOfCharge_45 : decode cX5_mostOfCharge 45 = .ok (.iconst (-1), 1) := by decide +kernel
theorem dX5_mostOfCharge_46 : decode cX5_mostOfCharge 46 = .ok (.ireturn, 1) := by decide +kernel
theorem dX5_chargeOf_0 : decode cX5_chargeOf 0 = .ok (.iload_n 1, 1) := by decide +kernel
theorem dX5_chargeOf_1 : decode cX5_chargeOf 1 = .ok (.tableswitch 75 0 4 #[35, 43, 51, 59, 67], 35) := by decide +kernel
theorem dX5_chargeOf_36 : decode cX5_chargeOf 36 = .ok (.aload_n 0, 1) := by decide +kernel
theorem dX5_chargeOf_37 : decode cX5_chargeOf 37 = .ok (.getfield 10, 3) := by decide +kernel
theorem dX5_chargeOf_40 : decode cX5_chargeOf 40 = .ok (.getfield 229, 3) := by decide +kernel
theorem dX5_chargeOf_43 : decode cX5_chargeOf 43 = .ok (.ireturn, 1) := by decide +kernel
theorem dX5_chargeOf_44 : decode cX5_chargeOf 44 = .ok (.aload_n 0, 1) := by decide +kernel
theorem dX5_chargeOf_45 : decode cX5_chargeOf 45 = .ok (.getfield 10, 3) := by decide +kernel
theorem dX5_chargeOf_48 : decode cX5_chargeOf 48 = .ok (.getfield 232, 3) := by decide +kernel
theorem dX5_chargeOf_51 : decode cX5_chargeOf 51 = .ok (.ireturn, 1) := by decide +kernel
theorem dX5_chargeOf_52 : decode cX5_chargeOf 52 = .ok (.aload_n 0, 1) := by decide +kernel
theorem dX5_chargeOf_53 : decode cX5_chargeOf 53 = .ok (.getfield 10, 3) := by decide +kernel
theorem dX5_chargeOf_56 : decode cX5_chargeOf 56 = .ok (.getfield 235, 3) := by decide +kernel
theorem dX5_chargeOf_59 : decode cX5_chargeOf 59 = .ok (.ireturn, 1) := by decide +kernel
theorem dX5_chargeOf_60 : decode cX5_chargeOf 60 = .ok (.aload_n 0, 1) := by decide +kernel
theorem dX5_chargeOf_61 : decode cX5_chargeOf 61 = .ok (.getfield 19, 3) := by decide +kernel
theorem dX5_chargeOf_64 : decode cX5_chargeOf 64 = .ok (.getfield 238, 3) := by decide +kernel
theorem dX5_chargeOf_67 : decode cX5_chargeOf 67 = .ok (.ireturn, 1) := by decide +kernel
theorem dX5_chargeOf_68 : decode cX5_chargeOf 68 = .ok (.aload_n 0, 1) := by decide +kernel
theorem dX5_chargeOf_69 : decode cX5_chargeOf 69 = .ok (.getfield 19, 3) := by decide +kernel
theorem dX5_chargeOf_72 : decode cX5_chargeOf 72 = .ok (.getfield 241, 3) := by decide +kernel
theorem dX5_chargeOf_75 : decode cX5_chargeOf 75 = .ok (.ireturn, 1) := by decide +kernel
theorem dX5_chargeOf_76 : decode cX5_chargeOf 76 = .ok (.iconst (-1), 1) := by decide +kernel
theorem dX5_chargeOf_77 : decode cX5_chargeOf 77 = .ok (.ireturn, 1) := by decide +kernel
theorem dX5_putCharge_0 : decode cX5_putCharge 0 = .ok (.iload_n 1, 1) := by decide +kernel
theorem dX5_putCharge_1 : decode cX5_putCharge 1 = .ok (.tableswitch 90 0 4 #[35, 46, 57, 68, 79], 35) := by decide +kernel
theorem dX5_putCharge_36 : decode cX5_putCharge 36 = .ok (.aload_n 0, 1) := by decide +kernel
theorem dX5_putCharge_37 : decode cX5_putCharge 37 = .ok (.getfield 10, 3) := by decide +kernel
theorem dX5_putCharge_40 : decode cX5_putCharge 40 = .ok (.iload_n 2, 1) := by decide +kernel
theorem dX5_putCharge_41 : decode cX5_putCharge 41 = .ok (.putfield 229, 3) := by decide +kernel
theorem dX5_putCharge_44 : decode cX5_putCharge 44 = .ok (.goto 47, 3) := by decide +kernel
theorem dX5_putCharge_47 : decode cX5_putCharge 47 = .ok (.aload_n 0, 1) := by decide +kernel
theorem dX5_putCharge_48 : decode cX5_putCharge 48 = .ok (.getfield 10, 3) := by decide +kernel
theorem dX5_putCharge_51 : decode cX5_putCharge 51 = .ok (.iload_n 2, 1) := by decide +kernel
theorem dX5_putCharge_52 : decode cX5_putCharge 52 = .ok (.putfield 232, 3) := by decide +kernel
theorem dX5_putCharge_55 : decode cX5_putCharge 55 = .ok (.goto 36, 3) := by decide +kernel
theorem dX5_putCharge_58 : decode cX5_putCharge 58 = .ok (.aload_n 0, 1) := by decide +kernel
theorem dX5_putCharge_59 : decode cX5_putCharge 59 = .ok (.getfield 10, 3) := by decide +kernel
theorem dX5_putCharge_62 : decode cX5_putCharge 62 = .ok (.iload_n 2, 1) := by decide +kernel
theorem dX5_putCharge_63 : decode cX5_putCharge 63 = .ok (.putfield 235, 3) := by decide +kernel
theorem dX5_putCharge_66 : decode cX5_putCharge 66 = .ok (.goto 25, 3) := by decide +kernel
theorem dX5_putCharge_69 : decode cX5_putCharge 69 = .ok (.aload_n 0, 1) := by decide +kernel
theorem dX5_putCharge_70 : decode cX5_putCharge 70 = .ok (.getfield 19, 3) := by decide +kernel
theorem dX5_putCharge_73 : decode cX5_putCharge 73 = .ok (.iload_n 2, 1) := by decide +kernel
theorem dX5_putCharge_74 : decode cX5_putCharge 74 = .ok (.putfield 238, 3) := by decide +kernel
theorem dX5_putCharge_77 : decode cX5_putCharge 77 = .ok (.goto 14, 3) := by decide +kernel
theorem dX5_putCharge_80 : decode cX5_putCharge 80 = .ok (.aload_n 0, 1) := by decide +kernel
theorem dX5_putCharge_81 : decode cX5_putCharge 81 = .ok (.getfield 19, 3) := by decide +kernel
theorem dX5_putCharge_84 : decode cX5_putCharge 84 = .ok (.iload_n 2, 1) := by decide +kernel
theorem dX5_putCharge_85 : decode cX5_putCharge 85 = .ok (.putfield 241, 3) := by decide +kernel
theorem dX5_putCharge_88 : decode cX5_putCharge 88 = .ok (.goto 3, 3) := by decide +kernel
theorem dX5_putCharge_91 : decode cX5_putCharge 91 = .ok (.return_, 1) := by decide +kernel
theorem dX5_candidatesOf_0 : decode cX5_candidatesOf 0 = .ok (.aload_n 0, 1) := by decide +kernel
theorem dX5_candidatesOf_1 : decode cX5_candidatesOf 1 = .ok (.getfield 10, 3) := by decide +kernel
theorem dX5_candidatesOf_4 : decode cX5_candidatesOf 4 = .ok (.aload_n 1, 1) := by decide +kernel
theorem dX5_candidatesOf_5 : decode cX5_candidatesOf 5 = .ok (.getfield 244, 3) := by decide +kernel
theorem dX5_candidatesOf_8 : decode cX5_candidatesOf 8 = .ok (.aload_n 1, 1) := by decide +kernel
theorem dX5_candidatesOf_9 : decode cX5_candidatesOf 9 = .ok (.getfield 247, 3) := by decide +kernel
theorem dX5_candidatesOf_12 : decode cX5_candidatesOf 12 = .ok (.invokevirtual 250, 3) := by decide +kernel
theorem dX5_candidatesOf_15 : decode cX5_candidatesOf 15 = .ok (.ireturn, 1) := by decide +kernel
theorem dX5_leavesWithCandidates_0 : decode cX5_leavesWithCandidates 0 = .ok (.iconst 0, 1) := by decide +kernel
theorem dX5_leavesWithCandidates_1 : decode cX5_leavesWithCandidates 1 = .ok (.istore_n 2, 1) := by decide +kernel
theorem dX5_leavesWithCandidates_2 : decode cX5_leavesWithCandidates 2 = .ok (.iconst 0, 1) := by decide +kernel
theorem dX5_leavesWithCandidates_3 : decode cX5_leavesWithCandidates 3 = .ok (.istore_n 3, 1) := by decide +kernel
theorem dX5_leavesWithCandidates_4 : decode cX5_leavesWithCandidates 4 = .ok (.iload_n 3, 1) := by decide +kernel
theorem dX5_leavesWithCandidates_5 : decode cX5_leavesWithCandidates 5 = .ok (.aload_n 0, 1) := by decide +kernel
theorem dX5_leavesWithCandidates_6 : decode cX5_leavesWithCandidates 6 = .ok (.getfield 29, 3) := by decide +kernel
theorem dX5_leavesWithCandidates_9 : decode cX5_leavesWithCandidates 9 = .ok (.if_icmp .ge 29, 3) := by decide +kernel
theorem dX5_leavesWithCandidates_12 : decode cX5_leavesWithCandidates 12 = .ok (.aload_n 0, 1) := by decide +kernel
theorem dX5_leavesWithCandidates_13 : decode cX5_leavesWithCandidates 13 = .ok (.aload_n 0, 1) := by decide +kernel
theorem dX5_leavesWithCandidates_14 : decode cX5_leavesWithCandidates 14 = .ok (.getfield 25, 3) := by decide +kernel
theorem dX5_leavesWithCandidates_17 : decode cX5_leavesWithCandidates 17 = .ok (.iload_n 3, 1) := by decide +kernel
theorem dX5_leavesWithCandidates_18 : decode cX5_leavesWithCandidates 18 = .ok (.aaload, 1) := by decide +kernel
theorem dX5_leavesWithCandidates_19 : decode cX5_leavesWithCandidates 19 = .ok (.invokevirtual 123, 3) := by decide +kernel
theorem dX5_leavesWithCandidates_22 : decode cX5_leavesWithCandidates 22 = .ok (.invokestatic 253, 3) := by decide +kernel
theorem dX5_leavesWithCandidates_25 : decode cX5_leavesWithCandidates 25 = .ok (.iload_n 1, 1) := by decide +kernel
theorem dX5_leavesWithCandidates_26 : decode cX5_leavesWithCandidates 26 = .ok (.if_icmp .ne 6, 3) := by decide +kernel
theorem dX5_leavesWithCandidates_29 : decode cX5_leavesWithCandidates 29 = .ok (.iinc 2 1, 3) := by decide +kernel
theorem dX5_leavesWithCandidates_32 : decode cX5_leavesWithCandidates 32 = .ok (.iinc 3 1, 3) := by decide +kernel
theorem dX5_leavesWithCandidates_35 : decode cX5_leavesWithCandidates 35 = .ok (.goto (-31), 3) := by decide +kernel
theorem dX5_leavesWithCandidates_38 : decode cX5_leavesWithCandidates 38 = .ok (.iload_n 2, 1) := by decide +kernel
theorem dX5_leavesWithCandidates_39 : decode cX5_leavesWithCandidates 39 = .ok (.ireturn, 1) := by decide +kernel
theorem dX5_earliestByPaper_0 : decode cX5_earliestByPaper 0 = .ok (.aload_n 0, 1) := by decide +kernel
theorem dX5_earliestByPaper_1 : decode cX5_earliestByPaper 1 = .ok (.aload_n 1, 1) := by decide +kernel
theorem dX5_earliestByPaper_2 : decode cX5_earliestByPaper 2 = .ok (.getfield 133, 3) := by decide +kernel
theorem dX5_earliestByPaper_5 : decode cX5_earliestByPaper 5 = .ok (.invokevirtual 130, 3) := by decide +kernel
theorem dX5_earliestByPaper_8 : decode cX5_earliestByPaper 8 = .ok (.ifCond .eq 18, 3) := by decide +kernel
theorem dX5_earliestByPaper_11 : decode cX5_earliestByPaper 11 = .ok (.aload_n 0, 1) := by decide +kernel
theorem dX5_earliestByPaper_12 : decode cX5_earliestByPaper 12 = .ok (.getfield 35, 3) := by decide +kernel
theorem dX5_earliestByPaper_15 : decode cX5_earliestByPaper 15 = .ok (.aload_n 1, 1) := by decide +kernel
theorem dX5_earliestByPaper_16 : decode cX5_earliestByPaper 16 = .ok (.getfield 133, 3) := by decide +kernel
theorem dX5_earliestByPaper_19 : decode cX5_earliestByPaper 19 = .ok (.aaload, 1) := by decide +kernel
theorem dX5_earliestByPaper_20 : decode cX5_earliestByPaper 20 = .ok (.getfield 77, 3) := by decide +kernel
theorem dX5_earliestByPaper_23 : decode cX5_earliestByPaper 23 = .ok (.goto 6, 3) := by decide +kernel
theorem dX5_earliestByPaper_26 : decode cX5_earliestByPaper 26 = .ok (.sipush 1500, 3) := by decide +kernel
theorem dX5_earliestByPaper_29 : decode cX5_earliestByPaper 29 = .ok (.istore_n 2, 1) := by decide +kernel
theorem dX5_earliestByPaper_30 : decode cX5_earliestByPaper 30 = .ok (.aload_n 1, 1) := by decide +kernel
theorem dX5_earliestByPaper_31 : decode cX5_earliestByPaper 31 = .ok (.getfield 139, 3) := by decide +kernel
theorem dX5_earliestByPaper_34 : decode cX5_earliestByPaper 34 = .ok (.bipush (-9), 2) := by decide +kernel
theorem dX5_earliestByPaper_36 : decode cX5_earliestByPaper 36 = .ok (.if_icmp .ne 7, 3) := by decide +kernel
theorem dX5_earliestByPaper_39 : decode cX5_earliestByPaper 39 = .ok (.iload_n 2, 1) := by decide +kernel
theorem dX5_earliestByPaper_40 : decode cX5_earliestByPaper 40 = .ok (.goto 11, 3) := by decide +kernel
theorem dX5_earliestByPaper_43 : decode cX5_earliestByPaper 43 = .ok (.iload_n 2, 1) := by decide +kernel
theorem dX5_earliestByPaper_44 : decode cX5_earliestByPaper 44 = .ok (.aload_n 1, 1) := by decide +kernel
theorem dX5_earliestByPaper_45 : decode cX5_earliestByPaper 45 = .ok (.getfield 139, 3) := by decide +kernel
theorem dX5_earliestByPaper_48 : decode cX5_earliestByPaper 48 = .ok (.invokestatic 148, 3) := by decide +kernel
theorem dX5_earliestByPaper_51 : decode cX5_earliestByPaper 51 = .ok (.ireturn, 1) := by decide +kernel
theorem dX5_latestByPaper_0 : decode cX5_latestByPaper 0 = .ok (.aload_n 0, 1) := by decide +kernel
theorem dX5_latestByPaper_1 : decode cX5_latestByPaper 1 = .ok (.aload_n 1, 1) := by decide +kernel
theorem dX5_latestByPaper_2 : decode cX5_latestByPaper 2 = .ok (.getfield 133, 3) := by decide +kernel
theorem dX5_latestByPaper_5 : decode cX5_latestByPaper 5 = .ok (.invokevirtual 130, 3) := by decide +kernel
theorem dX5_latestByPaper_8 : decode cX5_latestByPaper 8 = .ok (.ifCond .eq 18, 3) := by decide +kernel
theorem dX5_latestByPaper_11 : decode cX5_latestByPaper 11 = .ok (.aload_n 0, 1) := by decide +kernel
theorem dX5_latestByPaper_12 : decode cX5_latestByPaper 12 = .ok (.getfield 35, 3) := by decide +kernel
theorem dX5_latestByPaper_15 : decode cX5_latestByPaper 15 = .ok (.aload_n 1, 1) := by decide +kernel
theorem dX5_latestByPaper_16 : decode cX5_latestByPaper 16 = .ok (.getfield 133, 3) := by decide +kernel
theorem dX5_latestByPaper_19 : decode cX5_latestByPaper 19 = .ok (.aaload, 1) := by decide +kernel
theorem dX5_latestByPaper_20 : decode cX5_latestByPaper 20 = .ok (.getfield 80, 3) := by decide +kernel
theorem dX5_latestByPaper_23 : decode cX5_latestByPaper 23 = .ok (.goto 6, 3) := by decide +kernel
theorem dX5_latestByPaper_26 : decode cX5_latestByPaper 26 = .ok (.sipush 1900, 3) := by decide +kernel
theorem dX5_latestByPaper_29 : decode cX5_latestByPaper 29 = .ok (.ireturn, 1) := by decide +kernel
theorem dX5_plainPrice_0 : decode cX5_plainPrice 0 = .ok (.aload_n 0, 1) := by decide +kernel
theorem dX5_plainPrice_1 : decode cX5_plainPrice 1 = .ok (.dup, 1) := by decide +kernel
theorem dX5_plainPrice_2 : decode cX5_plainPrice 2 = .ok (.getfield 48, 3) := by decide +kernel
theorem dX5_plainPrice_5 : decode cX5_plainPrice 5 = .ok (.lconst 1, 1) := by decide +kernel
theorem dX5_plainPrice_6 : decode cX5_plainPrice 6 = .ok (.ladd, 1) := by decide +kernel
theorem dX5_plainPrice_7 : decode cX5_plainPrice 7 = .ok (.putfield 48, 3) := by decide +kernel
theorem dX5_plainPrice_10 : decode cX5_plainPrice 10 = .ok (.aload_n 0, 1) := by decide +kernel
theorem dX5_plainPrice_11 : decode cX5_plainPrice 11 = .ok (.aload_n 1, 1) := by decide +kernel
theorem dX5_plainPrice_12 : decode cX5_plainPrice 12 = .ok (.invokevirtual 123, 3) := by decide +kernel
theorem dX5_plainPrice_15 : decode cX5_plainPrice 15 = .ok (.invokestatic 253, 3) := by decide +kernel
theorem dX5_plainPrice_18 : decode cX5_plainPrice 18 = .ok (.istore_n 2, 1) := by decide +kernel
theorem dX5_plainPrice_19 : decode cX5_plainPrice 19 = .ok (.iload_n 2, 1) := by decide +kernel
theorem dX5_plainPrice_20 : decode cX5_plainPrice 20 = .ok (.ifCond .ne 7, 3) := by decide +kernel
theorem dX5_plainPrice_23 : decode cX5_plainPrice 23 = .ok (.iconst 0, 1) := by decide +kernel
theorem dX5_plainPrice_24 : decode cX5_plainPrice 24 = .ok (.goto 9, 3) := by decide +kernel
theorem dX5_plainPrice_27 : decode cX5_plainPrice 27 = .ok (.aload_n 1, 1) := by decide +kernel
theorem dX5_plainPrice_28 : decode cX5_plainPrice 28 = .ok (.getfield 258, 3) := by decide +kernel
theorem dX5_plainPrice_31 : decode cX5_plainPrice 31 = .ok (.iload_n 2, 1) := by decide +kernel
theorem dX5_plainPrice_32 : decode cX5_plainPrice 32 = .ok (.idiv, 1) := by decide +kernel
theorem dX5_plainPrice_33 : decode cX5_plainPrice 33 = .ok (.ireturn, 1) := by decide +kernel
theorem dX5_colouredPrice_0 : decode cX5_colouredPrice 0 = .ok (.aload_n 0, 1) := by decide +kernel
theorem dX5_colouredPrice_1 : decode cX5_colouredPrice 1 = .ok (.dup, 1) := by decide +kernel
theorem dX5_colouredPrice_2 : decode cX5_colouredPrice 2 = .ok (.getfield 48, 3) := by decide +kernel
theorem dX5_colouredPrice_5 : decode cX5_colouredPrice 5 = .ok (.ldc2_w 261, 3) := by decide +kernel
theorem dX5_colouredPrice_8 : decode cX5_colouredPrice 8 = .ok (.ladd, 1) := by decide +kernel
theorem dX5_colouredPrice_9 : decode cX5_colouredPrice 9 = .ok (.putfield 48, 3) := by decide +kernel
theorem dX5_colouredPrice_12 : decode cX5_colouredPrice 12 = .ok (.aload_n 0, 1) := by decide +kernel
theorem dX5_colouredPrice_13 : decode cX5_colouredPrice 13 = .ok (.aload_n 1, 1) := by decide +kernel
theorem dX5_colouredPrice_14 : decode cX5_colouredPrice 14 = .ok (.invokevirtual 160, 3) := by decide +kernel
theorem dX5_colouredPrice_17 : decode cX5_colouredPrice 17 = .ok (.istore_n 2, 1) := by decide +kernel
theorem dX5_colouredPrice_18 : decode cX5_colouredPrice 18 = .ok (.aload_n 1, 1) := by decide +kernel
theorem dX5_colouredPrice_19 : decode cX5_colouredPrice 19 = .ok (.getfield 263, 3) := by decide +kernel
theorem dX5_colouredPrice_22 : decode cX5_colouredPrice 22 = .ok (.iconst 1, 1) := by decide +kernel
theorem dX5_colouredPrice_23 : decode cX5_colouredPrice 23 = .ok (.if_icmp .ne 9, 3) := by decide +kernel
theorem dX5_colouredPrice_26 : decode cX5_colouredPrice 26 = .ok (.iload_n 2, 1) := by decide +kernel
theorem dX5_colouredPrice_27 : decode cX5_colouredPrice 27 = .ok (.iload_n 2, 1) := by decide +kernel
theorem dX5_colouredPrice_28 : decode cX5_colouredPrice 28 = .ok (.iconst 2, 1) := by decide +kernel
theorem dX5_colouredPrice_29 : decode cX5_colouredPrice 29 = .ok (.idiv, 1) := by decide +kernel
theorem dX5_colouredPrice_30 : decode cX5_colouredPrice 30 = .ok (.iadd, 1) := by decide +kernel
theorem dX5_colouredPrice_31 : decode cX5_colouredPrice 31 = .ok (.ireturn, 1) := by decide +kernel
theorem dX5_colouredPrice_32 : decode cX5_colouredPrice 32 = .ok (.aload_n 1, 1) := by decide +kernel
theorem dX5_colouredPrice_33 : decode cX5_colouredPrice 33 = .ok (.getfield 263, 3) := by decide +kernel
theorem dX5_colouredPrice_36 : decode cX5_colouredPrice 36 = .ok (.iconst 2, 1) := by decide +kernel
theorem dX5_colouredPrice_37 : decode cX5_colouredPrice 37 = .ok (.if_icmp .ne 11, 3) := by decide +kernel
theorem dX5_colouredPrice_40 : decode cX5_colouredPrice 40 = .ok (.iload_n 2, 1) := by decide +kernel
theorem dX5_colouredPrice_41 : decode cX5_colouredPrice 41 = .ok (.iload_n 2, 1) := by decide +kernel
theorem dX5_colouredPrice_42 : decode cX5_colouredPrice 42 = .ok (.iconst 3, 1) := by decide +kernel
theorem dX5_colouredPrice_43 : decode cX5_colouredPrice 43 = .ok (.iadd, 1) := by decide +kernel
theorem dX5_colouredPrice_44 : decode cX5_colouredPrice 44 = .ok (.iconst 4, 1) := by decide +kernel
theorem dX5_colouredPrice_45 : decode cX5_colouredPrice 45 = .ok (.idiv, 1) := by decide +kernel
theorem dX5_colouredPrice_46 : decode cX5_colouredPrice 46 = .ok (.isub, 1) := by decide +kernel
theorem dX5_colouredPrice_47 : decode cX5_colouredPrice 47 = .ok (.ireturn, 1) := by decide +kernel
theorem dX5_colouredPrice_48 : decode cX5_colouredPrice 48 = .ok (.iload_n 2, 1) := by decide +kernel
theorem dX5_colouredPrice_49 : decode cX5_colouredPrice 49 = .ok (.ireturn, 1) := by decide +kernel
theorem dX5_wormPrice_0 : decode cX5_wormPrice 0 = .ok (.aload_n 0, 1) := by decide +kernel
theorem dX5_wormPrice_1 : decode cX5_wormPrice 1 = .ok (.dup, 1) := by decide +kernel
theorem dX5_wormPrice_2 : decode cX5_wormPrice 2 = .ok (.getfield 48, 3) := by decide +kernel
theorem dX5_wormPrice_5 : decode cX5_wormPrice 5 = .ok (.ldc2_w 266, 3) := by decide +kernel
theorem dX5_wormPrice_8 : decode cX5_wormPrice 8 = .ok (.ladd, 1) := by decide +kernel
theorem dX5_wormPrice_9 : decode cX5_wormPrice 9 = .ok (.putfield 48, 3) := by decide +kernel
theorem dX5_wormPrice_12 : decode cX5_wormPrice 12 = .ok (.iconst 0, 1) := by decide +kernel
theorem dX5_wormPrice_13 : decode cX5_wormPrice 13 = .ok (.aload_n 0, 1) := by decide +kernel
theorem dX5_wormPrice_14 : decode cX5_wormPrice 14 = .ok (.aload_n 1, 1) := by decide +kernel
theorem dX5_wormPrice_15 : decode cX5_wormPrice 15 = .ok (.invokevirtual 163, 3) := by decide +kernel
theorem dX5_wormPrice_18 : decode cX5_wormPrice 18 = .ok (.iconst 3, 1) := by decide +kernel
theorem dX5_wormPrice_19 : decode cX5_wormPrice 19 = .ok (.aload_n 1, 1) := by decide +kernel
theorem dX5_wormPrice_20 : decode cX5_wormPrice 20 = .ok (.getfield 196, 3) := by decide +kernel
theorem dX5_wormPrice_23 : decode cX5_wormPrice 23 = .ok (.getfield 268, 3) := by decide +kernel
theorem dX5_wormPrice_26 : decode cX5_wormPrice 26 = .ok (.imul, 1) := by decide +kernel
theorem dX5_wormPrice_27 : decode cX5_wormPrice 27 = .ok (.isub, 1) := by decide +kernel
theorem dX5_wormPrice_28 : decode cX5_wormPrice 28 = .ok (.invokestatic 148, 3) := by decide +kernel
theorem dX5_wormPrice_31 : decode cX5_wormPrice 31 = .ok (.ireturn, 1) := by decide +kernel
theorem dX5_homeOf_0 : decode cX5_homeOf 0 = .ok (.bipush (-9), 2) := by decide +kernel
theorem dX5_homeOf_2 : decode cX5_homeOf 2 = .ok (.istore_n 2, 1) := by decide +kernel
theorem dX5_homeOf_3 : decode cX5_homeOf 3 = .ok (.iconst 1, 1) := by decide +kernel
theorem dX5_homeOf_4 : decode cX5_homeOf 4 = .ok (.istore_n 3, 1) := by decide +kernel
theorem dX5_homeOf_5 : decode cX5_homeOf 5 = .ok (.iconst 0, 1) := by decide +kernel
theorem dX5_homeOf_6 : decode cX5_homeOf 6 = .ok (.istore 4, 2) := by decide +kernel
theorem dX5_homeOf_8 : decode cX5_homeOf 8 = .ok (.iload 4, 2) := by decide +kernel
theorem dX5_homeOf_10 : decode cX5_homeOf 10 = .ok (.iconst 4, 1) := by decide +kernel
theorem dX5_homeOf_11 : decode cX5_homeOf 11 = .ok (.if_icmp .ge 42, 3) := by decide +kernel
theorem dX5_homeOf_14 : decode cX5_homeOf 14 = .ok (.aload_n 0, 1) := by decide +kernel
theorem dX5_homeOf_15 : decode cX5_homeOf 15 = .ok (.getfield 25, 3) := by decide +kernel
theorem dX5_homeOf_18 : decode cX5_homeOf 18 = .ok (.iload_n 1, 1) := by decide +kernel
theorem dX5_homeOf_19 : decode cX5_homeOf 19 = .ok (.aaload, 1) := by decide +kernel
theorem dX5_homeOf_20 : decode cX5_homeOf 20 = .ok (.getfield 196, 3) := by decide +kernel
theorem dX5_homeOf_23 : decode cX5_homeOf 23 = .ok (.aload_n 0, 1) := by decide +kernel
theorem dX5_homeOf_24 : decode cX5_homeOf 24 = .ok (.getfield 44, 3) := by decide +kernel
theorem dX5_homeOf_27 : decode cX5_homeOf 27 = .ok (.iload 4, 2) := by decide +kernel
theorem dX5_homeOf_29 : decode cX5_homeOf 29 = .ok (.aaload, 1) := by decide +kernel
theorem dX5_homeOf_30 : decode cX5_homeOf 30 = .ok (.invokevirtual 271, 3) := by decide +kernel
theorem dX5_homeOf_33 : decode cX5_homeOf 33 = .ok (.istore 5, 2) := by decide +kernel
theorem dX5_homeOf_35 : decode cX5_homeOf 35 = .ok (.iload 5, 2) := by decide +kernel
theorem dX5_homeOf_37 : decode cX5_homeOf 37 = .ok (.iload_n 3, 1) := by decide +kernel
theorem dX5_homeOf_38 : decode cX5_homeOf 38 = .ok (.if_icmp .le 9, 3) := by decide +kernel
theorem dX5_homeOf_41 : decode cX5_homeOf 41 = .ok (.iload 5, 2) := by decide +kernel
theorem dX5_homeOf_43 : decode cX5_homeOf 43 = .ok (.istore_n 3, 1) := by decide +kernel
theorem dX5_homeOf_44 : decode cX5_homeOf 44 = .ok (.iload 4, 2) := by decide +kernel
theorem dX5_homeOf_46 : decode cX5_homeOf 46 = .ok (.istore_n 2, 1) := by decide +kernel
theorem dX5_homeOf_47 : decode cX5_homeOf 47 = .ok (.iinc 4 1, 3) := by decide +kernel
theorem dX5_homeOf_50 : decode cX5_homeOf 50 = .ok (.goto (-42), 3) := by decide +kernel
theorem dX5_homeOf_53 : decode cX5_homeOf 53 = .ok (.iload_n 2, 1) := by decide +kernel
theorem dX5_homeOf_54 : decode cX5_homeOf 54 = .ok (.ireturn, 1) := by decide +kernel
theorem dX5_othersByChance_0 : decode cX5_othersByChance 0 = .ok (.aload_n 0, 1) := by decide +kernel
theorem dX5_othersByChance_1 : decode cX5_othersByChance 1 = .ok (.getfield 25, 3) := by decide +kernel
theorem dX5_othersByChance_4 : decode cX5_othersByChance 4 = .ok (.iload_n 1, 1) := by decide +kernel
theorem dX5_othersByChance_5 : decode cX5_othersByChance 5 = .ok (.aaload, 1) := by decide +kernel
theorem dX5_othersByChance_6 : decode cX5_othersByChance 6 = .ok (.getfield 196, 3) := by decide +kernel
theorem dX5_othersByChance_9 : decode cX5_othersByChance 9 = .ok (.aload_n 0, 1) := by decide +kernel
theorem dX5_othersByChance_10 : decode cX5_othersByChance 10 = .ok (.getfield 44, 3) := by decide +kernel
theorem dX5_othersByChance_13 : decode cX5_othersByChance 13 = .ok (.iload_n 2, 1) := by decide +kernel
theorem dX5_othersByChance_14 : decode cX5_othersByChance 14 = .ok (.aaload, 1) := by decide +kernel
theorem dX5_othersByChance_15 : decode cX5_othersByChance 15 = .ok (.invokevirtual 271, 3) := by decide +kernel
theorem dX5_othersByChance_18 : decode cX5_othersByChance 18 = .ok (.istore_n 3, 1) := by decide +kernel
theorem dX5_othersByChance_19 : decode cX5_othersByChance 19 = .ok (.iconst 0, 1) := by decide +kernel
theorem dX5_othersByChance_20 : decode cX5_othersByChance 20 = .ok (.istore 4, 2) := by decide +kernel
theorem dX5_othersByChance_22 : decode cX5_othersByChance 22 = .ok (.iconst 0, 1) := by decide +kernel
theorem dX5_othersByChance_23 : decode cX5_othersByChance 23 = .ok (.istore 5, 2) := by decide +kernel
theorem dX5_othersByChance_25 : decode cX5_othersByChance 25 = .ok (.iload 5, 2) := by decide +kernel
theorem dX5_othersByChance_27 : decode cX5_othersByChance 27 = .ok (.aload_n 0, 1) := by decide +kernel
theorem dX5_othersByChance_28 : decode cX5_othersByChance 28 = .ok (.getfield 29, 3) := by decide +kernel
theorem dX5_othersByChance_31 : decode cX5_othersByChance 31 = .ok (.if_icmp .ge 41, 3) := by decide +kernel
theorem dX5_othersByChance_34 : decode cX5_othersByChance 34 = .ok (.iload 5, 2) := by decide +kernel
theorem dX5_othersByChance_36 : decode cX5_othersByChance 36 = .ok (.iload_n 1, 1) := by decide +kernel
theorem dX5_othersByChance_37 : decode cX5_othersByChance 37 = .ok (.if_icmp .eq 29, 3) := by decide +kernel
theorem dX5_othersByChance_40 : decode cX5_othersByChance 40 = .ok (.aload_n 0, 1) := by decide +kernel
theorem dX5_othersByChance_41 : decode cX5_othersByChance 41 = .ok (.getfield 25, 3) := by decide +kernel
theorem dX5_othersByChance_44 : decode cX5_othersByChance 44 = .ok (.iload 5, 2) := by decide +kernel
theorem dX5_othersByChance_46 : decode cX5_othersByChance 46 = .ok (.aaload, 1) := by decide +kernel
theorem dX5_othersByChance_47 : decode cX5_othersByChance 47 = .ok (.getfield 196, 3) := by decide +kernel
theorem dX5_othersByChance_50 : decode cX5_othersByChance 50 = .ok (.aload_n 0, 1) := by decide +kernel
theorem dX5_othersByChance_51 : decode cX5_othersByChance 51 = .ok (.getfield 44, 3) := by decide +kernel
theorem dX5_othersByChance_54 : decode cX5_othersByChance 54 = .ok (.iload_n 2, 1) := by decide +kernel
theorem dX5_othersByChance_55 : decode cX5_othersByChance 55 = .ok (.aaload, 1) := by decide +kernel
theorem dX5_othersByChance_56 : decode cX5_othersByChance 56 = .ok (.invokevirtual 271, 3) := by decide +kernel
theorem dX5_othersByChance_59 : decode cX5_othersByChance 59 = .ok (.iload_n 3, 1) := by decide +kernel
theorem dX5_othersByChance_60 : decode cX5_othersByChance 60 = .ok (.if_icmp .lt 6, 3) := by decide +kernel
theorem dX5_othersByChance_63 : decode cX5_othersByChance 63 = .ok (.iinc 4 1, 3) := by decide +kernel
theorem dX5_othersByChance_66 : decode cX5_othersByChance 66 = .ok (.iinc 5 1, 3) := by decide +kernel
theorem dX5_othersByChance_69 : decode cX5_othersByChance 69 = .ok (.goto (-44), 3) := by decide +kernel
theorem dX5_othersByChance_72 : decode cX5_othersByChance 72 = .ok (.iload 4, 2) := by decide +kernel
theorem dX5_othersByChance_74 : decode cX5_othersByChance 74 = .ok (.ireturn, 1) := by decide +kernel
theorem dJ6_bitCount_0f7a4_0 : decode cJ6_bitCount_0f7a4 0 = .ok (.iload_n 0, 1) := by decide +kernel
theorem dJ6_bitCount_0f7a4_1 : decode cJ6_bitCount_0f7a4 1 = .ok (.iload_n 0, 1) := by decide +kernel
theorem dJ6_bitCount_0f7a4_2 : decode cJ6_bitCount_0f7a4 2 = .ok (.iconst 1, 1) := by decide +kernel
theorem dJ6_bitCount_0f7a4_3 : decode cJ6_bitCount_0f7a4 3 = .ok (.iushr, 1) := by decide +kernel
theorem dJ6_bitCount_0f7a4_4 : decode cJ6_bitCount_0f7a4 4 = .ok (.ldc_w 265, 3) := by decide +kernel
theorem dJ6_bitCount_0f7a4_7 : decode cJ6_bitCount_0f7a4 7 = .ok (.iand, 1) := by decide +kernel
theorem dJ6_bitCount_0f7a4_8 : decode cJ6_bitCount_0f7a4 8 = .ok (.isub, 1) := by decide +kernel
theorem dJ6_bitCount_0f7a4_9 : decode cJ6_bitCount_0f7a4 9 = .ok (.istore_n 0, 1) := by decide +kernel
theorem dJ6_bitCount_0f7a4_10 : decode cJ6_bitCount_0f7a4 10 = .ok (.iload_n 0, 1) := by decide +kernel
theorem dJ6_bitCount_0f7a4_11 : decode cJ6_bitCount_0f7a4 11 = .ok (.ldc_w 266, 3) := by decide +kernel
theorem dJ6_bitCount_0f7a4_14 : decode cJ6_bitCount_0f7a4 14 = .ok (.iand, 1) := by decide +kernel
theorem dJ6_bitCount_0f7a4_15 : decode cJ6_bitCount_0f7a4 15 = .ok (.iload_n 0, 1) := by decide +kernel
theorem dJ6_bitCount_0f7a4_16 : decode cJ6_bitCount_0f7a4 16 = .ok (.iconst 2, 1) := by decide +kernel
theorem dJ6_bitCount_0f7a4_17 : decode cJ6_bitCount_0f7a4 17 = .ok (.iushr, 1) := by decide +kernel
theorem dJ6_bitCount_0f7a4_18 : decode cJ6_bitCount_0f7a4 18 = .ok (.ldc_w 266, 3) := by decide +kernel
theorem dJ6_bitCount_0f7a4_21 : decode cJ6_bitCount_0f7a4 21 = .ok (.iand, 1) := by decide +kernel
theorem dJ6_bitCount_0f7a4_22 : decode cJ6_bitCount_0f7a4 22 = .ok (.iadd, 1) := by decide +kernel
theorem dJ6_bitCount_0f7a4_23 : decode cJ6_bitCount_0f7a4 23 = .ok (.istore_n 0, 1) := by decide +kernel
theorem dJ6_bitCount_0f7a4_24 : decode cJ6_bitCount_0f7a4 24 = .ok (.iload_n 0, 1) := by decide +kernel
theorem dJ6_bitCount_0f7a4_25 : decode cJ6_bitCount_0f7a4 25 = .ok (.iload_n 0, 1) := by decide +kernel
theorem dJ6_bitCount_0f7a4_26 : decode cJ6_bitCount_0f7a4 26 = .ok (.iconst 4, 1) := by decide +kernel
theorem dJ6_bitCount_0f7a4_27 : decode cJ6_bitCount_0f7a4 27 = .ok (.iushr, 1) := by decide +kernel
theorem dJ6_bitCount_0f7a4_28 : decode cJ6_bitCount_0f7a4 28 = .ok (.iadd, 1) := by decide +kernel
theorem dJ6_bitCount_0f7a4_29 : decode cJ6_bitCount_0f7a4 29 = .ok (.ldc_w 267, 3) := by decide +kernel
theorem dJ6_bitCount_0f7a4_32 : decode cJ6_bitCount_0f7a4 32 = .ok (.iand, 1) := by decide +kernel
theorem dJ6_bitCount_0f7a4_33 : decode cJ6_bitCount_0f7a4 33 = .ok (.istore_n 0, 1) := by decide +kernel
theorem dJ6_bitCount_0f7a4_34 : decode cJ6_bitCount_0f7a4 34 = .ok (.iload_n 0, 1) := by decide +kernel
theorem dJ6_bitCount_0f7a4_35 : decode cJ6_bitCount_0f7a4 35 = .ok (.iload_n 0, 1) := by decide +kernel
theorem dJ6_bitCount_0f7a4_36 : decode cJ6_bitCount_0f7a4 36 = .ok (.bipush 8, 2) := by decide +kernel
theorem dJ6_bitCount_0f7a4_38 : decode cJ6_bitCount_0f7a4 38 = .ok (.iushr, 1) := by decide +kernel
theorem dJ6_bitCount_0f7a4_39 : decode cJ6_bitCount_0f7a4 39 = .ok (.iadd, 1) := by decide +kernel
theorem dJ6_bitCount_0f7a4_40 : decode cJ6_bitCount_0f7a4 40 = .ok (.istore_n 0, 1) := by decide +kernel
theorem dJ6_bitCount_0f7a4_41 : decode cJ6_bitCount_0f7a4 41 = .ok (.iload_n 0, 1) := by decide +kernel
theorem dJ6_bitCount_0f7a4_42 : decode cJ6_bitCount_0f7a4 42 = .ok (.iload_n 0, 1) := by decide +kernel
theorem dJ6_bitCount_0f7a4_43 : decode cJ6_bitCount_0f7a4 43 = .ok (.bipush 16, 2) := by decide +kernel
theorem dJ6_bitCount_0f7a4_45 : decode cJ6_bitCount_0f7a4 45 = .ok (.iushr, 1) := by decide +kernel
theorem dJ6_bitCount_0f7a4_46 : decode cJ6_bitCount_0f7a4 46 = .ok (.iadd, 1) := by decide +kernel
theorem dJ6_bitCount_0f7a4_47 : decode cJ6_bitCount_0f7a4 47 = .ok (.istore_n 0, 1) := by decide +kernel
theorem dJ6_bitCount_0f7a4_48 : decode cJ6_bitCount_0f7a4 48 = .ok (.iload_n 0, 1) := by decide +kernel
theorem dJ6_bitCount_0f7a4_49 : decode cJ6_bitCount_0f7a4 49 = .ok (.bipush 63, 2) := by decide +kernel
theorem dJ6_bitCount_0f7a4_51 : decode cJ6_bitCount_0f7a4 51 = .ok (.iand, 1) := by decide +kernel
theorem dJ6_bitCount_0f7a4_52 : decode cJ6_bitCount_0f7a4 52 = .ok (.ireturn, 1) := by decide +kernel
theorem dJ9_abs_0f7a4_0 : decode cJ9_abs_0f7a4 0 = .ok (.iload_n 0, 1) := by decide +kernel
theorem dJ9_abs_0f7a4_1 : decode cJ9_abs_0f7a4 1 = .ok (.ifCond .ge 8, 3) := by decide +kernel
theorem dJ9_abs_0f7a4_4 : decode cJ9_abs_0f7a4 4 = .ok (.iload_n 0, 1) := by decide +kernel
theorem dJ9_abs_0f7a4_5 : decode cJ9_abs_0f7a4 5 = .ok (.ineg, 1) := by decide +kernel
theorem dJ9_abs_0f7a4_6 : decode cJ9_abs_0f7a4 6 = .ok (.goto 4, 3) := by decide +kernel
theorem dJ9_abs_0f7a4_9 : decode cJ9_abs_0f7a4 9 = .ok (.iload_n 0, 1) := by decide +kernel
theorem dJ9_abs_0f7a4_10 : decode cJ9_abs_0f7a4 10 = .ok (.ireturn, 1) := by decide +kernel
theorem dJ9_max_7cf53_0 : decode cJ9_max_7cf53 0 = .ok (.iload_n 0, 1) := by decide +kernel
theorem dJ9_max_7cf53_1 : decode cJ9_max_7cf53 1 = .ok (.iload_n 1, 1) := by decide +kernel
theorem dJ9_max_7cf53_2 : decode cJ9_max_7cf53 2 = .ok (.if_icmp .lt 7, 3) := by decide +kernel
theorem dJ9_max_7cf53_5 : decode cJ9_max_7cf53 5 = .ok (.iload_n 0, 1) := by decide +kernel
theorem dJ9_max_7cf53_6 : decode cJ9_max_7cf53 6 = .ok (.goto 4, 3) := by decide +kernel
theorem dJ9_max_7cf53_9 : decode cJ9_max_7cf53 9 = .ok (.iload_n 1, 1) := by decide +kernel
theorem dJ9_max_7cf53_10 : decode cJ9_max_7cf53 10 = .ok (.ireturn, 1) := by decide +kernel
theorem dJ9_min_7cf53_0 : decode cJ9_min_7cf53 0 = .ok (.iload_n 0, 1) := by decide +kernel
theorem dJ9_min_7cf53_1 : decode cJ9_min_7cf53 1 = .ok (.iload_n 1, 1) := by decide +kernel
theorem dJ9_min_7cf53_2 : decode cJ9_min_7cf53 2 = .ok (.if_icmp .gt 7, 3) := by decide +kernel
theorem dJ9_min_7cf53_5 : decode cJ9_min_7cf53 5 = .ok (.iload_n 0, 1) := by decide +kernel
theorem dJ9_min_7cf53_6 : decode cJ9_min_7cf53 6 = .ok (.goto 4, 3) := by decide +kernel
theorem dJ9_min_7cf53_9 : decode cJ9_min_7cf53 9 = .ok (.iload_n 1, 1) := by decide +kernel
theorem dJ9_min_7cf53_10 : decode cJ9_min_7cf53 10 = .ok (.ireturn, 1) := by decide +kernel
end
section
/-! PART 01.w: the words of the tables that every method stands on -/
def wsU : List Cond := lw_tbl.filter goodWord
theorem wsU_in : ∀ q ∈ wsU, q ∈ lw_tbl := fun _ h => (List.mem_filter.mp h).1
theorem wsU_good : ∀ q ∈ wsU, goodWord q = true := fun _ h => (List.mem_filter.mp h).2
theorem wU_of (i : Nat) {c : Cond} (h : lw_tbl[i]? = some c) (hg : goodWord c = true) : c ∈ wsU := List.mem_filter.mpr ⟨List.mem_of_getElem? h, hg⟩
theorem wU_good {ws : List Cond} (h : GoodIn lw_tbl ws) (hg : ws.all goodWord = true) : ∀ q ∈ ws, q ∈ wsU := fun q hq => List.mem_filter.mpr ⟨(h q hq).1, List.all_eq_true.mp hg q hq⟩
theorem wU_call {c : Cond} (h : c ∈ wsU) : GoodIn wsU (c :: wsU) := fun q hq => by
  rcases List.mem_cons.mp hq with rfl | hq
  · exact ⟨h, good_of_word (wsU_good _ h)⟩
  · exact ⟨hq, good_of_word (wsU_good _ hq)⟩
def wVirt (y : MethodName) (cc : ByteArray) (nL : Nat) (ret : Option FieldType) (n : Nat) : Prop := Cond.instanceMethod y ∈ wsU ∧ Cond.selects y.cls y y ∈ wsU ∧ Cond.initialized y.cls ∈ wsU ∧ Cond.code y cc nL ret ∈ wsU ∧ y.cls ≠ "java/lang/invoke/MethodHandle" ∧ y.cls ≠ "java/lang/invoke/VarHandle" ∧ (parseMethodDescriptor y.desc).map (fun d => d.parameters.length) = some n
def wStat (y : MethodName) (cc : ByteArray) (nL : Nat) (ret : Option FieldType) (n : Nat) : Prop := Cond.static y ∈ wsU ∧ Cond.initialized y.cls ∈ wsU ∧ Cond.code y cc nL ret ∈ wsU ∧ y.cls ≠ "java/lang/invoke/MethodHandle" ∧ y.cls ≠ "java/lang/invoke/VarHandle" ∧ (parseMethodDescriptor y.desc).map (fun d => d.parameters.length) = some n
theorem uX_X0 : ∀ q ∈ u_ws RX0 TX0 5, q ∈ wsU := wU_good (goodIn_r _ [141, 143, 145, 147, 149] (by decide +kernel) (by decide +kernel)) (by decide +kernel)
theorem uX_X1 : ∀ q ∈ u_ws RX1 TX1 2, q ∈ wsU := wU_good (goodIn_r _ [171, 173] (by decide +kernel) (by decide +kernel)) (by decide +kernel)
theorem uX_X2 : ∀ q ∈ u_ws RX2 TX2 7, q ∈ wsU := wU_good (goodIn_r _ [190, 192, 194, 196, 198, 200, 202] (by decide +kernel) (by decide +kernel)) (by decide +kernel)
theorem uX_X3 : ∀ q ∈ u_ws RX3 TX3 8, q ∈ wsU := wU_good (goodIn_r _ [109, 111, 113, 115, 117, 119, 121, 123] (by decide +kernel) (by decide +kernel)) (by decide +kernel)
theorem uX_X4 : ∀ q ∈ u_ws RX4 TX4 2, q ∈ wsU := wU_good (goodIn_r _ [89, 91] (by decide +kernel) (by decide +kernel)) (by decide +kernel)
theorem uX_X5 : ∀ q ∈ u_ws RX5 TX5 8, q ∈ wsU := wU_good (goodIn_r _ [215, 217, 219, 221, 223, 225, 227, 229] (by decide +kernel) (by decide +kernel)) (by decide +kernel)
theorem uX_X6 : ∀ q ∈ u_ws RX6 TX6 23, q ∈ wsU := wU_good (goodIn_r _ [581, 583, 585, 587, 589, 591, 593, 595, 597, 599, 601, 603, 605, 607, 609, 611, 613, 615, 617, 619, 621, 623, 625] (by decide +kernel) (by decide +kernel)) (by decide +kernel)
theorem ui_RL : Cond.initialized RL ∈ wsU := wU_of 52 (by decide +kernel) rfl
theorem ui_RX5 : Cond.initialized RX5 ∈ wsU := wU_of 53 (by decide +kernel) rfl
theorem ui_RX3 : Cond.initialized RX3 ∈ wsU := wU_of 54 (by decide +kernel) rfl
theorem ui_RX4 : Cond.initialized RX4 ∈ wsU := wU_of 55 (by decide +kernel) rfl
theorem ui_RX0 : Cond.initialized RX0 ∈ wsU := wU_of 56 (by decide +kernel) rfl
theorem ui_RX2 : Cond.initialized RX2 ∈ wsU := wU_of 57 (by decide +kernel) rfl
theorem ui_RX1 : Cond.initialized RX1 ∈ wsU := wU_of 58 (by decide +kernel) rfl
theorem ui_RX6 : Cond.initialized RX6 ∈ wsU := wU_of 59 (by decide +kernel) rfl
theorem ui_RJ6 : Cond.initialized RJ6 ∈ wsU := wU_of 60 (by decide +kernel) rfl
theorem ui_RJ9 : Cond.initialized RJ9 ∈ wsU := wU_of 61 (by decide +kernel) rfl
theorem ul_RL_9 : Cond.methodLink RL 9 yX5_init ∈ wsU := wU_of 64 (by decide +kernel) rfl
theorem uf_RX4_9 : Cond.fieldLink RX4 9 "PlateRoom$Years" "first" "I" ∈ wsU := wU_of 85 (by decide +kernel) rfl
theorem uf_RX4_15 : Cond.fieldLink RX4 15 "PlateRoom$Years" "last" "I" ∈ wsU := wU_of 87 (by decide +kernel) rfl
theorem uf_RX3_9 : Cond.fieldLink RX3 9 "PlateRoom$Plate" "cut" "I" ∈ wsU := wU_of 95 (by decide +kernel) rfl
theorem uf_RX3_15 : Cond.fieldLink RX3 15 "PlateRoom$Plate" "rub" "I" ∈ wsU := wU_of 97 (by decide +kernel) rfl
theorem uf_RX3_18 : Cond.fieldLink RX3 18 "PlateRoom$Plate" "again" "I" ∈ wsU := wU_of 99 (by decide +kernel) rfl
theorem uf_RX3_21 : Cond.fieldLink RX3 21 "PlateRoom$Plate" "lines" "[I" ∈ wsU := wU_of 101 (by decide +kernel) rfl
theorem uf_RX3_27 : Cond.fieldLink RX3 27 "PlateRoom$Plate" "years" "[LPlateRoom$Years;" ∈ wsU := wU_of 103 (by decide +kernel) rfl
theorem uf_RX3_31 : Cond.fieldLink RX3 31 "PlateRoom$Plate" "stateCount" "I" ∈ wsU := wU_of 105 (by decide +kernel) rfl
theorem uf_RX3_34 : Cond.fieldLink RX3 34 "PlateRoom$Plate" "read" "[I" ∈ wsU := wU_of 107 (by decide +kernel) rfl
theorem uf_RX3_39 : Cond.fieldLink RX3 39 "PlateRoom$Plate" "toCome" "[[I" ∈ wsU := wU_of 108 (by decide +kernel) rfl
theorem uf_RX0_9 : Cond.fieldLink RX0 9 "PlateRoom$Copies" "loss" "I" ∈ wsU := wU_of 132 (by decide +kernel) rfl
theorem uf_RX0_15 : Cond.fieldLink RX0 15 "PlateRoom$Copies" "alone" "I" ∈ wsU := wU_of 134 (by decide +kernel) rfl
theorem uf_RX0_18 : Cond.fieldLink RX0 18 "PlateRoom$Copies" "years" "[I" ∈ wsU := wU_of 136 (by decide +kernel) rfl
theorem uf_RX0_22 : Cond.fieldLink RX0 22 "PlateRoom$Copies" "errors" "[I" ∈ wsU := wU_of 137 (by decide +kernel) rfl
theorem uf_RX0_25 : Cond.fieldLink RX0 25 "PlateRoom$Copies" "mapCount" "I" ∈ wsU := wU_of 139 (by decide +kernel) rfl
theorem uf_RX1_11 : Cond.fieldLink RX1 11 "PlateRoom$Holes" "places" "[I" ∈ wsU := wU_of 168 (by decide +kernel) rfl
theorem uf_RX1_15 : Cond.fieldLink RX1 15 "PlateRoom$Holes" "placeCount" "I" ∈ wsU := wU_of 169 (by decide +kernel) rfl
theorem uf_RX2_9 : Cond.fieldLink RX2 9 "PlateRoom$Leaf" "there" "I" ∈ wsU := wU_of 176 (by decide +kernel) rfl
theorem uf_RX2_15 : Cond.fieldLink RX2 15 "PlateRoom$Leaf" "gone" "I" ∈ wsU := wU_of 178 (by decide +kernel) rfl
theorem uf_RX2_18 : Cond.fieldLink RX2 18 "PlateRoom$Leaf" "worth" "I" ∈ wsU := wU_of 180 (by decide +kernel) rfl
theorem uf_RX2_21 : Cond.fieldLink RX2 21 "PlateRoom$Leaf" "colour" "I" ∈ wsU := wU_of 182 (by decide +kernel) rfl
theorem uf_RX2_24 : Cond.fieldLink RX2 24 "PlateRoom$Leaf" "mould" "I" ∈ wsU := wU_of 184 (by decide +kernel) rfl
theorem uf_RX2_27 : Cond.fieldLink RX2 27 "PlateRoom$Leaf" "imprint" "I" ∈ wsU := wU_of 186 (by decide +kernel) rfl
theorem uf_RX2_33 : Cond.fieldLink RX2 33 "PlateRoom$Leaf" "holes" "LPlateRoom$Holes;" ∈ wsU := wU_of 188 (by decide +kernel) rfl
theorem uf_RX5_10 : Cond.fieldLink RX5 10 "PlateRoom" "plate" "LPlateRoom$Plate;" ∈ wsU := wU_of 207 (by decide +kernel) rfl
theorem uf_RX5_19 : Cond.fieldLink RX5 19 "PlateRoom" "copies" "LPlateRoom$Copies;" ∈ wsU := wU_of 208 (by decide +kernel) rfl
theorem uf_RX5_25 : Cond.fieldLink RX5 25 "PlateRoom" "leaves" "[LPlateRoom$Leaf;" ∈ wsU := wU_of 209 (by decide +kernel) rfl
theorem uf_RX5_29 : Cond.fieldLink RX5 29 "PlateRoom" "leafCount" "I" ∈ wsU := wU_of 210 (by decide +kernel) rfl
theorem uf_RX5_35 : Cond.fieldLink RX5 35 "PlateRoom" "moulds" "[LPlateRoom$Years;" ∈ wsU := wU_of 211 (by decide +kernel) rfl
theorem uf_RX5_39 : Cond.fieldLink RX5 39 "PlateRoom" "mouldCount" "I" ∈ wsU := wU_of 212 (by decide +kernel) rfl
theorem uf_RX5_44 : Cond.fieldLink RX5 44 "PlateRoom" "books" "[LPlateRoom$Holes;" ∈ wsU := wU_of 213 (by decide +kernel) rfl
theorem uf_RX5_48 : Cond.fieldLink RX5 48 "PlateRoom" "pricesAsked" "J" ∈ wsU := wU_of 214 (by decide +kernel) rfl
theorem ul_RL_13 : Cond.methodLink RL 13 yX5_state ∈ wsU := wU_of 232 (by decide +kernel) rfl
theorem ul_RX5_55 : Cond.methodLink RX5 55 yX5_areLines ∈ wsU := wU_of 236 (by decide +kernel) rfl
theorem ul_RX5_59 : Cond.methodLink RX5 59 yX5_areYears ∈ wsU := wU_of 239 (by decide +kernel) rfl
theorem ul_RX5_136 : Cond.methodLink RX5 136 yX5_isYear ∈ wsU := wU_of 242 (by decide +kernel) rfl
theorem ul_RL_18 : Cond.methodLink RL 18 yX5_about ∈ wsU := wU_of 253 (by decide +kernel) rfl
theorem ul_RL_23 : Cond.methodLink RL 23 yX5_set ∈ wsU := wU_of 261 (by decide +kernel) rfl
theorem ul_RX5_83 : Cond.methodLink RX5 83 yX5_mostOfCharge ∈ wsU := wU_of 265 (by decide +kernel) rfl
theorem ul_RX5_87 : Cond.methodLink RX5 87 yX5_chargeOf ∈ wsU := wU_of 268 (by decide +kernel) rfl
theorem ul_RX5_90 : Cond.methodLink RX5 90 yX5_putCharge ∈ wsU := wU_of 272 (by decide +kernel) rfl
theorem ul_RL_27 : Cond.methodLink RL 27 yX5_quarrel ∈ wsU := wU_of 276 (by decide +kernel) rfl
theorem ul_RX3_47 : Cond.methodLink RX3 47 yX3_readOrder ∈ wsU := wU_of 284 (by decide +kernel) rfl
theorem ul_RX3_55 : Cond.methodLink RX3 55 yX3_hasState ∈ wsU := wU_of 288 (by decide +kernel) rfl
theorem ul_RX3_51 : Cond.methodLink RX3 51 yX3_stepQuarrel ∈ wsU := wU_of 292 (by decide +kernel) rfl
theorem ul_RX3_62 : Cond.methodLink RX3 62 yJ6_bitCount_0f7a4 ∈ wsU := wU_of 296 (by decide +kernel) rfl
theorem ul_RL_32 : Cond.methodLink RL 32 yX5_best ∈ wsU := wU_of 302 (by decide +kernel) rfl
theorem ul_RX5_97 : Cond.methodLink RX5 97 yX5_isFirstOrSecond ∈ wsU := wU_of 306 (by decide +kernel) rfl
theorem ul_RX3_68 : Cond.methodLink RX3 68 yX3_weighWhatIsToCome ∈ wsU := wU_of 313 (by decide +kernel) rfl
theorem ul_RX3_71 : Cond.methodLink RX3 71 yX3_bestNext ∈ wsU := wU_of 317 (by decide +kernel) rfl
theorem ul_RX3_75 : Cond.methodLink RX3 75 yX3_quarrelBy ∈ wsU := wU_of 321 (by decide +kernel) rfl
theorem ul_RX3_78 : Cond.methodLink RX3 78 yX3_linesOf ∈ wsU := wU_of 325 (by decide +kernel) rfl
theorem ul_RL_36 : Cond.methodLink RL 36 yX5_leaf ∈ wsU := wU_of 329 (by decide +kernel) rfl
theorem ul_RL_41 : Cond.methodLink RL 41 yX5_see ∈ wsU := wU_of 337 (by decide +kernel) rfl
theorem ul_RX5_111 : Cond.methodLink RX5 111 yX5_isLeaf ∈ wsU := wU_of 341 (by decide +kernel) rfl
theorem ul_RX5_114 : Cond.methodLink RX5 114 yX5_isLine ∈ wsU := wU_of 345 (by decide +kernel) rfl
theorem ul_RL_45 : Cond.methodLink RL 45 yX5_candidates ∈ wsU := wU_of 357 (by decide +kernel) rfl
theorem ul_RX5_123 : Cond.methodLink RX5 123 yX5_candidatesOf ∈ wsU := wU_of 361 (by decide +kernel) rfl
theorem ul_RL_49 : Cond.methodLink RL 49 yX5_mould ∈ wsU := wU_of 369 (by decide +kernel) rfl
theorem ul_RL_53 : Cond.methodLink RL 53 yX5_paper ∈ wsU := wU_of 374 (by decide +kernel) rfl
theorem ul_RX5_130 : Cond.methodLink RX5 130 yX5_isMould ∈ wsU := wU_of 378 (by decide +kernel) rfl
theorem ul_RL_57 : Cond.methodLink RL 57 yX5_imprint ∈ wsU := wU_of 382 (by decide +kernel) rfl
theorem ul_RL_61 : Cond.methodLink RL 61 yX5_span ∈ wsU := wU_of 386 (by decide +kernel) rfl
theorem ul_RX5_142 : Cond.methodLink RX5 142 yX5_earliestByPaper ∈ wsU := wU_of 390 (by decide +kernel) rfl
theorem ul_RX5_148 : Cond.methodLink RX5 148 yJ9_max_7cf53 ∈ wsU := wU_of 394 (by decide +kernel) rfl
theorem ul_RX5_145 : Cond.methodLink RX5 145 yX5_latestByPaper ∈ wsU := wU_of 397 (by decide +kernel) rfl
theorem ul_RX5_154 : Cond.methodLink RX5 154 yJ9_min_7cf53 ∈ wsU := wU_of 401 (by decide +kernel) rfl
theorem ul_RX5_157 : Cond.methodLink RX5 157 yX5_has ∈ wsU := wU_of 404 (by decide +kernel) rfl
theorem ul_RL_65 : Cond.methodLink RL 65 yX5_price ∈ wsU := wU_of 405 (by decide +kernel) rfl
theorem ul_RX5_160 : Cond.methodLink RX5 160 yX5_plainPrice ∈ wsU := wU_of 409 (by decide +kernel) rfl
theorem ul_RX5_253 : Cond.methodLink RX5 253 yJ6_bitCount_0f7a4 ∈ wsU := wU_of 413 (by decide +kernel) rfl
theorem ul_RX5_163 : Cond.methodLink RX5 163 yX5_colouredPrice ∈ wsU := wU_of 414 (by decide +kernel) rfl
theorem ul_RX5_166 : Cond.methodLink RX5 166 yX5_wormPrice ∈ wsU := wU_of 419 (by decide +kernel) rfl
theorem ul_RL_69 : Cond.methodLink RL 69 yX5_map ∈ wsU := wU_of 424 (by decide +kernel) rfl
theorem ul_RL_73 : Cond.methodLink RL 73 yX5_cost ∈ wsU := wU_of 432 (by decide +kernel) rfl
theorem ul_RX0_28 : Cond.methodLink RX0 28 yX0_hasMap ∈ wsU := wU_of 440 (by decide +kernel) rfl
theorem ul_RX0_32 : Cond.methodLink RX0 32 yJ6_bitCount_0f7a4 ∈ wsU := wU_of 448 (by decide +kernel) rfl
theorem ul_RL_77 : Cond.methodLink RL 77 yX5_from ∈ wsU := wU_of 449 (by decide +kernel) rfl
theorem ul_RX0_38 : Cond.methodLink RX0 38 yX0_costOf ∈ wsU := wU_of 458 (by decide +kernel) rfl
theorem ul_RX0_42 : Cond.methodLink RX0 42 yX0_mayComeFrom ∈ wsU := wU_of 459 (by decide +kernel) rfl
theorem ul_RL_81 : Cond.methodLink RL 81 yX5_rivals ∈ wsU := wU_of 460 (by decide +kernel) rfl
theorem ul_RX0_46 : Cond.methodLink RX0 46 yX0_cheapest ∈ wsU := wU_of 468 (by decide +kernel) rfl
theorem ul_RL_85 : Cond.methodLink RL 85 yX5_life ∈ wsU := wU_of 469 (by decide +kernel) rfl
theorem ul_RX0_49 : Cond.methodLink RX0 49 yX0_hasItFrom ∈ wsU := wU_of 477 (by decide +kernel) rfl
theorem ul_RL_89 : Cond.methodLink RL 89 yX5_hole ∈ wsU := wU_of 482 (by decide +kernel) rfl
theorem ul_RX1_19 : Cond.methodLink RX1 19 yX1_isWithin ∈ wsU := wU_of 493 (by decide +kernel) rfl
theorem ul_RX1_23 : Cond.methodLink RX1 23 yJ9_abs_0f7a4 ∈ wsU := wU_of 497 (by decide +kernel) rfl
theorem ul_RX5_203 : Cond.methodLink RX5 203 yX5_isBook ∈ wsU := wU_of 500 (by decide +kernel) rfl
theorem ul_RL_93 : Cond.methodLink RL 93 yX5_fits ∈ wsU := wU_of 503 (by decide +kernel) rfl
theorem ul_RL_97 : Cond.methodLink RL 97 yX5_shift ∈ wsU := wU_of 514 (by decide +kernel) rfl
theorem ul_RX1_33 : Cond.methodLink RX1 33 yX1_fitting ∈ wsU := wU_of 522 (by decide +kernel) rfl
theorem ul_RL_101 : Cond.methodLink RL 101 yX5_home ∈ wsU := wU_of 523 (by decide +kernel) rfl
theorem ul_RX5_217 : Cond.methodLink RX5 217 yX5_homeOf ∈ wsU := wU_of 527 (by decide +kernel) rfl
theorem ul_RX1_29 : Cond.methodLink RX1 29 yX1_bestShift ∈ wsU := wU_of 535 (by decide +kernel) rfl
theorem ul_RX5_220 : Cond.methodLink RX5 220 yX5_othersByChance ∈ wsU := wU_of 536 (by decide +kernel) rfl
theorem ul_RL_105 : Cond.methodLink RL 105 yX5_count ∈ wsU := wU_of 540 (by decide +kernel) rfl
theorem ul_RX5_226 : Cond.methodLink RX5 226 yX5_leavesWithCandidates ∈ wsU := wU_of 544 (by decide +kernel) rfl
theorem ul_RL_109 : Cond.methodLink RL 109 yX5_trace ∈ wsU := wU_of 548 (by decide +kernel) rfl
theorem ul_RL_12 : Cond.methodLink RL 12 yX6_init ∈ wsU := wU_of 554 (by decide +kernel) rfl
theorem uf_RX6_61 : Cond.fieldLink RX6 61 "PlateRoomModel" "thrown" "I" ∈ wsU := wU_of 558 (by decide +kernel) rfl
theorem uf_RX6_100 : Cond.fieldLink RX6 100 "PlateRoomModel" "trace" "J" ∈ wsU := wU_of 559 (by decide +kernel) rfl
theorem uf_RX6_73 : Cond.fieldLink RX6 73 "PlateRoomModel" "states" "I" ∈ wsU := wU_of 560 (by decide +kernel) rfl
theorem uf_RX6_7 : Cond.fieldLink RX6 7 "PlateRoomModel" "lines" "[I" ∈ wsU := wU_of 561 (by decide +kernel) rfl
theorem uf_RX6_13 : Cond.fieldLink RX6 13 "PlateRoomModel" "from" "[I" ∈ wsU := wU_of 562 (by decide +kernel) rfl
theorem uf_RX6_16 : Cond.fieldLink RX6 16 "PlateRoomModel" "to" "[I" ∈ wsU := wU_of 563 (by decide +kernel) rfl
theorem uf_RX6_19 : Cond.fieldLink RX6 19 "PlateRoomModel" "rules" "[I" ∈ wsU := wU_of 564 (by decide +kernel) rfl
theorem uf_RX6_88 : Cond.fieldLink RX6 88 "PlateRoomModel" "leaves" "I" ∈ wsU := wU_of 565 (by decide +kernel) rfl
theorem uf_RX6_22 : Cond.fieldLink RX6 22 "PlateRoomModel" "there" "[I" ∈ wsU := wU_of 566 (by decide +kernel) rfl
theorem uf_RX6_25 : Cond.fieldLink RX6 25 "PlateRoomModel" "gone" "[I" ∈ wsU := wU_of 567 (by decide +kernel) rfl
theorem uf_RX6_28 : Cond.fieldLink RX6 28 "PlateRoomModel" "worth" "[I" ∈ wsU := wU_of 568 (by decide +kernel) rfl
theorem uf_RX6_31 : Cond.fieldLink RX6 31 "PlateRoomModel" "colour" "[I" ∈ wsU := wU_of 569 (by decide +kernel) rfl
theorem uf_RX6_34 : Cond.fieldLink RX6 34 "PlateRoomModel" "paper" "[I" ∈ wsU := wU_of 570 (by decide +kernel) rfl
theorem uf_RX6_37 : Cond.fieldLink RX6 37 "PlateRoomModel" "imprint" "[I" ∈ wsU := wU_of 571 (by decide +kernel) rfl
theorem uf_RX6_97 : Cond.fieldLink RX6 97 "PlateRoomModel" "moulds" "I" ∈ wsU := wU_of 572 (by decide +kernel) rfl
theorem uf_RX6_40 : Cond.fieldLink RX6 40 "PlateRoomModel" "mouldFrom" "[I" ∈ wsU := wU_of 573 (by decide +kernel) rfl
theorem uf_RX6_43 : Cond.fieldLink RX6 43 "PlateRoomModel" "mouldTo" "[I" ∈ wsU := wU_of 574 (by decide +kernel) rfl
theorem uf_RX6_108 : Cond.fieldLink RX6 108 "PlateRoomModel" "maps" "I" ∈ wsU := wU_of 575 (by decide +kernel) rfl
theorem uf_RX6_46 : Cond.fieldLink RX6 46 "PlateRoomModel" "year" "[I" ∈ wsU := wU_of 576 (by decide +kernel) rfl
theorem uf_RX6_49 : Cond.fieldLink RX6 49 "PlateRoomModel" "errors" "[I" ∈ wsU := wU_of 577 (by decide +kernel) rfl
theorem uf_RX6_52 : Cond.fieldLink RX6 52 "PlateRoomModel" "holeMany" "[I" ∈ wsU := wU_of 578 (by decide +kernel) rfl
theorem uf_RX6_55 : Cond.fieldLink RX6 55 "PlateRoomModel" "hole" "[I" ∈ wsU := wU_of 579 (by decide +kernel) rfl
theorem uf_RX6_58 : Cond.fieldLink RX6 58 "PlateRoomModel" "digit" "[I" ∈ wsU := wU_of 580 (by decide +kernel) rfl
theorem ul_RL_17 : Cond.methodLink RL 17 yX6_state ∈ wsU := wU_of 628 (by decide +kernel) rfl
theorem ul_RX6_65 : Cond.methodLink RX6 65 yX6_in ∈ wsU := wU_of 632 (by decide +kernel) rfl
theorem ul_RX6_69 : Cond.methodLink RX6 69 yX6_isYears ∈ wsU := wU_of 635 (by decide +kernel) rfl
theorem ul_RL_22 : Cond.methodLink RL 22 yX6_about ∈ wsU := wU_of 638 (by decide +kernel) rfl
theorem ul_RL_26 : Cond.methodLink RL 26 yX6_set ∈ wsU := wU_of 642 (by decide +kernel) rfl
theorem ul_RL_31 : Cond.methodLink RL 31 yX6_quarrel ∈ wsU := wU_of 646 (by decide +kernel) rfl
theorem ul_RX6_80 : Cond.methodLink RX6 80 yX6_isOrder ∈ wsU := wU_of 650 (by decide +kernel) rfl
theorem ul_RX6_84 : Cond.methodLink RX6 84 yX6_quarrelOf ∈ wsU := wU_of 654 (by decide +kernel) rfl
theorem ul_RX6_76 : Cond.methodLink RX6 76 yX6_bits ∈ wsU := wU_of 658 (by decide +kernel) rfl
theorem ul_RL_35 : Cond.methodLink RL 35 yX6_best ∈ wsU := wU_of 661 (by decide +kernel) rfl
theorem ul_RL_40 : Cond.methodLink RL 40 yX6_leaf ∈ wsU := wU_of 665 (by decide +kernel) rfl
theorem ul_RL_44 : Cond.methodLink RL 44 yX6_see ∈ wsU := wU_of 669 (by decide +kernel) rfl
theorem ul_RX6_91 : Cond.methodLink RX6 91 yX6_isLeaf ∈ wsU := wU_of 673 (by decide +kernel) rfl
theorem ul_RL_48 : Cond.methodLink RL 48 yX6_candidates ∈ wsU := wU_of 677 (by decide +kernel) rfl
theorem ul_RX6_94 : Cond.methodLink RX6 94 yX6_candidatesOf ∈ wsU := wU_of 681 (by decide +kernel) rfl
theorem ul_RL_52 : Cond.methodLink RL 52 yX6_mould ∈ wsU := wU_of 685 (by decide +kernel) rfl
theorem ul_RL_56 : Cond.methodLink RL 56 yX6_paper ∈ wsU := wU_of 689 (by decide +kernel) rfl
theorem ul_RL_60 : Cond.methodLink RL 60 yX6_imprint ∈ wsU := wU_of 693 (by decide +kernel) rfl
theorem ul_RL_64 : Cond.methodLink RL 64 yX6_span ∈ wsU := wU_of 697 (by decide +kernel) rfl
theorem ul_RL_68 : Cond.methodLink RL 68 yX6_price ∈ wsU := wU_of 701 (by decide +kernel) rfl
theorem ul_RL_72 : Cond.methodLink RL 72 yX6_map ∈ wsU := wU_of 707 (by decide +kernel) rfl
theorem ul_RL_76 : Cond.methodLink RL 76 yX6_cost ∈ wsU := wU_of 711 (by decide +kernel) rfl
theorem ul_RX6_111 : Cond.methodLink RX6 111 yX6_isMap ∈ wsU := wU_of 715 (by decide +kernel) rfl
theorem ul_RX6_114 : Cond.methodLink RX6 114 yX6_isFrom ∈ wsU := wU_of 719 (by decide +kernel) rfl
theorem ul_RX6_117 : Cond.methodLink RX6 117 yX6_costOf ∈ wsU := wU_of 723 (by decide +kernel) rfl
theorem ul_RL_80 : Cond.methodLink RL 80 yX6_from ∈ wsU := wU_of 727 (by decide +kernel) rfl
theorem ul_RX6_121 : Cond.methodLink RX6 121 yX6_fromOf ∈ wsU := wU_of 731 (by decide +kernel) rfl
theorem ul_RL_84 : Cond.methodLink RL 84 yX6_rivals ∈ wsU := wU_of 735 (by decide +kernel) rfl
theorem ul_RL_88 : Cond.methodLink RL 88 yX6_life ∈ wsU := wU_of 739 (by decide +kernel) rfl
theorem ul_RL_92 : Cond.methodLink RL 92 yX6_hole ∈ wsU := wU_of 743 (by decide +kernel) rfl
theorem ul_RL_96 : Cond.methodLink RL 96 yX6_fits ∈ wsU := wU_of 747 (by decide +kernel) rfl
theorem ul_RX6_124 : Cond.methodLink RX6 124 yX6_isBook ∈ wsU := wU_of 751 (by decide +kernel) rfl
theorem ul_RX6_127 : Cond.methodLink RX6 127 yX6_fitsOf ∈ wsU := wU_of 754 (by decide +kernel) rfl
theorem ul_RL_100 : Cond.methodLink RL 100 yX6_shift ∈ wsU := wU_of 758 (by decide +kernel) rfl
theorem ul_RX6_131 : Cond.methodLink RX6 131 yX6_shiftOf ∈ wsU := wU_of 762 (by decide +kernel) rfl
theorem ul_RL_104 : Cond.methodLink RL 104 yX6_home ∈ wsU := wU_of 766 (by decide +kernel) rfl
theorem ul_RX6_134 : Cond.methodLink RX6 134 yX6_most ∈ wsU := wU_of 770 (by decide +kernel) rfl
theorem ul_RL_108 : Cond.methodLink RL 108 yX6_count ∈ wsU := wU_of 774 (by decide +kernel) rfl
theorem ul_RL_113 : Cond.methodLink RL 113 yX6_trace ∈ wsU := wU_of 778 (by decide +kernel) rfl
theorem us_max : Cond.static Lib.Math.max.name ∈ wsU := wU_of 395 (by decide +kernel) rfl
theorem uc_max : Cond.code Lib.Math.max.name Lib.Math.max.code 2 (some .int) ∈ wsU := wU_of 396 (by decide +kernel) rfl
theorem us_min : Cond.static Lib.Math.min.name ∈ wsU := wU_of 402 (by decide +kernel) rfl
theorem uc_min : Cond.code Lib.Math.min.name Lib.Math.min.code 2 (some .int) ∈ wsU := wU_of 403 (by decide +kernel) rfl
theorem us_abs : Cond.static Lib.Math.abs.name ∈ wsU := wU_of 498 (by decide +kernel) rfl
theorem uc_abs : Cond.code Lib.Math.abs.name Lib.Math.abs.code 1 (some .int) ∈ wsU := wU_of 499 (by decide +kernel) rfl
theorem ui_Math : Cond.initialized "java/lang/Math" ∈ wsU := wU_of 61 (by decide +kernel) rfl
theorem uk_RJ6_265 : Cond.constant RJ6 265 1431655765 ∈ wsU := wU_of 299 (by decide +kernel) rfl
theorem uk_RJ6_266 : Cond.constant RJ6 266 858993459 ∈ wsU := wU_of 300 (by decide +kernel) rfl
theorem uk_RJ6_267 : Cond.constant RJ6 267 252645135 ∈ wsU := wU_of 301 (by decide +kernel) rfl
theorem uk_RX5_261 : Cond.constantLong RX5 261 10 ∈ wsU := wU_of 418 (by decide +kernel) rfl
theorem uk_RX5_266 : Cond.constantLong RX5 266 100 ∈ wsU := wU_of 423 (by decide +kernel) rfl
theorem uk_RX6_104 : Cond.constantLong RX6 104 11 ∈ wsU := wU_of 705 (by decide +kernel) rfl
theorem uk_RX6_106 : Cond.constantLong RX6 106 111 ∈ wsU := wU_of 706 (by decide +kernel) rfl
theorem uv_X5_state : wVirt yX5_state cX5_state 4 (some .int) 3 := ⟨wU_of 233 (by decide +kernel) rfl, wU_of 234 (by decide +kernel) rfl, wU_of 53 (by decide +kernel) rfl, wU_of 235 (by decide +kernel) rfl, by decide +kernel, by decide +kernel, by decide +kernel⟩
theorem us_X5_areLines : wStat yX5_areLines cX5_areLines 1 (some .boolean) 1 := ⟨wU_of 237 (by decide +kernel) rfl, wU_of 53 (by decide +kernel) rfl, wU_of 238 (by decide +kernel) rfl, by decide +kernel, by decide +kernel, by decide +kernel⟩
theorem us_X5_areYears : wStat yX5_areYears cX5_areYears 2 (some .boolean) 2 := ⟨wU_of 240 (by decide +kernel) rfl, wU_of 53 (by decide +kernel) rfl, wU_of 241 (by decide +kernel) rfl, by decide +kernel, by decide +kernel, by decide +kernel⟩
theorem us_X5_isYear : wStat yX5_isYear cX5_isYear 1 (some .boolean) 1 := ⟨wU_of 243 (by decide +kernel) rfl, wU_of 53 (by decide +kernel) rfl, wU_of 244 (by decide +kernel) rfl, by decide +kernel, by decide +kernel, by decide +kernel⟩
theorem uv_X3_addState : wVirt yX3_addState cX3_addState 4 (some .int) 3 := ⟨wU_of 247 (by decide +kernel) rfl, wU_of 0 (by decide +kernel) rfl, wU_of 54 (by decide +kernel) rfl, wU_of 248 (by decide +kernel) rfl, by decide +kernel, by decide +kernel, by decide +kernel⟩
theorem uv_X4_put : wVirt yX4_put cX4_put 3 none 2 := ⟨wU_of 251 (by decide +kernel) rfl, wU_of 1 (by decide +kernel) rfl, wU_of 55 (by decide +kernel) rfl, wU_of 252 (by decide +kernel) rfl, by decide +kernel, by decide +kernel, by decide +kernel⟩
theorem uv_X5_about : wVirt yX5_about cX5_about 3 (some .int) 2 := ⟨wU_of 254 (by decide +kernel) rfl, wU_of 255 (by decide +kernel) rfl, wU_of 53 (by decide +kernel) rfl, wU_of 256 (by decide +kernel) rfl, by decide +kernel, by decide +kernel, by decide +kernel⟩
theorem uv_X3_hasState : wVirt yX3_hasState cX3_hasState 2 (some .boolean) 1 := ⟨wU_of 259 (by decide +kernel) rfl, wU_of 2 (by decide +kernel) rfl, wU_of 54 (by decide +kernel) rfl, wU_of 260 (by decide +kernel) rfl, by decide +kernel, by decide +kernel, by decide +kernel⟩
theorem uv_X5_set : wVirt yX5_set cX5_set 4 (some .int) 2 := ⟨wU_of 262 (by decide +kernel) rfl, wU_of 263 (by decide +kernel) rfl, wU_of 53 (by decide +kernel) rfl, wU_of 264 (by decide +kernel) rfl, by decide +kernel, by decide +kernel, by decide +kernel⟩
theorem us_X5_mostOfCharge : wStat yX5_mostOfCharge cX5_mostOfCharge 1 (some .int) 1 := ⟨wU_of 266 (by decide +kernel) rfl, wU_of 53 (by decide +kernel) rfl, wU_of 267 (by decide +kernel) rfl, by decide +kernel, by decide +kernel, by decide +kernel⟩
theorem uv_X5_chargeOf : wVirt yX5_chargeOf cX5_chargeOf 2 (some .int) 1 := ⟨wU_of 270 (by decide +kernel) rfl, wU_of 3 (by decide +kernel) rfl, wU_of 53 (by decide +kernel) rfl, wU_of 271 (by decide +kernel) rfl, by decide +kernel, by decide +kernel, by decide +kernel⟩
theorem uv_X5_putCharge : wVirt yX5_putCharge cX5_putCharge 3 none 2 := ⟨wU_of 274 (by decide +kernel) rfl, wU_of 4 (by decide +kernel) rfl, wU_of 53 (by decide +kernel) rfl, wU_of 275 (by decide +kernel) rfl, by decide +kernel, by decide +kernel, by decide +kernel⟩
theorem uv_X5_quarrel : wVirt yX5_quarrel cX5_quarrel 2 (some .int) 1 := ⟨wU_of 277 (by decide +kernel) rfl, wU_of 278 (by decide +kernel) rfl, wU_of 53 (by decide +kernel) rfl, wU_of 279 (by decide +kernel) rfl, by decide +kernel, by decide +kernel, by decide +kernel⟩
theorem uv_X3_quarrelOf : wVirt yX3_quarrelOf cX3_quarrelOf 5 (some .int) 1 := ⟨wU_of 282 (by decide +kernel) rfl, wU_of 5 (by decide +kernel) rfl, wU_of 54 (by decide +kernel) rfl, wU_of 283 (by decide +kernel) rfl, by decide +kernel, by decide +kernel, by decide +kernel⟩
theorem uv_X3_readOrder : wVirt yX3_readOrder cX3_readOrder 6 (some .boolean) 1 := ⟨wU_of 286 (by decide +kernel) rfl, wU_of 6 (by decide +kernel) rfl, wU_of 54 (by decide +kernel) rfl, wU_of 287 (by decide +kernel) rfl, by decide +kernel, by decide +kernel, by decide +kernel⟩
theorem us_X5_has : wStat yX5_has cX5_has 2 (some .boolean) 2 := ⟨wU_of 290 (by decide +kernel) rfl, wU_of 53 (by decide +kernel) rfl, wU_of 291 (by decide +kernel) rfl, by decide +kernel, by decide +kernel, by decide +kernel⟩
theorem uv_X3_stepQuarrel : wVirt yX3_stepQuarrel cX3_stepQuarrel 6 (some .int) 3 := ⟨wU_of 294 (by decide +kernel) rfl, wU_of 7 (by decide +kernel) rfl, wU_of 54 (by decide +kernel) rfl, wU_of 295 (by decide +kernel) rfl, by decide +kernel, by decide +kernel, by decide +kernel⟩
theorem us_J6_bitCount_0f7a4 : wStat yJ6_bitCount_0f7a4 cJ6_bitCount_0f7a4 1 (some .int) 1 := ⟨wU_of 297 (by decide +kernel) rfl, wU_of 60 (by decide +kernel) rfl, wU_of 298 (by decide +kernel) rfl, by decide +kernel, by decide +kernel, by decide +kernel⟩
theorem uv_X5_best : wVirt yX5_best cX5_best 3 (some .int) 1 := ⟨wU_of 303 (by decide +kernel) rfl, wU_of 304 (by decide +kernel) rfl, wU_of 53 (by decide +kernel) rfl, wU_of 305 (by decide +kernel) rfl, by decide +kernel, by decide +kernel, by decide +kernel⟩
theorem us_X5_isFirstOrSecond : wStat yX5_isFirstOrSecond cX5_isFirstOrSecond 1 (some .boolean) 1 := ⟨wU_of 307 (by decide +kernel) rfl, wU_of 53 (by decide +kernel) rfl, wU_of 308 (by decide +kernel) rfl, by decide +kernel, by decide +kernel, by decide +kernel⟩
theorem uv_X3_bestOrder : wVirt yX3_bestOrder cX3_bestOrder 5 (some .int) 0 := ⟨wU_of 311 (by decide +kernel) rfl, wU_of 8 (by decide +kernel) rfl, wU_of 54 (by decide +kernel) rfl, wU_of 312 (by decide +kernel) rfl, by decide +kernel, by decide +kernel, by decide +kernel⟩
theorem uv_X3_weighWhatIsToCome : wVirt yX3_weighWhatIsToCome cX3_weighWhatIsToCome 4 none 0 := ⟨wU_of 315 (by decide +kernel) rfl, wU_of 9 (by decide +kernel) rfl, wU_of 54 (by decide +kernel) rfl, wU_of 316 (by decide +kernel) rfl, by decide +kernel, by decide +kernel, by decide +kernel⟩
theorem uv_X3_bestNext : wVirt yX3_bestNext cX3_bestNext 7 (some .int) 2 := ⟨wU_of 319 (by decide +kernel) rfl, wU_of 10 (by decide +kernel) rfl, wU_of 54 (by decide +kernel) rfl, wU_of 320 (by decide +kernel) rfl, by decide +kernel, by decide +kernel, by decide +kernel⟩
theorem uv_X3_quarrelBy : wVirt yX3_quarrelBy cX3_quarrelBy 5 (some .int) 3 := ⟨wU_of 323 (by decide +kernel) rfl, wU_of 11 (by decide +kernel) rfl, wU_of 54 (by decide +kernel) rfl, wU_of 324 (by decide +kernel) rfl, by decide +kernel, by decide +kernel, by decide +kernel⟩
theorem uv_X3_linesOf : wVirt yX3_linesOf cX3_linesOf 4 (some .int) 1 := ⟨wU_of 327 (by decide +kernel) rfl, wU_of 12 (by decide +kernel) rfl, wU_of 54 (by decide +kernel) rfl, wU_of 328 (by decide +kernel) rfl, by decide +kernel, by decide +kernel, by decide +kernel⟩
theorem uv_X5_leaf : wVirt yX5_leaf cX5_leaf 5 (some .int) 4 := ⟨wU_of 330 (by decide +kernel) rfl, wU_of 331 (by decide +kernel) rfl, wU_of 53 (by decide +kernel) rfl, wU_of 332 (by decide +kernel) rfl, by decide +kernel, by decide +kernel, by decide +kernel⟩
theorem uv_X2_strike : wVirt yX2_strike cX2_strike 5 none 4 := ⟨wU_of 335 (by decide +kernel) rfl, wU_of 13 (by decide +kernel) rfl, wU_of 57 (by decide +kernel) rfl, wU_of 336 (by decide +kernel) rfl, by decide +kernel, by decide +kernel, by decide +kernel⟩
theorem uv_X5_see : wVirt yX5_see cX5_see 5 (some .int) 3 := ⟨wU_of 338 (by decide +kernel) rfl, wU_of 339 (by decide +kernel) rfl, wU_of 53 (by decide +kernel) rfl, wU_of 340 (by decide +kernel) rfl, by decide +kernel, by decide +kernel, by decide +kernel⟩
theorem uv_X5_isLeaf : wVirt yX5_isLeaf cX5_isLeaf 2 (some .boolean) 1 := ⟨wU_of 343 (by decide +kernel) rfl, wU_of 14 (by decide +kernel) rfl, wU_of 53 (by decide +kernel) rfl, wU_of 344 (by decide +kernel) rfl, by decide +kernel, by decide +kernel, by decide +kernel⟩
theorem us_X5_isLine : wStat yX5_isLine cX5_isLine 1 (some .boolean) 1 := ⟨wU_of 346 (by decide +kernel) rfl, wU_of 53 (by decide +kernel) rfl, wU_of 347 (by decide +kernel) rfl, by decide +kernel, by decide +kernel, by decide +kernel⟩
theorem uv_X2_lookOf : wVirt yX2_lookOf cX2_lookOf 2 (some .int) 1 := ⟨wU_of 350 (by decide +kernel) rfl, wU_of 15 (by decide +kernel) rfl, wU_of 57 (by decide +kernel) rfl, wU_of 351 (by decide +kernel) rfl, by decide +kernel, by decide +kernel, by decide +kernel⟩
theorem uv_X2_look : wVirt yX2_look cX2_look 4 none 2 := ⟨wU_of 355 (by decide +kernel) rfl, wU_of 16 (by decide +kernel) rfl, wU_of 57 (by decide +kernel) rfl, wU_of 356 (by decide +kernel) rfl, by decide +kernel, by decide +kernel, by decide +kernel⟩
theorem uv_X5_candidates : wVirt yX5_candidates cX5_candidates 2 (some .int) 1 := ⟨wU_of 358 (by decide +kernel) rfl, wU_of 359 (by decide +kernel) rfl, wU_of 53 (by decide +kernel) rfl, wU_of 360 (by decide +kernel) rfl, by decide +kernel, by decide +kernel, by decide +kernel⟩
theorem uv_X5_candidatesOf : wVirt yX5_candidatesOf cX5_candidatesOf 2 (some .int) 1 := ⟨wU_of 363 (by decide +kernel) rfl, wU_of 17 (by decide +kernel) rfl, wU_of 53 (by decide +kernel) rfl, wU_of 364 (by decide +kernel) rfl, by decide +kernel, by decide +kernel, by decide +kernel⟩
theorem uv_X3_statesWith : wVirt yX3_statesWith cX3_statesWith 5 (some .int) 2 := ⟨wU_of 367 (by decide +kernel) rfl, wU_of 18 (by decide +kernel) rfl, wU_of 54 (by decide +kernel) rfl, wU_of 368 (by decide +kernel) rfl, by decide +kernel, by decide +kernel, by decide +kernel⟩
theorem uv_X5_mould : wVirt yX5_mould cX5_mould 3 (some .int) 2 := ⟨wU_of 370 (by decide +kernel) rfl, wU_of 371 (by decide +kernel) rfl, wU_of 53 (by decide +kernel) rfl, wU_of 372 (by decide +kernel) rfl, by decide +kernel, by decide +kernel, by decide +kernel⟩
theorem uv_X5_paper : wVirt yX5_paper cX5_paper 4 (some .int) 2 := ⟨wU_of 375 (by decide +kernel) rfl, wU_of 376 (by decide +kernel) rfl, wU_of 53 (by decide +kernel) rfl, wU_of 377 (by decide +kernel) rfl, by decide +kernel, by decide +kernel, by decide +kernel⟩
theorem uv_X5_isMould : wVirt yX5_isMould cX5_isMould 2 (some .boolean) 1 := ⟨wU_of 380 (by decide +kernel) rfl, wU_of 19 (by decide +kernel) rfl, wU_of 53 (by decide +kernel) rfl, wU_of 381 (by decide +kernel) rfl, by decide +kernel, by decide +kernel, by decide +kernel⟩
theorem uv_X5_imprint : wVirt yX5_imprint cX5_imprint 4 (some .int) 2 := ⟨wU_of 383 (by decide +kernel) rfl, wU_of 384 (by decide +kernel) rfl, wU_of 53 (by decide +kernel) rfl, wU_of 385 (by decide +kernel) rfl, by decide +kernel, by decide +kernel, by decide +kernel⟩
theorem uv_X5_span : wVirt yX5_span cX5_span 12 (some .int) 2 := ⟨wU_of 387 (by decide +kernel) rfl, wU_of 388 (by decide +kernel) rfl, wU_of 53 (by decide +kernel) rfl, wU_of 389 (by decide +kernel) rfl, by decide +kernel, by decide +kernel, by decide +kernel⟩
theorem uv_X5_earliestByPaper : wVirt yX5_earliestByPaper cX5_earliestByPaper 3 (some .int) 1 := ⟨wU_of 392 (by decide +kernel) rfl, wU_of 20 (by decide +kernel) rfl, wU_of 53 (by decide +kernel) rfl, wU_of 393 (by decide +kernel) rfl, by decide +kernel, by decide +kernel, by decide +kernel⟩
theorem us_J9_max_7cf53 : wStat yJ9_max_7cf53 cJ9_max_7cf53 2 (some .int) 2 := ⟨wU_of 395 (by decide +kernel) rfl, wU_of 61 (by decide +kernel) rfl, wU_of 396 (by decide +kernel) rfl, by decide +kernel, by decide +kernel, by decide +kernel⟩
theorem uv_X5_latestByPaper : wVirt yX5_latestByPaper cX5_latestByPaper 2 (some .int) 1 := ⟨wU_of 399 (by decide +kernel) rfl, wU_of 21 (by decide +kernel) rfl, wU_of 53 (by decide +kernel) rfl, wU_of 400 (by decide +kernel) rfl, by decide +kernel, by decide +kernel, by decide +kernel⟩
theorem us_J9_min_7cf53 : wStat yJ9_min_7cf53 cJ9_min_7cf53 2 (some .int) 2 := ⟨wU_of 402 (by decide +kernel) rfl, wU_of 61 (by decide +kernel) rfl, wU_of 403 (by decide +kernel) rfl, by decide +kernel, by decide +kernel, by decide +kernel⟩
theorem uv_X5_price : wVirt yX5_price cX5_price 3 (some .int) 2 := ⟨wU_of 406 (by decide +kernel) rfl, wU_of 407 (by decide +kernel) rfl, wU_of 53 (by decide +kernel) rfl, wU_of 408 (by decide +kernel) rfl, by decide +kernel, by decide +kernel, by decide +kernel⟩
theorem uv_X5_plainPrice : wVirt yX5_plainPrice cX5_plainPrice 3 (some .int) 1 := ⟨wU_of 411 (by decide +kernel) rfl, wU_of 22 (by decide +kernel) rfl, wU_of 53 (by decide +kernel) rfl, wU_of 412 (by decide +kernel) rfl, by decide +kernel, by decide +kernel, by decide +kernel⟩
theorem uv_X5_colouredPrice : wVirt yX5_colouredPrice cX5_colouredPrice 3 (some .int) 1 := ⟨wU_of 416 (by decide +kernel) rfl, wU_of 23 (by decide +kernel) rfl, wU_of 53 (by decide +kernel) rfl, wU_of 417 (by decide +kernel) rfl, by decide +kernel, by decide +kernel, by decide +kernel⟩
theorem uv_X5_wormPrice : wVirt yX5_wormPrice cX5_wormPrice 2 (some .int) 1 := ⟨wU_of 421 (by decide +kernel) rfl, wU_of 24 (by decide +kernel) rfl, wU_of 53 (by decide +kernel) rfl, wU_of 422 (by decide +kernel) rfl, by decide +kernel, by decide +kernel, by decide +kernel⟩
theorem uv_X5_map : wVirt yX5_map cX5_map 3 (some .int) 2 := ⟨wU_of 425 (by decide +kernel) rfl, wU_of 426 (by decide +kernel) rfl, wU_of 53 (by decide +kernel) rfl, wU_of 427 (by decide +kernel) rfl, by decide +kernel, by decide +kernel, by decide +kernel⟩
theorem uv_X0_addMap : wVirt yX0_addMap cX0_addMap 3 (some .int) 2 := ⟨wU_of 430 (by decide +kernel) rfl, wU_of 25 (by decide +kernel) rfl, wU_of 56 (by decide +kernel) rfl, wU_of 431 (by decide +kernel) rfl, by decide +kernel, by decide +kernel, by decide +kernel⟩
theorem uv_X5_cost : wVirt yX5_cost cX5_cost 3 (some .int) 2 := ⟨wU_of 433 (by decide +kernel) rfl, wU_of 434 (by decide +kernel) rfl, wU_of 53 (by decide +kernel) rfl, wU_of 435 (by decide +kernel) rfl, by decide +kernel, by decide +kernel, by decide +kernel⟩
theorem uv_X0_mayComeFrom : wVirt yX0_mayComeFrom cX0_mayComeFrom 3 (some .boolean) 2 := ⟨wU_of 438 (by decide +kernel) rfl, wU_of 26 (by decide +kernel) rfl, wU_of 56 (by decide +kernel) rfl, wU_of 439 (by decide +kernel) rfl, by decide +kernel, by decide +kernel, by decide +kernel⟩
theorem uv_X0_hasMap : wVirt yX0_hasMap cX0_hasMap 2 (some .boolean) 1 := ⟨wU_of 442 (by decide +kernel) rfl, wU_of 27 (by decide +kernel) rfl, wU_of 56 (by decide +kernel) rfl, wU_of 443 (by decide +kernel) rfl, by decide +kernel, by decide +kernel, by decide +kernel⟩
theorem uv_X0_costOf : wVirt yX0_costOf cX0_costOf 5 (some .int) 2 := ⟨wU_of 446 (by decide +kernel) rfl, wU_of 28 (by decide +kernel) rfl, wU_of 56 (by decide +kernel) rfl, wU_of 447 (by decide +kernel) rfl, by decide +kernel, by decide +kernel, by decide +kernel⟩
theorem uv_X5_from : wVirt yX5_from cX5_from 2 (some .int) 1 := ⟨wU_of 450 (by decide +kernel) rfl, wU_of 451 (by decide +kernel) rfl, wU_of 53 (by decide +kernel) rfl, wU_of 452 (by decide +kernel) rfl, by decide +kernel, by decide +kernel, by decide +kernel⟩
theorem uv_X0_cheapest : wVirt yX0_cheapest cX0_cheapest 5 (some .int) 1 := ⟨wU_of 456 (by decide +kernel) rfl, wU_of 29 (by decide +kernel) rfl, wU_of 56 (by decide +kernel) rfl, wU_of 457 (by decide +kernel) rfl, by decide +kernel, by decide +kernel, by decide +kernel⟩
theorem uv_X5_rivals : wVirt yX5_rivals cX5_rivals 2 (some .int) 1 := ⟨wU_of 461 (by decide +kernel) rfl, wU_of 462 (by decide +kernel) rfl, wU_of 53 (by decide +kernel) rfl, wU_of 463 (by decide +kernel) rfl, by decide +kernel, by decide +kernel, by decide +kernel⟩
theorem uv_X0_rivalCount : wVirt yX0_rivalCount cX0_rivalCount 6 (some .int) 1 := ⟨wU_of 466 (by decide +kernel) rfl, wU_of 30 (by decide +kernel) rfl, wU_of 56 (by decide +kernel) rfl, wU_of 467 (by decide +kernel) rfl, by decide +kernel, by decide +kernel, by decide +kernel⟩
theorem uv_X5_life : wVirt yX5_life cX5_life 3 (some .int) 2 := ⟨wU_of 470 (by decide +kernel) rfl, wU_of 471 (by decide +kernel) rfl, wU_of 53 (by decide +kernel) rfl, wU_of 472 (by decide +kernel) rfl, by decide +kernel, by decide +kernel, by decide +kernel⟩
theorem uv_X0_lifeOf : wVirt yX0_lifeOf cX0_lifeOf 5 (some .int) 2 := ⟨wU_of 475 (by decide +kernel) rfl, wU_of 31 (by decide +kernel) rfl, wU_of 56 (by decide +kernel) rfl, wU_of 476 (by decide +kernel) rfl, by decide +kernel, by decide +kernel, by decide +kernel⟩
theorem uv_X0_hasItFrom : wVirt yX0_hasItFrom cX0_hasItFrom 6 (some .boolean) 3 := ⟨wU_of 479 (by decide +kernel) rfl, wU_of 32 (by decide +kernel) rfl, wU_of 56 (by decide +kernel) rfl, wU_of 480 (by decide +kernel) rfl, by decide +kernel, by decide +kernel, by decide +kernel⟩
theorem uv_X5_hole : wVirt yX5_hole cX5_hole 4 (some .int) 3 := ⟨wU_of 483 (by decide +kernel) rfl, wU_of 484 (by decide +kernel) rfl, wU_of 53 (by decide +kernel) rfl, wU_of 485 (by decide +kernel) rfl, by decide +kernel, by decide +kernel, by decide +kernel⟩
theorem us_X1_isPlace : wStat yX1_isPlace cX1_isPlace 1 (some .boolean) 1 := ⟨wU_of 487 (by decide +kernel) rfl, wU_of 58 (by decide +kernel) rfl, wU_of 488 (by decide +kernel) rfl, by decide +kernel, by decide +kernel, by decide +kernel⟩
theorem uv_X1_bore : wVirt yX1_bore cX1_bore 2 (some .int) 1 := ⟨wU_of 491 (by decide +kernel) rfl, wU_of 33 (by decide +kernel) rfl, wU_of 58 (by decide +kernel) rfl, wU_of 492 (by decide +kernel) rfl, by decide +kernel, by decide +kernel, by decide +kernel⟩
theorem uv_X1_isWithin : wVirt yX1_isWithin cX1_isWithin 4 (some .boolean) 2 := ⟨wU_of 495 (by decide +kernel) rfl, wU_of 34 (by decide +kernel) rfl, wU_of 58 (by decide +kernel) rfl, wU_of 496 (by decide +kernel) rfl, by decide +kernel, by decide +kernel, by decide +kernel⟩
theorem us_J9_abs_0f7a4 : wStat yJ9_abs_0f7a4 cJ9_abs_0f7a4 1 (some .int) 1 := ⟨wU_of 498 (by decide +kernel) rfl, wU_of 61 (by decide +kernel) rfl, wU_of 499 (by decide +kernel) rfl, by decide +kernel, by decide +kernel, by decide +kernel⟩
theorem us_X5_isBook : wStat yX5_isBook cX5_isBook 1 (some .boolean) 1 := ⟨wU_of 501 (by decide +kernel) rfl, wU_of 53 (by decide +kernel) rfl, wU_of 502 (by decide +kernel) rfl, by decide +kernel, by decide +kernel, by decide +kernel⟩
theorem uv_X5_fits : wVirt yX5_fits cX5_fits 4 (some .int) 3 := ⟨wU_of 504 (by decide +kernel) rfl, wU_of 505 (by decide +kernel) rfl, wU_of 53 (by decide +kernel) rfl, wU_of 506 (by decide +kernel) rfl, by decide +kernel, by decide +kernel, by decide +kernel⟩
theorem us_X1_isShift : wStat yX1_isShift cX1_isShift 1 (some .boolean) 1 := ⟨wU_of 508 (by decide +kernel) rfl, wU_of 58 (by decide +kernel) rfl, wU_of 509 (by decide +kernel) rfl, by decide +kernel, by decide +kernel, by decide +kernel⟩
theorem uv_X1_fitting : wVirt yX1_fitting cX1_fitting 5 (some .int) 2 := ⟨wU_of 512 (by decide +kernel) rfl, wU_of 35 (by decide +kernel) rfl, wU_of 58 (by decide +kernel) rfl, wU_of 513 (by decide +kernel) rfl, by decide +kernel, by decide +kernel, by decide +kernel⟩
theorem uv_X5_shift : wVirt yX5_shift cX5_shift 6 (some .int) 3 := ⟨wU_of 515 (by decide +kernel) rfl, wU_of 516 (by decide +kernel) rfl, wU_of 53 (by decide +kernel) rfl, wU_of 517 (by decide +kernel) rfl, by decide +kernel, by decide +kernel, by decide +kernel⟩
theorem uv_X1_bestShift : wVirt yX1_bestShift cX1_bestShift 7 (some .int) 1 := ⟨wU_of 520 (by decide +kernel) rfl, wU_of 36 (by decide +kernel) rfl, wU_of 58 (by decide +kernel) rfl, wU_of 521 (by decide +kernel) rfl, by decide +kernel, by decide +kernel, by decide +kernel⟩
theorem uv_X5_home : wVirt yX5_home cX5_home 4 (some .int) 2 := ⟨wU_of 524 (by decide +kernel) rfl, wU_of 525 (by decide +kernel) rfl, wU_of 53 (by decide +kernel) rfl, wU_of 526 (by decide +kernel) rfl, by decide +kernel, by decide +kernel, by decide +kernel⟩
theorem uv_X5_homeOf : wVirt yX5_homeOf cX5_homeOf 6 (some .int) 1 := ⟨wU_of 529 (by decide +kernel) rfl, wU_of 37 (by decide +kernel) rfl, wU_of 53 (by decide +kernel) rfl, wU_of 530 (by decide +kernel) rfl, by decide +kernel, by decide +kernel, by decide +kernel⟩
theorem uv_X1_mostFitting : wVirt yX1_mostFitting cX1_mostFitting 2 (some .int) 1 := ⟨wU_of 533 (by decide +kernel) rfl, wU_of 38 (by decide +kernel) rfl, wU_of 58 (by decide +kernel) rfl, wU_of 534 (by decide +kernel) rfl, by decide +kernel, by decide +kernel, by decide +kernel⟩
theorem uv_X5_othersByChance : wVirt yX5_othersByChance cX5_othersByChance 6 (some .int) 2 := ⟨wU_of 538 (by decide +kernel) rfl, wU_of 39 (by decide +kernel) rfl, wU_of 53 (by decide +kernel) rfl, wU_of 539 (by decide +kernel) rfl, by decide +kernel, by decide +kernel, by decide +kernel⟩
theorem uv_X5_count : wVirt yX5_count cX5_count 2 (some .int) 1 := ⟨wU_of 541 (by decide +kernel) rfl, wU_of 542 (by decide +kernel) rfl, wU_of 53 (by decide +kernel) rfl, wU_of 543 (by decide +kernel) rfl, by decide +kernel, by decide +kernel, by decide +kernel⟩
theorem uv_X5_leavesWithCandidates : wVirt yX5_leavesWithCandidates cX5_leavesWithCandidates 4 (some .int) 1 := ⟨wU_of 546 (by decide +kernel) rfl, wU_of 40 (by decide +kernel) rfl, wU_of 53 (by decide +kernel) rfl, wU_of 547 (by decide +kernel) rfl, by decide +kernel, by decide +kernel, by decide +kernel⟩
theorem uv_X5_trace : wVirt yX5_trace cX5_trace 1 (some .long) 0 := ⟨wU_of 549 (by decide +kernel) rfl, wU_of 550 (by decide +kernel) rfl, wU_of 53 (by decide +kernel) rfl, wU_of 551 (by decide +kernel) rfl, by decide +kernel, by decide +kernel, by decide +kernel⟩
theorem uv_X6_state : wVirt yX6_state cX6_state 4 (some .int) 3 := ⟨wU_of 629 (by decide +kernel) rfl, wU_of 630 (by decide +kernel) rfl, wU_of 59 (by decide +kernel) rfl, wU_of 631 (by decide +kernel) rfl, by decide +kernel, by decide +kernel, by decide +kernel⟩
theorem us_X6_in : wStat yX6_in cX6_in 3 (some .boolean) 3 := ⟨wU_of 633 (by decide +kernel) rfl, wU_of 59 (by decide +kernel) rfl, wU_of 634 (by decide +kernel) rfl, by decide +kernel, by decide +kernel, by decide +kernel⟩
theorem us_X6_isYears : wStat yX6_isYears cX6_isYears 2 (some .boolean) 2 := ⟨wU_of 636 (by decide +kernel) rfl, wU_of 59 (by decide +kernel) rfl, wU_of 637 (by decide +kernel) rfl, by decide +kernel, by decide +kernel, by decide +kernel⟩
theorem uv_X6_about : wVirt yX6_about cX6_about 3 (some .int) 2 := ⟨wU_of 639 (by decide +kernel) rfl, wU_of 640 (by decide +kernel) rfl, wU_of 59 (by decide +kernel) rfl, wU_of 641 (by decide +kernel) rfl, by decide +kernel, by decide +kernel, by decide +kernel⟩
theorem uv_X6_set : wVirt yX6_set cX6_set 4 (some .int) 2 := ⟨wU_of 643 (by decide +kernel) rfl, wU_of 644 (by decide +kernel) rfl, wU_of 59 (by decide +kernel) rfl, wU_of 645 (by decide +kernel) rfl, by decide +kernel, by decide +kernel, by decide +kernel⟩
theorem uv_X6_quarrel : wVirt yX6_quarrel cX6_quarrel 2 (some .int) 1 := ⟨wU_of 647 (by decide +kernel) rfl, wU_of 648 (by decide +kernel) rfl, wU_of 59 (by decide +kernel) rfl, wU_of 649 (by decide +kernel) rfl, by decide +kernel, by decide +kernel, by decide +kernel⟩
theorem uv_X6_isOrder : wVirt yX6_isOrder cX6_isOrder 5 (some .boolean) 1 := ⟨wU_of 652 (by decide +kernel) rfl, wU_of 41 (by decide +kernel) rfl, wU_of 59 (by decide +kernel) rfl, wU_of 653 (by decide +kernel) rfl, by decide +kernel, by decide +kernel, by decide +kernel⟩
theorem uv_X6_quarrelOf : wVirt yX6_quarrelOf cX6_quarrelOf 7 (some .int) 0 := ⟨wU_of 656 (by decide +kernel) rfl, wU_of 42 (by decide +kernel) rfl, wU_of 59 (by decide +kernel) rfl, wU_of 657 (by decide +kernel) rfl, by decide +kernel, by decide +kernel, by decide +kernel⟩
theorem us_X6_bits : wStat yX6_bits cX6_bits 3 (some .int) 1 := ⟨wU_of 659 (by decide +kernel) rfl, wU_of 59 (by decide +kernel) rfl, wU_of 660 (by decide +kernel) rfl, by decide +kernel, by decide +kernel, by decide +kernel⟩
theorem uv_X6_best : wVirt yX6_best cX6_best 7 (some .int) 1 := ⟨wU_of 662 (by decide +kernel) rfl, wU_of 663 (by decide +kernel) rfl, wU_of 59 (by decide +kernel) rfl, wU_of 664 (by decide +kernel) rfl, by decide +kernel, by decide +kernel, by decide +kernel⟩
theorem uv_X6_leaf : wVirt yX6_leaf cX6_leaf 5 (some .int) 4 := ⟨wU_of 666 (by decide +kernel) rfl, wU_of 667 (by decide +kernel) rfl, wU_of 59 (by decide +kernel) rfl, wU_of 668 (by decide +kernel) rfl, by decide +kernel, by decide +kernel, by decide +kernel⟩
theorem uv_X6_see : wVirt yX6_see cX6_see 5 (some .int) 3 := ⟨wU_of 670 (by decide +kernel) rfl, wU_of 671 (by decide +kernel) rfl, wU_of 59 (by decide +kernel) rfl, wU_of 672 (by decide +kernel) rfl, by decide +kernel, by decide +kernel, by decide +kernel⟩
theorem uv_X6_isLeaf : wVirt yX6_isLeaf cX6_isLeaf 2 (some .boolean) 1 := ⟨wU_of 675 (by decide +kernel) rfl, wU_of 43 (by decide +kernel) rfl, wU_of 59 (by decide +kernel) rfl, wU_of 676 (by decide +kernel) rfl, by decide +kernel, by decide +kernel, by decide +kernel⟩
theorem uv_X6_candidates : wVirt yX6_candidates cX6_candidates 2 (some .int) 1 := ⟨wU_of 678 (by decide +kernel) rfl, wU_of 679 (by decide +kernel) rfl, wU_of 59 (by decide +kernel) rfl, wU_of 680 (by decide +kernel) rfl, by decide +kernel, by decide +kernel, by decide +kernel⟩
theorem uv_X6_candidatesOf : wVirt yX6_candidatesOf cX6_candidatesOf 4 (some .int) 1 := ⟨wU_of 683 (by decide +kernel) rfl, wU_of 44 (by decide +kernel) rfl, wU_of 59 (by decide +kernel) rfl, wU_of 684 (by decide +kernel) rfl, by decide +kernel, by decide +kernel, by decide +kernel⟩
theorem uv_X6_mould : wVirt yX6_mould cX6_mould 3 (some .int) 2 := ⟨wU_of 686 (by decide +kernel) rfl, wU_of 687 (by decide +kernel) rfl, wU_of 59 (by decide +kernel) rfl, wU_of 688 (by decide +kernel) rfl, by decide +kernel, by decide +kernel, by decide +kernel⟩
theorem uv_X6_paper : wVirt yX6_paper cX6_paper 4 (some .int) 2 := ⟨wU_of 690 (by decide +kernel) rfl, wU_of 691 (by decide +kernel) rfl, wU_of 59 (by decide +kernel) rfl, wU_of 692 (by decide +kernel) rfl, by decide +kernel, by decide +kernel, by decide +kernel⟩
theorem uv_X6_imprint : wVirt yX6_imprint cX6_imprint 4 (some .int) 2 := ⟨wU_of 694 (by decide +kernel) rfl, wU_of 695 (by decide +kernel) rfl, wU_of 59 (by decide +kernel) rfl, wU_of 696 (by decide +kernel) rfl, by decide +kernel, by decide +kernel, by decide +kernel⟩
theorem uv_X6_span : wVirt yX6_span cX6_span 8 (some .int) 2 := ⟨wU_of 698 (by decide +kernel) rfl, wU_of 699 (by decide +kernel) rfl, wU_of 59 (by decide +kernel) rfl, wU_of 700 (by decide +kernel) rfl, by decide +kernel, by decide +kernel, by decide +kernel⟩
theorem uv_X6_price : wVirt yX6_price cX6_price 5 (some .int) 2 := ⟨wU_of 702 (by decide +kernel) rfl, wU_of 703 (by decide +kernel) rfl, wU_of 59 (by decide +kernel) rfl, wU_of 704 (by decide +kernel) rfl, by decide +kernel, by decide +kernel, by decide +kernel⟩
theorem uv_X6_map : wVirt yX6_map cX6_map 3 (some .int) 2 := ⟨wU_of 708 (by decide +kernel) rfl, wU_of 709 (by decide +kernel) rfl, wU_of 59 (by decide +kernel) rfl, wU_of 710 (by decide +kernel) rfl, by decide +kernel, by decide +kernel, by decide +kernel⟩
theorem uv_X6_cost : wVirt yX6_cost cX6_cost 3 (some .int) 2 := ⟨wU_of 712 (by decide +kernel) rfl, wU_of 713 (by decide +kernel) rfl, wU_of 59 (by decide +kernel) rfl, wU_of 714 (by decide +kernel) rfl, by decide +kernel, by decide +kernel, by decide +kernel⟩
theorem uv_X6_isMap : wVirt yX6_isMap cX6_isMap 2 (some .boolean) 1 := ⟨wU_of 717 (by decide +kernel) rfl, wU_of 45 (by decide +kernel) rfl, wU_of 59 (by decide +kernel) rfl, wU_of 718 (by decide +kernel) rfl, by decide +kernel, by decide +kernel, by decide +kernel⟩
theorem uv_X6_isFrom : wVirt yX6_isFrom cX6_isFrom 3 (some .boolean) 2 := ⟨wU_of 721 (by decide +kernel) rfl, wU_of 46 (by decide +kernel) rfl, wU_of 59 (by decide +kernel) rfl, wU_of 722 (by decide +kernel) rfl, by decide +kernel, by decide +kernel, by decide +kernel⟩
theorem uv_X6_costOf : wVirt yX6_costOf cX6_costOf 3 (some .int) 2 := ⟨wU_of 725 (by decide +kernel) rfl, wU_of 47 (by decide +kernel) rfl, wU_of 59 (by decide +kernel) rfl, wU_of 726 (by decide +kernel) rfl, by decide +kernel, by decide +kernel, by decide +kernel⟩
theorem uv_X6_from : wVirt yX6_from cX6_from 2 (some .int) 1 := ⟨wU_of 728 (by decide +kernel) rfl, wU_of 729 (by decide +kernel) rfl, wU_of 59 (by decide +kernel) rfl, wU_of 730 (by decide +kernel) rfl, by decide +kernel, by decide +kernel, by decide +kernel⟩
theorem uv_X6_fromOf : wVirt yX6_fromOf cX6_fromOf 4 (some .int) 1 := ⟨wU_of 733 (by decide +kernel) rfl, wU_of 48 (by decide +kernel) rfl, wU_of 59 (by decide +kernel) rfl, wU_of 734 (by decide +kernel) rfl, by decide +kernel, by decide +kernel, by decide +kernel⟩
theorem uv_X6_rivals : wVirt yX6_rivals cX6_rivals 5 (some .int) 1 := ⟨wU_of 736 (by decide +kernel) rfl, wU_of 737 (by decide +kernel) rfl, wU_of 59 (by decide +kernel) rfl, wU_of 738 (by decide +kernel) rfl, by decide +kernel, by decide +kernel, by decide +kernel⟩
theorem uv_X6_life : wVirt yX6_life cX6_life 6 (some .int) 2 := ⟨wU_of 740 (by decide +kernel) rfl, wU_of 741 (by decide +kernel) rfl, wU_of 59 (by decide +kernel) rfl, wU_of 742 (by decide +kernel) rfl, by decide +kernel, by decide +kernel, by decide +kernel⟩
theorem uv_X6_hole : wVirt yX6_hole cX6_hole 6 (some .int) 3 := ⟨wU_of 744 (by decide +kernel) rfl, wU_of 745 (by decide +kernel) rfl, wU_of 59 (by decide +kernel) rfl, wU_of 746 (by decide +kernel) rfl, by decide +kernel, by decide +kernel, by decide +kernel⟩
theorem uv_X6_fits : wVirt yX6_fits cX6_fits 4 (some .int) 3 := ⟨wU_of 748 (by decide +kernel) rfl, wU_of 749 (by decide +kernel) rfl, wU_of 59 (by decide +kernel) rfl, wU_of 750 (by decide +kernel) rfl, by decide +kernel, by decide +kernel, by decide +kernel⟩
theorem us_X6_isBook : wStat yX6_isBook cX6_isBook 1 (some .boolean) 1 := ⟨wU_of 752 (by decide +kernel) rfl, wU_of 59 (by decide +kernel) rfl, wU_of 753 (by decide +kernel) rfl, by decide +kernel, by decide +kernel, by decide +kernel⟩
theorem uv_X6_fitsOf : wVirt yX6_fitsOf cX6_fitsOf 8 (some .int) 3 := ⟨wU_of 756 (by decide +kernel) rfl, wU_of 49 (by decide +kernel) rfl, wU_of 59 (by decide +kernel) rfl, wU_of 757 (by decide +kernel) rfl, by decide +kernel, by decide +kernel, by decide +kernel⟩
theorem uv_X6_shift : wVirt yX6_shift cX6_shift 5 (some .int) 3 := ⟨wU_of 759 (by decide +kernel) rfl, wU_of 760 (by decide +kernel) rfl, wU_of 59 (by decide +kernel) rfl, wU_of 761 (by decide +kernel) rfl, by decide +kernel, by decide +kernel, by decide +kernel⟩
theorem uv_X6_shiftOf : wVirt yX6_shiftOf cX6_shiftOf 5 (some .int) 2 := ⟨wU_of 764 (by decide +kernel) rfl, wU_of 50 (by decide +kernel) rfl, wU_of 59 (by decide +kernel) rfl, wU_of 765 (by decide +kernel) rfl, by decide +kernel, by decide +kernel, by decide +kernel⟩
theorem uv_X6_home : wVirt yX6_home cX6_home 7 (some .int) 2 := ⟨wU_of 767 (by decide +kernel) rfl, wU_of 768 (by decide +kernel) rfl, wU_of 59 (by decide +kernel) rfl, wU_of 769 (by decide +kernel) rfl, by decide +kernel, by decide +kernel, by decide +kernel⟩
theorem uv_X6_most : wVirt yX6_most cX6_most 3 (some .int) 2 := ⟨wU_of 772 (by decide +kernel) rfl, wU_of 51 (by decide +kernel) rfl, wU_of 59 (by decide +kernel) rfl, wU_of 773 (by decide +kernel) rfl, by decide +kernel, by decide +kernel, by decide +kernel⟩
theorem uv_X6_count : wVirt yX6_count cX6_count 6 (some .int) 1 := ⟨wU_of 775 (by decide +kernel) rfl, wU_of 776 (by decide +kernel) rfl, wU_of 59 (by decide +kernel) rfl, wU_of 777 (by decide +kernel) rfl, by decide +kernel, by decide +kernel, by decide +kernel⟩
theorem uv_X6_trace : wVirt yX6_trace cX6_trace 1 (some .long) 0 := ⟨wU_of 779 (by decide +kernel) rfl, wU_of 780 (by decide +kernel) rfl, wU_of 59 (by decide +kernel) rfl, wU_of 781 (by decide +kernel) rfl, by decide +kernel, by decide +kernel, by decide +kernel⟩
end
section
/-! PART 02.a: the state of the whole system, as numbers; what the heap holds for it; the walk's judgement over it -/
/-- the launch, the tables' places, the arrays' classes, the addresses (of the i-th of group g), what may be written -/
abbrev wD : Type := Launch × va_G × (Nat → ClassId) × (Nat → Nat → Nat) × (Nat → Prop)
/-- a method's frame: everything that stays the same while it runs; the last two: the cells and slots that are counted -/
abbrev wX : Type := Program × Env × Room × State × MethodId × Array Value × List Frame × Method × Code × Nat × Nat
/-- the numbers: of group g, number i, slot k; the longs -/
abbrev wSt : Type := (Nat → Nat → Nat → Int32) × (Nat → Int64)
/-- how many there are of each group. 0 the room, 1 the plate, 2 the copies, 3 leaves[], 4 moulds[], 5 books[], 6 plate.lines, 7 plate.years[], 8 plate.read, 9 plate.toCome, 10 its rows, 11 a state's years, 12 copies.years, 13 copies.errors, 14 a leaf, 15 its holes, 16 their places, 17 a mould, 18 a book, 19 its places, 20 the model, 21 .. 37 its arrays -/
def wN (g : Nat) : Nat := match g with
  | 10 => 64
  | 11 => 6
  | 14 => 20
  | 15 => 20
  | 16 => 20
  | 17 => 8
  | 18 => 4
  | 19 => 4
  | g => if g < 38 then 1 else 0
/-- the lengths of the int arrays -/
def wLen (g : Nat) : Nat := match g with
  | 12 => 8
  | 13 => 8
  | 24 => 5
  | 25 => 20
  | 26 => 20
  | 27 => 20
  | 28 => 20
  | 29 => 20
  | 30 => 20
  | 31 => 8
  | 32 => 8
  | 33 => 8
  | 34 => 8
  | 35 => 24
  | 36 => 144
  | _ => 6
def wCt (cy : Nat → ClassId) (E : Nat → Nat → Nat) (s : wSt) (g i : Nat) : va_E := match g with
  | 0 => .inr (5, [.ref (E 1 0), .ref (E 2 0), .ref (E 3 0), .int (s.1 0 i 3), .ref (E 4 0), .int (s.1 0 i 5), .ref (E 5 0), .long (s.2 0)])
  | 1 => .inr (3, [.int (s.1 1 i 0), .int (s.1 1 i 1), .int (s.1 1 i 2), .ref (E 6 0), .ref (E 7 0), .int (s.1 1 i 5), .ref (E 8 0), .ref (E 9 0)])
  | 2 => .inr (0, [.int (s.1 2 i 0), .int (s.1 2 i 1), .ref (E 12 0), .ref (E 13 0), .int (s.1 2 i 4)])
  | 3 => .inl (cy 1, 20, .inr (.inr (.inr (.inr (fun j => some (E 14 j))))))
  | 4 => .inl (cy 2, 8, .inr (.inr (.inr (.inr (fun j => some (E 17 j))))))
  | 5 => .inl (cy 3, 4, .inr (.inr (.inr (.inr (fun j => some (E 18 j))))))
  | 7 => .inl (cy 2, 6, .inr (.inr (.inr (.inr (fun j => some (E 11 j))))))
  | 9 => .inl (cy 4, 64, .inr (.inr (.inr (.inr (fun j => some (E 10 j))))))
  | 11 => .inr (4, [.int (s.1 11 i 0), .int (s.1 11 i 1)])
  | 14 => .inr (2, [.int (s.1 14 i 0), .int (s.1 14 i 1), .int (s.1 14 i 2), .int (s.1 14 i 3), .int (s.1 14 i 4), .int (s.1 14 i 5), .ref (E 15 i)])
  | 15 => .inr (1, [.ref (E 16 i), .int (s.1 15 i 1)])
  | 17 => .inr (4, [.int (s.1 17 i 0), .int (s.1 17 i 1)])
  | 18 => .inr (1, [.ref (E 19 i), .int (s.1 18 i 1)])
  | 20 => .inr (6, [.int (s.1 20 i 0), .long (s.2 1), .int (s.1 20 i 2), .ref (E 21 0), .ref (E 22 0), .ref (E 23 0), .ref (E 24 0), .int (s.1 20 i 7), .ref (E 25 0), .ref (E 26 0), .ref (E 27 0), .ref (E 28 0), .ref (E 29 0), .ref (E 30 0), .int (s.1 20 i 14), .ref (E 31 0), .ref (E 32 0), .int (s.1 20 i 17), .ref (E 33 0), .ref (E 34 0), .ref (E 35 0), .ref (E 36 0), .ref (E 37 0)])
  | g => .inl (cy 0, wLen g, .inl (s.1 g i))
/-- the heap holds the numbers -/
def wInv (w : wD) (s : wSt) (H : Heap) : Prop := ∀ g i : Nat, i < wN g → va_at w.2.1 vwCl (w.2.2.2.1 g i, wCt w.2.2.1 w.2.2.2.1 s g i) H
/-- the addresses are apart, and may be written -/
def wOK (w : wD) : Prop := (∀ g i g' i' : Nat, i < wN g → i' < wN g' → w.2.2.2.1 g i = w.2.2.2.1 g' i' → g = g' ∧ i = i') ∧ ∀ g i : Nat, i < wN g → w.2.2.2.2 (w.2.2.2.1 g i)
def wTys (w : wD) : List (ClassId × FieldType) := [(w.2.2.1 0, .int), (w.2.2.1 1, .object RX2), (w.2.2.1 2, .object RX4), (w.2.2.1 3, .object RX1), (w.2.2.1 4, .array .int)]
/-- the links between nest mates -/
def wNF : List (String × Nat × String × String × String × String) := [(RX5, 77, "PlateRoom$Years", "first", "I", "PlateRoom"), (RX5, 80, "PlateRoom$Years", "last", "I", "PlateRoom"), (RX5, 229, "PlateRoom$Plate", "cut", "I", "PlateRoom"), (RX5, 232, "PlateRoom$Plate", "rub", "I", "PlateRoom"), (RX5, 235, "PlateRoom$Plate", "again", "I", "PlateRoom"), (RX5, 70, "PlateRoom$Plate", "lines", "[I", "PlateRoom"), (RX5, 74, "PlateRoom$Plate", "years", "[LPlateRoom$Years;", "PlateRoom"), (RX5, 100, "PlateRoom$Plate", "stateCount", "I", "PlateRoom"), (RX5, 238, "PlateRoom$Copies", "loss", "I", "PlateRoom"), (RX5, 241, "PlateRoom$Copies", "alone", "I", "PlateRoom"), (RX5, 187, "PlateRoom$Copies", "errors", "[I", "PlateRoom"), (RX5, 223, "PlateRoom$Copies", "mapCount", "I", "PlateRoom"), (RX5, 268, "PlateRoom$Holes", "placeCount", "I", "PlateRoom"), (RX5, 244, "PlateRoom$Leaf", "there", "I", "PlateRoom"), (RX5, 247, "PlateRoom$Leaf", "gone", "I", "PlateRoom"), (RX5, 258, "PlateRoom$Leaf", "worth", "I", "PlateRoom"), (RX5, 263, "PlateRoom$Leaf", "colour", "I", "PlateRoom"), (RX5, 133, "PlateRoom$Leaf", "mould", "I", "PlateRoom"), (RX5, 139, "PlateRoom$Leaf", "imprint", "I", "PlateRoom"), (RX5, 196, "PlateRoom$Leaf", "holes", "LPlateRoom$Holes;", "PlateRoom")]
def wNM : List (String × Nat × MethodName × String) := [(RX5, 9, yX3_init, "PlateRoom"), (RX3, 42, yX4_init, "PlateRoom"), (RX5, 18, yX0_init, "PlateRoom"), (RX5, 52, yX2_init, "PlateRoom"), (RX2, 32, yX1_init, "PlateRoom"), (RX5, 53, yX4_init, "PlateRoom"), (RX5, 54, yX1_init, "PlateRoom"), (RX5, 63, yX3_addState, "PlateRoom"), (RX3, 43, yX4_put, "PlateRoom"), (RX5, 67, yX3_hasState, "PlateRoom"), (RX5, 94, yX3_quarrelOf, "PlateRoom"), (RX3, 58, yX5_has, "PlateRoom"), (RX5, 103, yX3_bestOrder, "PlateRoom"), (RX5, 107, yX2_strike, "PlateRoom"), (RX5, 117, yX2_lookOf, "PlateRoom"), (RX2, 37, yX5_has, "PlateRoom"), (RX5, 120, yX2_look, "PlateRoom"), (RX5, 250, yX3_statesWith, "PlateRoom"), (RX5, 127, yX4_put, "PlateRoom"), (RX5, 169, yX0_addMap, "PlateRoom"), (RX5, 172, yX0_mayComeFrom, "PlateRoom"), (RX5, 175, yX0_costOf, "PlateRoom"), (RX5, 178, yX0_hasMap, "PlateRoom"), (RX5, 181, yX0_cheapest, "PlateRoom"), (RX5, 184, yX0_rivalCount, "PlateRoom"), (RX5, 190, yX0_lifeOf, "PlateRoom"), (RX0, 53, yX5_has, "PlateRoom"), (RX5, 193, yX1_isPlace, "PlateRoom"), (RX5, 200, yX1_bore, "PlateRoom"), (RX5, 206, yX1_isShift, "PlateRoom"), (RX5, 209, yX1_fitting, "PlateRoom"), (RX5, 213, yX1_bestShift, "PlateRoom"), (RX5, 271, yX1_mostFitting, "PlateRoom")]
end
section
/-! PART 02.b: the walk over the world: one judgement G, a row an instruction -/
/-- what the tables say, in any state that stands behind the start -/
def wK (w : wD) (U : State) : Prop := va_K w.2.1 vwCl (wTys w) U ∧ (∀ q ∈ wNF, va_Nw (.fieldLinkNest q.1 q.2.1 q.2.2.1 q.2.2.2.1 q.2.2.2.2.1 q.2.2.2.2.2) U) ∧ ∀ q ∈ wNM, va_Nw (.methodLinkNest q.1 q.2.1 q.2.2.1 q.2.2.2) U
theorem wK.warm {w : wD} {s U : State} (h : wK w s) (hW : s.WarmedH U.vm) : wK w U := ⟨va_K.moved hW.alike h.1, fun q hq => va_Nw.warmF hW (h.2.1 q hq), fun q hq => va_Nw.warmM hW (h.2.2 q hq)⟩
theorem wK.calling {w : wD} {s : State} {g : JFrame} {mk : MethodId} {a : Array Value} (h : wK w s) : wK w (s.calling g mk a) := ⟨va_K.moved (u := s) (U := s.calling g mk a) (Vm.Alike.refl s.vm) h.1, fun q hq => va_Nw.same rfl (rfl : s.vm = (s.calling g mk a).vm) (h.2.1 q hq), fun q hq => va_Nw.same rfl (rfl : s.vm = (s.calling g mk a).vm) (h.2.2 q hq)⟩
/-- a frame of a method of the bytes cc, nL locals, the class own, room for fr frames below it and lo locals -/
def Cf (w : wD) (x : wX) (cc : ByteArray) (nL : Nat) (own : String) (fr lo : Nat) : Prop := match x with
  | (p, _, R, s, m, args, _, meth, c, kc, ks) => p.tables.exec = Jvm.exec ∧ c.code = cc ∧ c.maxLocals = nL ∧ s.vm.findClass own = some m.cls ∧ (∀ q ∈ wsU, q.before args s = true) ∧ wK w s ∧ meth.locks = false ∧ fr ≤ R.frames ∧ lo ≤ R.locals ∧ kc ≤ R.cells ∧ ks ≤ R.slots ∧ wOK w
def G (w : wD) (x : wX) (nL : Nat) (Q : State → Prop) (pc : Nat) (L : List (Nat × Value)) (S : List Value) (σ : wSt) : Prop := match x with
  | (p, e, R, s, m, args, below, meth, c, kc, ks) => ∀ (H : Heap) (locs : List Loc) (ls : Array Slot), wInv w σ H → va_S w.2.2.2.2 s.heap H locs → lv_has ls nL L → W p w.1 e R s m args below meth c H locs kc ks Q (F0 m pc ls S)
def Rt (x : wX) (ty : Option FieldType) : Prop := match x with
  | (_, _, _, _, _, _, _, meth, _, _, _) => meth.sig.returnType = ty
def QI (w : wD) (x : wX) (Post : Int32 → wSt → Prop) : State → Prop := match x with
  | (_, _, _, s, _, args, below, _, _, kc, ks) => MQ below (va_Qi Post (fun σ t => wInv w σ t.heap) w.2.2.2.2) args s kc ks w.2.2.2.2
def QL (w : wD) (x : wX) (Post : Int64 → wSt → Prop) : State → Prop := match x with
  | (_, _, _, s, _, args, below, _, _, kc, ks) => MQ below (va_Ql Post (fun σ t => wInv w σ t.heap) w.2.2.2.2) args s kc ks w.2.2.2.2
def QV (w : wD) (x : wX) (Post : wSt → Prop) : State → Prop := match x with
  | (_, _, _, s, _, args, below, _, _, kc, ks) => MQ below (va_Qv Post (fun σ t => wInv w σ t.heap) w.2.2.2.2) args s kc ks w.2.2.2.2
/-- the contracts: from the numbers σ, with the arguments av, the method returns, and Post holds of its answer and the numbers behind it -/
def MI (w : wD) (y : MethodName) (cc : ByteArray) (nL : Nat) (ret : Option FieldType) (fr lo : Nat) (av : List Value) (σ : wSt) (Post : Int32 → wSt → Prop) : Prop :=
  Met w.1 y (.code y cc nL ret :: wsU) { frames := fr, cells := 0, slots := 0, locals := lo } (va_Pc av (fun U => wInv w σ U.heap ∧ wK w U)) (va_Qi Post (fun σ t => wInv w σ t.heap) w.2.2.2.2) 0 0 w.2.2.2.2
def ML (w : wD) (y : MethodName) (cc : ByteArray) (nL : Nat) (ret : Option FieldType) (fr lo : Nat) (av : List Value) (σ : wSt) (Post : Int64 → wSt → Prop) : Prop :=
  Met w.1 y (.code y cc nL ret :: wsU) { frames := fr, cells := 0, slots := 0, locals := lo } (va_Pc av (fun U => wInv w σ U.heap ∧ wK w U)) (va_Ql Post (fun σ t => wInv w σ t.heap) w.2.2.2.2) 0 0 w.2.2.2.2
def MV (w : wD) (y : MethodName) (cc : ByteArray) (nL : Nat) (ret : Option FieldType) (fr lo : Nat) (av : List Value) (σ : wSt) (Post : wSt → Prop) : Prop :=
  Met w.1 y (.code y cc nL ret :: wsU) { frames := fr, cells := 0, slots := 0, locals := lo } (va_Pc av (fun U => wInv w σ U.heap ∧ wK w U)) (va_Qv Post (fun σ t => wInv w σ t.heap) w.2.2.2.2) 0 0 w.2.2.2.2
section MOF
variable {w : wD} {y : MethodName} {cc : ByteArray} {nL : Nat} {ret : Option FieldType} {fr lo : Nat} {av : List Value} {σ : wSt}
theorem MI.of {Post : Int32 → wSt → Prop} (hw : wOK w) (hy : plainName y.cls = true) (hn : (lg_sl av).length ≤ nL) (k : ∀ x : wX, Cf w x cc nL y.cls fr lo → Rt x ret → G w x nL (QI w x Post) 0 (lv_args 0 av) [] σ) : MI w y cc nL ret fr lo av σ Post := by
  refine Met.ofW (cc := cc) (maxL := nL) (ret := ret) hy rfl ?_
  intro p e s m args below meth c s₁ B hml hv
  obtain ⟨rfl, hI, hK⟩ := hv
  have hts := atoms_spec (ws := .code y cc nL ret :: wsU) B.pre
  have h := k (p, e, (headSpec (.code y cc nL ret :: wsU) { frames := fr, cells := 0, slots := 0, locals := lo }).room, s, m, av.toArray, below, meth, c, 0, 0) ⟨B.exec, B.bytes, hml, findClass_of_methodNamed B.named, fun q hq => hts q (List.mem_cons_of_mem _ hq), hK, B.notSynchronized, Nat.le_refl _, Nat.le_refl _, Nat.le_refl _, Nat.le_refl _, hw⟩ B.returns
  rw [lg_entry_eq]
  exact h s.heap [] _ hI va_S.rf (lv_entry av hn)
theorem ML.of {Post : Int64 → wSt → Prop} (hw : wOK w) (hy : plainName y.cls = true) (hn : (lg_sl av).length ≤ nL) (k : ∀ x : wX, Cf w x cc nL y.cls fr lo → Rt x ret → G w x nL (QL w x Post) 0 (lv_args 0 av) [] σ) : ML w y cc nL ret fr lo av σ Post := by
  refine Met.ofW (cc := cc) (maxL := nL) (ret := ret) hy rfl ?_
  intro p e s m args below meth c s₁ B hml hv
  obtain ⟨rfl, hI, hK⟩ := hv
  have hts := atoms_spec (ws := .code y cc nL ret :: wsU) B.pre
  have h := k (p, e, (headSpec (.code y cc nL ret :: wsU) { frames := fr, cells := 0, slots := 0, locals := lo }).room, s, m, av.toArray, below, meth, c, 0, 0) ⟨B.exec, B.bytes, hml, findClass_of_methodNamed B.named, fun q hq => hts q (List.mem_cons_of_mem _ hq), hK, B.notSynchronized, Nat.le_refl _, Nat.le_refl _, Nat.le_refl _, Nat.le_refl _, hw⟩ B.returns
  rw [lg_entry_eq]
  exact h s.heap [] _ hI va_S.rf (lv_entry av hn)
theorem MV.of {Post : wSt → Prop} (hw : wOK w) (hy : plainName y.cls = true) (hn : (lg_sl av).length ≤ nL) (k : ∀ x : wX, Cf w x cc nL y.cls fr lo → Rt x ret → G w x nL (QV w x Post) 0 (lv_args 0 av) [] σ) : MV w y cc nL ret fr lo av σ Post := by
  refine Met.ofW (cc := cc) (maxL := nL) (ret := ret) hy rfl ?_
  intro p e s m args below meth c s₁ B hml hv
  obtain ⟨rfl, hI, hK⟩ := hv
  have hts := atoms_spec (ws := .code y cc nL ret :: wsU) B.pre
  have h := k (p, e, (headSpec (.code y cc nL ret :: wsU) { frames := fr, cells := 0, slots := 0, locals := lo }).room, s, m, av.toArray, below, meth, c, 0, 0) ⟨B.exec, B.bytes, hml, findClass_of_methodNamed B.named, fun q hq => hts q (List.mem_cons_of_mem _ hq), hK, B.notSynchronized, Nat.le_refl _, Nat.le_refl _, Nat.le_refl _, Nat.le_refl _, hw⟩ B.returns
  rw [lg_entry_eq]
  exact h s.heap [] _ hI va_S.rf (lv_entry av hn)
end MOF
/-! the plain rows -/
section GROWS
variable {w : wD} {x : wX} {cc : ByteArray} {nL : Nat} {own : String} {fr lo : Nat} {Q : State → Prop} {pc : Nat} {L : List (Nat × Value)} {S : List Value} {σ : wSt}
theorem G.iconst (C : Cf w x cc nL own fr lo) {n : Int} {v : Int32} (hdg : decode cc pc = .ok (.iconst n, 1)) (hv : Int32.ofInt n = v) (kk : G w x nL Q (pc + 1) L (.int v :: S) σ) : G w x nL Q pc L (S) σ := by
  obtain ⟨p, e, R, s, m, args, below, meth, c, kc, ks⟩ := x
  obtain ⟨hx, hb, -⟩ := C
  intro H locs ls hI hS hl
  exact lv_iconst hx hb hdg hv (kk H locs ls hI hS hl)
theorem G.bipush (C : Cf w x cc nL own fr lo) {n : Int} {v : Int32} (hdg : decode cc pc = .ok (.bipush n, 2)) (hv : (Int8.ofInt n).toInt32 = v) (kk : G w x nL Q (pc + 2) L (.int v :: S) σ) : G w x nL Q pc L (S) σ := by
  obtain ⟨p, e, R, s, m, args, below, meth, c, kc, ks⟩ := x
  obtain ⟨hx, hb, -⟩ := C
  intro H locs ls hI hS hl
  exact lv_bipush hx hb hdg hv (kk H locs ls hI hS hl)
theorem G.sipush (C : Cf w x cc nL own fr lo) {n : Int} {v : Int32} (hdg : decode cc pc = .ok (.sipush n, 3)) (hv : (Int16.ofInt n).toInt32 = v) (kk : G w x nL Q (pc + 3) L (.int v :: S) σ) : G w x nL Q pc L (S) σ := by
  obtain ⟨p, e, R, s, m, args, below, meth, c, kc, ks⟩ := x
  obtain ⟨hx, hb, -⟩ := C
  intro H locs ls hI hS hl
  exact lv_sipush hx hb hdg hv (kk H locs ls hI hS hl)
theorem G.lconst (C : Cf w x cc nL own fr lo) {n : Fin 2} {v : Int64} (hdg : decode cc pc = .ok (.lconst n, 1)) (hv : Int64.ofNat (n : Nat) = v) (kk : G w x nL Q (pc + 1) L (.long v :: S) σ) : G w x nL Q pc L (S) σ := by
  obtain ⟨p, e, R, s, m, args, below, meth, c, kc, ks⟩ := x
  obtain ⟨hx, hb, -⟩ := C
  intro H locs ls hI hS hl
  exact lv_lconst hx hb hdg hv (kk H locs ls hI hS hl)
theorem G.iload_n (C : Cf w x cc nL own fr lo) (q : Nat) {k : Fin 4} {i : Nat} {v : Int32} (hdg : decode cc pc = .ok (.iload_n k, 1)) (hi : (k : Nat) = i) (hq : L[q]? = some (i, .int v)) (kk : G w x nL Q (pc + 1) L (.int v :: S) σ) : G w x nL Q pc L (S) σ := by
  obtain ⟨p, e, R, s, m, args, below, meth, c, kc, ks⟩ := x
  obtain ⟨hx, hb, -⟩ := C
  intro H locs ls hI hS hl
  exact lv_iload_n hx hb hdg hi (lv_at hl q hq) (kk H locs ls hI hS hl)
theorem G.iload (C : Cf w x cc nL own fr lo) (q : Nat) {i : Nat} {v : Int32} (hdg : decode cc pc = .ok (.iload i, 2)) (hq : L[q]? = some (i, .int v)) (kk : G w x nL Q (pc + 2) L (.int v :: S) σ) : G w x nL Q pc L (S) σ := by
  obtain ⟨p, e, R, s, m, args, below, meth, c, kc, ks⟩ := x
  obtain ⟨hx, hb, -⟩ := C
  intro H locs ls hI hS hl
  exact lv_iload hx hb hdg (lv_at hl q hq) (kk H locs ls hI hS hl)
theorem G.aload_n (C : Cf w x cc nL own fr lo) (q : Nat) {k : Fin 4} {i v : Nat} (hdg : decode cc pc = .ok (.aload_n k, 1)) (hi : (k : Nat) = i) (hq : L[q]? = some (i, .ref v)) (kk : G w x nL Q (pc + 1) L (.ref v :: S) σ) : G w x nL Q pc L (S) σ := by
  obtain ⟨p, e, R, s, m, args, below, meth, c, kc, ks⟩ := x
  obtain ⟨hx, hb, -⟩ := C
  intro H locs ls hI hS hl
  exact lv_aload_n hx hb hdg hi (lv_at hl q hq) (kk H locs ls hI hS hl)
theorem G.aload (C : Cf w x cc nL own fr lo) (q : Nat) {i v : Nat} (hdg : decode cc pc = .ok (.aload i, 2)) (hq : L[q]? = some (i, .ref v)) (kk : G w x nL Q (pc + 2) L (.ref v :: S) σ) : G w x nL Q pc L (S) σ := by
  obtain ⟨p, e, R, s, m, args, below, meth, c, kc, ks⟩ := x
  obtain ⟨hx, hb, -⟩ := C
  intro H locs ls hI hS hl
  exact lv_aload hx hb hdg (lv_at hl q hq) (kk H locs ls hI hS hl)
theorem G.iadd (C : Cf w x cc nL own fr lo) {u v : Int32} (hdg : decode cc pc = .ok (.iadd, 1)) (kk : G w x nL Q (pc + 1) L (.int (u + v) :: S) σ) : G w x nL Q pc L (.int v :: .int u :: S) σ := by
  obtain ⟨p, e, R, s, m, args, below, meth, c, kc, ks⟩ := x
  obtain ⟨hx, hb, -⟩ := C
  intro H locs ls hI hS hl
  exact lv_iadd hx hb hdg (kk H locs ls hI hS hl)
theorem G.isub (C : Cf w x cc nL own fr lo) {u v : Int32} (hdg : decode cc pc = .ok (.isub, 1)) (kk : G w x nL Q (pc + 1) L (.int (u - v) :: S) σ) : G w x nL Q pc L (.int v :: .int u :: S) σ := by
  obtain ⟨p, e, R, s, m, args, below, meth, c, kc, ks⟩ := x
  obtain ⟨hx, hb, -⟩ := C
  intro H locs ls hI hS hl
  exact lv_isub hx hb hdg (kk H locs ls hI hS hl)
theorem G.imul (C : Cf w x cc nL own fr lo) {u v : Int32} (hdg : decode cc pc = .ok (.imul, 1)) (kk : G w x nL Q (pc + 1) L (.int (u * v) :: S) σ) : G w x nL Q pc L (.int v :: .int u :: S) σ := by
  obtain ⟨p, e, R, s, m, args, below, meth, c, kc, ks⟩ := x
  obtain ⟨hx, hb, -⟩ := C
  intro H locs ls hI hS hl
  exact lv_imul hx hb hdg (kk H locs ls hI hS hl)
theorem G.iand (C : Cf w x cc nL own fr lo) {u v : Int32} (hdg : decode cc pc = .ok (.iand, 1)) (kk : G w x nL Q (pc + 1) L (.int (u &&& v) :: S) σ) : G w x nL Q pc L (.int v :: .int u :: S) σ := by
  obtain ⟨p, e, R, s, m, args, below, meth, c, kc, ks⟩ := x
  obtain ⟨hx, hb, -⟩ := C
  intro H locs ls hI hS hl
  exact lv_iand hx hb hdg (kk H locs ls hI hS hl)
theorem G.ior (C : Cf w x cc nL own fr lo) {u v : Int32} (hdg : decode cc pc = .ok (.ior, 1)) (kk : G w x nL Q (pc + 1) L (.int (u ||| v) :: S) σ) : G w x nL Q pc L (.int v :: .int u :: S) σ := by
  obtain ⟨p, e, R, s, m, args, below, meth, c, kc, ks⟩ := x
  obtain ⟨hx, hb, -⟩ := C
  intro H locs ls hI hS hl
  exact lv_ior hx hb hdg (kk H locs ls hI hS hl)
theorem G.ixor (C : Cf w x cc nL own fr lo) {u v : Int32} (hdg : decode cc pc = .ok (.ixor, 1)) (kk : G w x nL Q (pc + 1) L (.int (u ^^^ v) :: S) σ) : G w x nL Q pc L (.int v :: .int u :: S) σ := by
  obtain ⟨p, e, R, s, m, args, below, meth, c, kc, ks⟩ := x
  obtain ⟨hx, hb, -⟩ := C
  intro H locs ls hI hS hl
  exact lv_ixor hx hb hdg (kk H locs ls hI hS hl)
theorem G.ishl (C : Cf w x cc nL own fr lo) {u v : Int32} (hdg : decode cc pc = .ok (.ishl, 1)) (kk : G w x nL Q (pc + 1) L (.int (u <<< (v &&& 31)) :: S) σ) : G w x nL Q pc L (.int v :: .int u :: S) σ := by
  obtain ⟨p, e, R, s, m, args, below, meth, c, kc, ks⟩ := x
  obtain ⟨hx, hb, -⟩ := C
  intro H locs ls hI hS hl
  exact lv_ishl hx hb hdg (kk H locs ls hI hS hl)
theorem G.ishr (C : Cf w x cc nL own fr lo) {u v : Int32} (hdg : decode cc pc = .ok (.ishr, 1)) (kk : G w x nL Q (pc + 1) L (.int (u >>> (v &&& 31)) :: S) σ) : G w x nL Q pc L (.int v :: .int u :: S) σ := by
  obtain ⟨p, e, R, s, m, args, below, meth, c, kc, ks⟩ := x
  obtain ⟨hx, hb, -⟩ := C
  intro H locs ls hI hS hl
  exact lv_ishr hx hb hdg (kk H locs ls hI hS hl)
theorem G.idiv (C : Cf w x cc nL own fr lo) {u v : Int32} (hdg : decode cc pc = .ok (.idiv, 1)) (hne : ¬ v = 0) (kk : G w x nL Q (pc + 1) L (.int (u / v) :: S) σ) : G w x nL Q pc L (.int v :: .int u :: S) σ := by
  obtain ⟨p, e, R, s, m, args, below, meth, c, kc, ks⟩ := x
  obtain ⟨hx, hb, -⟩ := C
  intro H locs ls hI hS hl
  exact lv_idiv hx hb hdg hne (kk H locs ls hI hS hl)
theorem G.irem (C : Cf w x cc nL own fr lo) {u v : Int32} (hdg : decode cc pc = .ok (.irem, 1)) (hne : ¬ v = 0) (kk : G w x nL Q (pc + 1) L (.int (u - u / v * v) :: S) σ) : G w x nL Q pc L (.int v :: .int u :: S) σ := by
  obtain ⟨p, e, R, s, m, args, below, meth, c, kc, ks⟩ := x
  obtain ⟨hx, hb, -⟩ := C
  intro H locs ls hI hS hl
  exact lv_irem hx hb hdg hne (kk H locs ls hI hS hl)
theorem G.ineg (C : Cf w x cc nL own fr lo) {u : Int32} (hdg : decode cc pc = .ok (.ineg, 1)) (kk : G w x nL Q (pc + 1) L (.int (-u) :: S) σ) : G w x nL Q pc L (.int u :: S) σ := by
  obtain ⟨p, e, R, s, m, args, below, meth, c, kc, ks⟩ := x
  obtain ⟨hx, hb, -⟩ := C
  intro H locs ls hI hS hl
  exact lv_ineg hx hb hdg (kk H locs ls hI hS hl)
theorem G.ladd (C : Cf w x cc nL own fr lo) {u v : Int64} (hdg : decode cc pc = .ok (.ladd, 1)) (kk : G w x nL Q (pc + 1) L (.long (u + v) :: S) σ) : G w x nL Q pc L (.long v :: .long u :: S) σ := by
  obtain ⟨p, e, R, s, m, args, below, meth, c, kc, ks⟩ := x
  obtain ⟨hx, hb, -⟩ := C
  intro H locs ls hI hS hl
  exact lv_ladd hx hb hdg (kk H locs ls hI hS hl)
theorem G.lcmp (C : Cf w x cc nL own fr lo) {u v : Int64} (hdg : decode cc pc = .ok (.lcmp, 1)) (kk : G w x nL Q (pc + 1) L (.int (lg_cmp u v) :: S) σ) : G w x nL Q pc L (.long v :: .long u :: S) σ := by
  obtain ⟨p, e, R, s, m, args, below, meth, c, kc, ks⟩ := x
  obtain ⟨hx, hb, -⟩ := C
  intro H locs ls hI hS hl
  exact W.lcmp hx hb hdg (kk H locs ls hI hS hl)
theorem G.iushr (C : Cf w x cc nL own fr lo) {u v r : Int32} (hdg : decode cc pc = .ok (.iushr, 1)) (hv : (u.toUInt32 >>> (v.toUInt32 &&& Int32.toUInt32 31)).toInt32 = r) (kk : G w x nL Q (pc + 1) L (.int r :: S) σ) : G w x nL Q pc L (.int v :: .int u :: S) σ := by
  obtain ⟨p, e, R, s, m, args, below, meth, c, kc, ks⟩ := x
  obtain ⟨hx, hb, -⟩ := C
  intro H locs ls hI hS hl
  exact lv_iushr hx hb hdg hv (kk H locs ls hI hS hl)
theorem G.dup (C : Cf w x cc nL own fr lo) {va : Value} (hdg : decode cc pc = .ok (.dup, 1)) (hva : va.category = 1) (kk : G w x nL Q (pc + 1) L (va :: va :: S) σ) : G w x nL Q pc L (va :: S) σ := by
  obtain ⟨p, e, R, s, m, args, below, meth, c, kc, ks⟩ := x
  obtain ⟨hx, hb, -⟩ := C
  intro H locs ls hI hS hl
  exact lv_dup hx hb hdg hva (kk H locs ls hI hS hl)
theorem G.pop (C : Cf w x cc nL own fr lo) {va : Value} (hdg : decode cc pc = .ok (.pop, 1)) (hva : va.category = 1) (kk : G w x nL Q (pc + 1) L (S) σ) : G w x nL Q pc L (va :: S) σ := by
  obtain ⟨p, e, R, s, m, args, below, meth, c, kc, ks⟩ := x
  obtain ⟨hx, hb, -⟩ := C
  intro H locs ls hI hS hl
  exact lv_pop hx hb hdg hva (kk H locs ls hI hS hl)
theorem G.dup_x1 (C : Cf w x cc nL own fr lo) {va vb : Value} (hdg : decode cc pc = .ok (.dup_x1, 1)) (hva : va.category = 1) (hvb : vb.category = 1) (kk : G w x nL Q (pc + 1) L (va :: vb :: va :: S) σ) : G w x nL Q pc L (va :: vb :: S) σ := by
  obtain ⟨p, e, R, s, m, args, below, meth, c, kc, ks⟩ := x
  obtain ⟨hx, hb, -⟩ := C
  intro H locs ls hI hS hl
  exact lv_dup_x1 hx hb hdg hva hvb (kk H locs ls hI hS hl)
theorem G.dup_x2 (C : Cf w x cc nL own fr lo) {va vb vd : Value} (hdg : decode cc pc = .ok (.dup_x2, 1)) (hva : va.category = 1) (hvb : vb.category = 1) (hvd : vd.category = 1) (kk : G w x nL Q (pc + 1) L (va :: vb :: vd :: va :: S) σ) : G w x nL Q pc L (va :: vb :: vd :: S) σ := by
  obtain ⟨p, e, R, s, m, args, below, meth, c, kc, ks⟩ := x
  obtain ⟨hx, hb, -⟩ := C
  intro H locs ls hI hS hl
  exact lv_dup_x2 hx hb hdg hva hvb hvd (kk H locs ls hI hS hl)
theorem G.dup2 (C : Cf w x cc nL own fr lo) {va vb : Value} (hdg : decode cc pc = .ok (.dup2, 1)) (hva : va.category = 1) (hvb : vb.category = 1) (kk : G w x nL Q (pc + 1) L (va :: vb :: va :: vb :: S) σ) : G w x nL Q pc L (va :: vb :: S) σ := by
  obtain ⟨p, e, R, s, m, args, below, meth, c, kc, ks⟩ := x
  obtain ⟨hx, hb, -⟩ := C
  intro H locs ls hI hS hl
  exact lv_dup2_11 hx hb hdg hva hvb (kk H locs ls hI hS hl)
theorem G.goto (C : Cf w x cc nL own fr lo) {off : Int} {tgt : Nat} (hdg : decode cc pc = .ok (.goto off, 3)) (ht : (pc : Int) + off = (tgt : Int)) (kk : G w x nL Q tgt L (S) σ) : G w x nL Q pc L (S) σ := by
  obtain ⟨p, e, R, s, m, args, below, meth, c, kc, ks⟩ := x
  obtain ⟨hx, hb, -⟩ := C
  intro H locs ls hI hS hl
  exact lv_goto hx hb hdg ht (kk H locs ls hI hS hl)
theorem G.if_eq (C : Cf w x cc nL own fr lo) {u : Int32} {off : Int} {tgt : Nat} (hdg : decode cc pc = .ok (.ifCond .eq off, 3)) (ht : (pc : Int) + off = (tgt : Int)) (kt : u = 0 → G w x nL Q tgt L S σ) (kf : ¬ (u = 0) → G w x nL Q (pc + 3) L S σ) : G w x nL Q pc L (.int u :: S) σ := by
  obtain ⟨p, e, R, s, m, args, below, meth, c, kc, ks⟩ := x
  obtain ⟨hx, hb, -⟩ := C
  intro H locs ls hI hS hl
  exact lv_if_eq hx hb hdg ht (fun h => kt h H locs ls hI hS hl) (fun h => kf (h) H locs ls hI hS hl)
theorem G.icmp_eq (C : Cf w x cc nL own fr lo) {u v : Int32} {off : Int} {tgt : Nat} (hdg : decode cc pc = .ok (.if_icmp .eq off, 3)) (ht : (pc : Int) + off = (tgt : Int)) (kt : u = v → G w x nL Q tgt L S σ) (kf : ¬ (u = v) → G w x nL Q (pc + 3) L S σ) : G w x nL Q pc L (.int v :: .int u :: S) σ := by
  obtain ⟨p, e, R, s, m, args, below, meth, c, kc, ks⟩ := x
  obtain ⟨hx, hb, -⟩ := C
  intro H locs ls hI hS hl
  exact lv_icmp_eq hx hb hdg ht (fun h => kt h H locs ls hI hS hl) (fun h => kf (h) H locs ls hI hS hl)
theorem G.if_ne (C : Cf w x cc nL own fr lo) {u : Int32} {off : Int} {tgt : Nat} (hdg : decode cc pc = .ok (.ifCond .ne off, 3)) (ht : (pc : Int) + off = (tgt : Int)) (kt : ¬ u = 0 → G w x nL Q tgt L S σ) (kf : u = 0 → G w x nL Q (pc + 3) L S σ) : G w x nL Q pc L (.int u :: S) σ := by
  obtain ⟨p, e, R, s, m, args, below, meth, c, kc, ks⟩ := x
  obtain ⟨hx, hb, -⟩ := C
  intro H locs ls hI hS hl
  exact lv_if_ne hx hb hdg ht (fun h => kt h H locs ls hI hS hl) (fun h => kf (h) H locs ls hI hS hl)
theorem G.icmp_ne (C : Cf w x cc nL own fr lo) {u v : Int32} {off : Int} {tgt : Nat} (hdg : decode cc pc = .ok (.if_icmp .ne off, 3)) (ht : (pc : Int) + off = (tgt : Int)) (kt : ¬ u = v → G w x nL Q tgt L S σ) (kf : u = v → G w x nL Q (pc + 3) L S σ) : G w x nL Q pc L (.int v :: .int u :: S) σ := by
  obtain ⟨p, e, R, s, m, args, below, meth, c, kc, ks⟩ := x
  obtain ⟨hx, hb, -⟩ := C
  intro H locs ls hI hS hl
  exact lv_icmp_ne hx hb hdg ht (fun h => kt h H locs ls hI hS hl) (fun h => kf (h) H locs ls hI hS hl)
theorem G.if_lt (C : Cf w x cc nL own fr lo) {u : Int32} {off : Int} {tgt : Nat} (hdg : decode cc pc = .ok (.ifCond .lt off, 3)) (ht : (pc : Int) + off = (tgt : Int)) (kt : u < 0 → G w x nL Q tgt L S σ) (kf : ¬ (u < 0) → G w x nL Q (pc + 3) L S σ) : G w x nL Q pc L (.int u :: S) σ := by
  obtain ⟨p, e, R, s, m, args, below, meth, c, kc, ks⟩ := x
  obtain ⟨hx, hb, -⟩ := C
  intro H locs ls hI hS hl
  exact lv_if_lt hx hb hdg ht (fun h => kt h H locs ls hI hS hl) (fun h => kf (h) H locs ls hI hS hl)
theorem G.icmp_lt (C : Cf w x cc nL own fr lo) {u v : Int32} {off : Int} {tgt : Nat} (hdg : decode cc pc = .ok (.if_icmp .lt off, 3)) (ht : (pc : Int) + off = (tgt : Int)) (kt : u < v → G w x nL Q tgt L S σ) (kf : ¬ (u < v) → G w x nL Q (pc + 3) L S σ) : G w x nL Q pc L (.int v :: .int u :: S) σ := by
  obtain ⟨p, e, R, s, m, args, below, meth, c, kc, ks⟩ := x
  obtain ⟨hx, hb, -⟩ := C
  intro H locs ls hI hS hl
  exact lv_icmp_lt hx hb hdg ht (fun h => kt h H locs ls hI hS hl) (fun h => kf (h) H locs ls hI hS hl)
theorem G.if_ge (C : Cf w x cc nL own fr lo) {u : Int32} {off : Int} {tgt : Nat} (hdg : decode cc pc = .ok (.ifCond .ge off, 3)) (ht : (pc : Int) + off = (tgt : Int)) (kt : 0 ≤ u → G w x nL Q tgt L S σ) (kf : ¬ (0 ≤ u) → G w x nL Q (pc + 3) L S σ) : G w x nL Q pc L (.int u :: S) σ := by
  obtain ⟨p, e, R, s, m, args, below, meth, c, kc, ks⟩ := x
  obtain ⟨hx, hb, -⟩ := C
  intro H locs ls hI hS hl
  exact lv_if_ge hx hb hdg ht (fun h => kt h H locs ls hI hS hl) (fun h => kf (h) H locs ls hI hS hl)
theorem G.icmp_ge (C : Cf w x cc nL own fr lo) {u v : Int32} {off : Int} {tgt : Nat} (hdg : decode cc pc = .ok (.if_icmp .ge off, 3)) (ht : (pc : Int) + off = (tgt : Int)) (kt : v ≤ u → G w x nL Q tgt L S σ) (kf : ¬ (v ≤ u) → G w x nL Q (pc + 3) L S σ) : G w x nL Q pc L (.int v :: .int u :: S) σ := by
  obtain ⟨p, e, R, s, m, args, below, meth, c, kc, ks⟩ := x
  obtain ⟨hx, hb, -⟩ := C
  intro H locs ls hI hS hl
  exact lv_icmp_ge hx hb hdg ht (fun h => kt h H locs ls hI hS hl) (fun h => kf (h) H locs ls hI hS hl)
theorem G.if_gt (C : Cf w x cc nL own fr lo) {u : Int32} {off : Int} {tgt : Nat} (hdg : decode cc pc = .ok (.ifCond .gt off, 3)) (ht : (pc : Int) + off = (tgt : Int)) (kt : 0 < u → G w x nL Q tgt L S σ) (kf : ¬ (0 < u) → G w x nL Q (pc + 3) L S σ) : G w x nL Q pc L (.int u :: S) σ := by
  obtain ⟨p, e, R, s, m, args, below, meth, c, kc, ks⟩ := x
  obtain ⟨hx, hb, -⟩ := C
  intro H locs ls hI hS hl
  exact lv_if_gt hx hb hdg ht (fun h => kt h H locs ls hI hS hl) (fun h => kf (h) H locs ls hI hS hl)
theorem G.icmp_gt (C : Cf w x cc nL own fr lo) {u v : Int32} {off : Int} {tgt : Nat} (hdg : decode cc pc = .ok (.if_icmp .gt off, 3)) (ht : (pc : Int) + off = (tgt : Int)) (kt : v < u → G w x nL Q tgt L S σ) (kf : ¬ (v < u) → G w x nL Q (pc + 3) L S σ) : G w x nL Q pc L (.int v :: .int u :: S) σ := by
  obtain ⟨p, e, R, s, m, args, below, meth, c, kc, ks⟩ := x
  obtain ⟨hx, hb, -⟩ := C
  intro H locs ls hI hS hl
  exact lv_icmp_gt hx hb hdg ht (fun h => kt h H locs ls hI hS hl) (fun h => kf (h) H locs ls hI hS hl)
theorem G.if_le (C : Cf w x cc nL own fr lo) {u : Int32} {off : Int} {tgt : Nat} (hdg : decode cc pc = .ok (.ifCond .le off, 3)) (ht : (pc : Int) + off = (tgt : Int)) (kt : u ≤ 0 → G w x nL Q tgt L S σ) (kf : ¬ (u ≤ 0) → G w x nL Q (pc + 3) L S σ) : G w x nL Q pc L (.int u :: S) σ := by
  obtain ⟨p, e, R, s, m, args, below, meth, c, kc, ks⟩ := x
  obtain ⟨hx, hb, -⟩ := C
  intro H locs ls hI hS hl
  exact lv_if_le hx hb hdg ht (fun h => kt h H locs ls hI hS hl) (fun h => kf (h) H locs ls hI hS hl)
theorem G.icmp_le (C : Cf w x cc nL own fr lo) {u v : Int32} {off : Int} {tgt : Nat} (hdg : decode cc pc = .ok (.if_icmp .le off, 3)) (ht : (pc : Int) + off = (tgt : Int)) (kt : u ≤ v → G w x nL Q tgt L S σ) (kf : ¬ (u ≤ v) → G w x nL Q (pc + 3) L S σ) : G w x nL Q pc L (.int v :: .int u :: S) σ := by
  obtain ⟨p, e, R, s, m, args, below, meth, c, kc, ks⟩ := x
  obtain ⟨hx, hb, -⟩ := C
  intro H locs ls hI hS hl
  exact lv_icmp_le hx hb hdg ht (fun h => kt h H locs ls hI hS hl) (fun h => kf (h) H locs ls hI hS hl)
theorem G.istore_n (C : Cf w x cc nL own fr lo) {L1 : List (Nat × Value)} {k : Fin 4} {i : Nat} {v : Int32} (hdg : decode cc pc = .ok (.istore_n k, 1)) (hi : (k : Nat) = i) (hn : i < nL) (hL : (i, Value.int v) :: L.filter (fun q => !(q.1 == i) && !(q.1 + 1 == i && q.2.category == 2)) = L1) (kk : G w x nL Q (pc + 1) L1 S σ) : G w x nL Q pc L (.int v :: S) σ := by
  obtain ⟨p, e, R, s, m, args, below, meth, c, kc, ks⟩ := x
  obtain ⟨hx, hb, -⟩ := C
  intro H locs ls hI hS hl
  exact lv_istore_n hx hb hdg hi hl hn hL (fun ls2 hl2 => kk H locs ls2 hI hS hl2)
theorem G.istore (C : Cf w x cc nL own fr lo) {L1 : List (Nat × Value)} {i : Nat} {v : Int32} (hdg : decode cc pc = .ok (.istore i, 2)) (hn : i < nL) (hL : (i, Value.int v) :: L.filter (fun q => !(q.1 == i) && !(q.1 + 1 == i && q.2.category == 2)) = L1) (kk : G w x nL Q (pc + 2) L1 S σ) : G w x nL Q pc L (.int v :: S) σ := by
  obtain ⟨p, e, R, s, m, args, below, meth, c, kc, ks⟩ := x
  obtain ⟨hx, hb, -⟩ := C
  intro H locs ls hI hS hl
  exact lv_istore hx hb hdg hl hn hL (fun ls2 hl2 => kk H locs ls2 hI hS hl2)
theorem G.astore_n (C : Cf w x cc nL own fr lo) {L1 : List (Nat × Value)} {k : Fin 4} {i v : Nat} (hdg : decode cc pc = .ok (.astore_n k, 1)) (hi : (k : Nat) = i) (hn : i < nL) (hL : (i, Value.ref v) :: L.filter (fun q => !(q.1 == i) && !(q.1 + 1 == i && q.2.category == 2)) = L1) (kk : G w x nL Q (pc + 1) L1 S σ) : G w x nL Q pc L (.ref v :: S) σ := by
  obtain ⟨p, e, R, s, m, args, below, meth, c, kc, ks⟩ := x
  obtain ⟨hx, hb, -⟩ := C
  intro H locs ls hI hS hl
  exact lv_astore_n hx hb hdg hi hl hn hL (fun ls2 hl2 => kk H locs ls2 hI hS hl2)
theorem G.astore (C : Cf w x cc nL own fr lo) {L1 : List (Nat × Value)} {i v : Nat} (hdg : decode cc pc = .ok (.astore i, 2)) (hn : i < nL) (hL : (i, Value.ref v) :: L.filter (fun q => !(q.1 == i) && !(q.1 + 1 == i && q.2.category == 2)) = L1) (kk : G w x nL Q (pc + 2) L1 S σ) : G w x nL Q pc L (.ref v :: S) σ := by
  obtain ⟨p, e, R, s, m, args, below, meth, c, kc, ks⟩ := x
  obtain ⟨hx, hb, -⟩ := C
  intro H locs ls hI hS hl
  exact lv_astore hx hb hdg hl hn hL (fun ls2 hl2 => kk H locs ls2 hI hS hl2)
theorem G.iinc (C : Cf w x cc nL own fr lo) {L1 : List (Nat × Value)} (q : Nat) {i : Nat} {n : Int} {u v : Int32} (hdg : decode cc pc = .ok (.iinc i n, 3)) (hq : L[q]? = some (i, .int u)) (hv : u + Int32.ofInt n = v) (hn : i < nL) (hL : (i, Value.int v) :: L.filter (fun q => !(q.1 == i) && !(q.1 + 1 == i && q.2.category == 2)) = L1) (kk : G w x nL Q (pc + 3) L1 S σ) : G w x nL Q pc L S σ := by
  obtain ⟨p, e, R, s, m, args, below, meth, c, kc, ks⟩ := x
  obtain ⟨hx, hb, -⟩ := C
  intro H locs ls hI hS hl
  exact lv_iinc hx hb hdg hl hq hv hn hL (fun ls2 hl2 => kk H locs ls2 hI hS hl2)
/-- fewer locals, in another order -/
theorem G.sub {L1 : List (Nat × Value)} (ks : List Nat) (hL : lv_pick L ks = L1) (kk : G w x nL Q pc L1 S σ) : G w x nL Q pc L S σ := by
  obtain ⟨p, e, R, s, m, args, below, meth, c, kc, kt⟩ := x
  intro H locs ls hI hS hl
  exact kk H locs ls hI hS (lv_sub hl ks hL)
theorem G.ldc (C : Cf w x cc nL own fr lo) {index : Nat} {v : Int32} (hw : Cond.constant own index v ∈ wsU) (hdg : decode cc pc = .ok (.ldc index, 2)) (kk : G w x nL Q (pc + 2) L (.int v :: S) σ) : G w x nL Q pc L S σ := by
  obtain ⟨p, e, R, s, m, args, below, meth, c, kc, ks⟩ := x
  obtain ⟨hx, hb, -, hown, hts, -⟩ := C
  intro H locs ls hI hS hl
  exact lv_ldc hx hb hown (hts _ hw) hdg (kk H locs ls hI hS hl)
theorem G.ldc_w (C : Cf w x cc nL own fr lo) {index : Nat} {v : Int32} (hw : Cond.constant own index v ∈ wsU) (hdg : decode cc pc = .ok (.ldc_w index, 3)) (kk : G w x nL Q (pc + 3) L (.int v :: S) σ) : G w x nL Q pc L S σ := by
  obtain ⟨p, e, R, s, m, args, below, meth, c, kc, ks⟩ := x
  obtain ⟨hx, hb, -, hown, hts, -⟩ := C
  intro H locs ls hI hS hl
  exact lv_ldcw hx hb hown (hts _ hw) hdg (kk H locs ls hI hS hl)
theorem G.ldc2 (C : Cf w x cc nL own fr lo) {index : Nat} {v : Int64} (hw : Cond.constantLong own index v ∈ wsU) (hdg : decode cc pc = .ok (.ldc2_w index, 3)) (kk : G w x nL Q (pc + 3) L (.long v :: S) σ) : G w x nL Q pc L S σ := by
  obtain ⟨p, e, R, s, m, args, below, meth, c, kc, ks⟩ := x
  obtain ⟨hx, hb, -, hown, hts, -⟩ := C
  intro H locs ls hI hS hl
  exact lv_ldc2 hx hb hown (hts _ hw) hdg (kk H locs ls hI hS hl)
theorem G.iret (C : Cf w x cc nL own fr lo) {Post : Int32 → wSt → Prop} {v : Int32} (hr : Rt x (some .int)) (hdg : decode cc pc = .ok (.ireturn, 1)) (hp : Post v σ) : G w x nL (QI w x Post) pc L [.int v] σ := by
  obtain ⟨p, e, R, s, m, args, below, meth, c, kc, ks⟩ := x
  obtain ⟨hx, hb, -, -, -, -, hlocks, -⟩ := C
  intro H locs ls hI hS hl
  exact W.iret hx hb hr (fun t ht hW => ⟨⟨v, σ, rfl, hp, show wInv w σ t.heap by rw [ht]; exact hI⟩, hS.F ht⟩) hS.2.2 hdg hlocks
theorem G.lret (C : Cf w x cc nL own fr lo) {Post : Int64 → wSt → Prop} {v : Int64} (hr : Rt x (some .long)) (hdg : decode cc pc = .ok (.lreturn, 1)) (hp : Post v σ) : G w x nL (QL w x Post) pc L [.long v] σ := by
  obtain ⟨p, e, R, s, m, args, below, meth, c, kc, ks⟩ := x
  obtain ⟨hx, hb, -, -, -, -, hlocks, -⟩ := C
  intro H locs ls hI hS hl
  exact W.lret hx hb hr (fun t ht hW => ⟨⟨v, σ, rfl, hp, show wInv w σ t.heap by rw [ht]; exact hI⟩, hS.F ht⟩) hS.2.2 hdg hlocks
theorem G.zret (C : Cf w x cc nL own fr lo) {Post : Int32 → wSt → Prop} {v : Int32} (hr : Rt x (some .boolean)) (hn : narrow .boolean (.int v) = .int v) (hdg : decode cc pc = .ok (.ireturn, 1)) (hp : Post v σ) : G w x nL (QI w x Post) pc L [.int v] σ := by
  obtain ⟨p, e, R, s, m, args, below, meth, c, kc, ks⟩ := x
  obtain ⟨hx, hb, -, -, -, -, hlocks, -⟩ := C
  intro H locs ls hI hS hl
  exact W.zret hx hb hr hn (fun t ht hW => ⟨⟨v, σ, rfl, hp, show wInv w σ t.heap by rw [ht]; exact hI⟩, hS.F ht⟩) hS.2.2 hdg hlocks
theorem G.vret (C : Cf w x cc nL own fr lo) {Post : wSt → Prop} (hr : Rt x none) (hdg : decode cc pc = .ok (.return_, 1)) (hp : Post σ) : G w x nL (QV w x Post) pc L [] σ := by
  obtain ⟨p, e, R, s, m, args, below, meth, c, kc, ks⟩ := x
  obtain ⟨hx, hb, -, -, -, -, hlocks, -⟩ := C
  intro H locs ls hI hS hl
  exact W.vret hx hb hr (fun t ht hW => ⟨⟨σ, rfl, hp, show wInv w σ t.heap by rw [ht]; exact hI⟩, hS.F ht⟩) hS.2.2 hdg hlocks
end GROWS
end
section
/-! PART 02.c: the rows that read and write the heap, and the calls -/
/-- one number becomes v -/
def wUp (s : wSt) (g i k : Nat) (v : Int32) : wSt := (fun g1 i1 k1 => if g1 = g ∧ i1 = i ∧ k1 = k then v else s.1 g1 i1 k1, s.2)
def wUpL (s : wSt) (j : Nat) (v : Int64) : wSt := (s.1, fun j1 => if j1 = j then v else s.2 j1)
theorem wUp_eq {s : wSt} {g i k : Nat} {v : Int32} : (wUp s g i k v).1 g i k = v := by simp [wUp]
theorem wUp_ne {s : wSt} {g i k g1 i1 k1 : Nat} {v : Int32} (h : ¬ (g1 = g ∧ i1 = i ∧ k1 = k)) : (wUp s g i k v).1 g1 i1 k1 = s.1 g1 i1 k1 := by
  show (if g1 = g ∧ i1 = i ∧ k1 = k then v else s.1 g1 i1 k1) = _
  rw [if_neg h]
theorem wUp_2 {s : wSt} {g i k : Nat} {v : Int32} : (wUp s g i k v).2 = s.2 := rfl
theorem wUpL_1 {s : wSt} {j : Nat} {v : Int64} : (wUpL s j v).1 = s.1 := rfl
theorem wUpL_eq {s : wSt} {j : Nat} {v : Int64} : (wUpL s j v).2 j = v := by simp [wUpL]
theorem wUpL_ne {s : wSt} {j j1 : Nat} {v : Int64} (h : ¬ j1 = j) : (wUpL s j v).2 j1 = s.2 j1 := by simp [wUpL, h]
/-- a cell's picture speaks of its own numbers alone -/
theorem wCt_congr {cy : Nat → ClassId} {E : Nat → Nat → Nat} {s t : wSt} {g i : Nat} (h1 : t.1 g i = s.1 g i) (h2 : t.2 = s.2) : wCt cy E t g i = wCt cy E s g i := by
  unfold wCt
  split <;> first | (rw [h1, h2]; done) | (rw [h1]; done) | rfl
theorem wCt_congrL {cy : Nat → ClassId} {E : Nat → Nat → Nat} {s t : wSt} {g i : Nat} (h1 : t.1 g i = s.1 g i) (h2 : ¬ g = 0) (h3 : ¬ g = 20) : wCt cy E t g i = wCt cy E s g i := by
  unfold wCt
  split <;> first | exact absurd rfl h2 | exact absurd rfl h3 | (rw [h1]; done) | rfl
theorem wInv.up {w : wD} {σ : wSt} {H H1 : Heap} {g i k : Nat} {v : Int32} (hI : wInv w σ H) (hw : wOK w) (hi : i < wN g) (h1 : va_at w.2.1 vwCl (w.2.2.2.1 g i, wCt w.2.2.1 w.2.2.2.1 (wUp σ g i k v) g i) H1) (hq : ∀ q, q ≠ w.2.2.2.1 g i → H1[q]? = H[q]?) : wInv w (wUp σ g i k v) H1 := by
  intro g1 i1 hi1
  by_cases e : g1 = g ∧ i1 = i
  · obtain ⟨rfl, rfl⟩ := e
    exact h1
  · rw [wCt_congr (s := σ) (t := wUp σ g i k v) (funext fun k1 => wUp_ne fun z => e ⟨z.1, z.2.1⟩) rfl]
    exact (hI g1 i1 hi1).kept (hq _ fun z => e (hw.1 g1 i1 g i hi1 hi z))
theorem wInv.upL {w : wD} {σ : wSt} {H H1 : Heap} {g i j : Nat} {v : Int64} (hI : wInv w σ H) (hw : wOK w) (hi : i < wN g) (hg : (j = 0 ∧ g = 0) ∨ (j = 1 ∧ g = 20)) (h1 : va_at w.2.1 vwCl (w.2.2.2.1 g i, wCt w.2.2.1 w.2.2.2.1 (wUpL σ j v) g i) H1) (hq : ∀ q, q ≠ w.2.2.2.1 g i → H1[q]? = H[q]?) : wInv w (wUpL σ j v) H1 := by
  have hi0 : i = 0 := by
    rcases hg with ⟨-, rfl⟩ | ⟨-, rfl⟩
    · exact Nat.lt_one_iff.mp hi
    · exact Nat.lt_one_iff.mp hi
  subst hi0
  intro g1 i1 hi1
  by_cases e : g1 = g ∧ i1 = 0
  · obtain ⟨rfl, rfl⟩ := e
    exact h1
  · have hc : wCt w.2.2.1 w.2.2.2.1 (wUpL σ j v) g1 i1 = wCt w.2.2.1 w.2.2.2.1 σ g1 i1 := by
      by_cases e0 : g1 = 0
      · subst e0
        have e1 : i1 = 0 := Nat.lt_one_iff.mp hi1
        rcases hg with ⟨rfl, rfl⟩ | ⟨rfl, rfl⟩
        · exact absurd ⟨rfl, e1⟩ e
        · rfl
      · by_cases e2 : g1 = 20
        · subst e2
          have e1 : i1 = 0 := Nat.lt_one_iff.mp hi1
          rcases hg with ⟨rfl, rfl⟩ | ⟨rfl, rfl⟩
          · rfl
          · exact absurd ⟨rfl, e1⟩ e
        · exact wCt_congrL rfl e0 e2
    rw [hc]
    exact (hI g1 i1 hi1).kept (hq _ fun z => e (hw.1 g1 i1 g 0 hi1 hi z))
def wLkB (own : String) (index : Nat) (ref n d : String) (args : Array Value) (s : State) : Option String → Bool
  | none => (Cond.fieldLink own index ref n d).before args s
  | some h => (Cond.fieldLinkNest own index ref n d h).before args s
section HV
variable {p : Program} {l : Launch} {e : Env} {R : Room} {s : State} {m : MethodId} {args : Array Value} {below : List Frame} {meth : Method} {c : Code} {H : Heap} {locs : List Loc} {cells slots : Nat} {Q : State → Prop}
variable {cc : ByteArray} {pc : Nat} {ls : Array Slot} {rest : List Value} {D : va_G} {cl : List vw_C} {a : Nat} {tys : List (ClassId × FieldType)}
theorem xw_one {q : Nat × va_E} (h : va_at D cl q H) : va_P D cl [q] H := fun k q1 hq => by
  have h0 : k = 0 := by
    have := (List.getElem?_eq_some_iff.mp hq).1
    simp at this
    exact this
  subst h0
  cases hq
  exact h
theorem xw_put (hexec : p.tables.exec = Jvm.exec) (hb : c.code = cc) {own ref C : String} {T : u_T} {N ci index : Nat} (hin : ∀ w ∈ u_ws C T N, w.before args s = true) (ty0 : Nat → FieldType) (hty : ∀ k, k < N → parseFieldDescriptor (T k).2.2.1 = some (ty0 k)) (hnm : ∀ a, a < N → ∀ b, b < N → a ≠ b → (T a).2.1 ≠ (T b).2.1) (hown : s.vm.findClass own = some m.cls) (hK : va_K D cl tys s) {fs : List Value} (hP : va_at D cl (a, .inr (ci, fs)) H) (hc : cl[ci]? = some (C, T, N)) (k : Nat) (hk : k < N) (host : Option String) (hlink : wLkB own index ref (T k).2.1 (T k).2.2.1 args s host = true) (hsame : (T k).1 = ref) (hfin : (T k).2.2.2 = false) {ty : FieldType} {v : Value} (hd : parseFieldDescriptor (T k).2.2.1 = some ty) (hn : narrow ty v = v) (hfit : fits ty v = true) (hl : k < fs.length)
    (hdg : decode cc pc = .ok (.putfield index, 3)) (kk : ∀ (H1 : Heap) (i : Nat), va_at D cl (a, .inr (ci, fs.set k v)) H1 → H1.size = H.size → (∀ q, q ≠ a → H1[q]? = H[q]?) → W p l e R s m args below meth c H1 (locs ++ [⟨a, i⟩]) cells slots Q (F0 m (pc + 3) ls rest)) : W p l e R s m args below meth c H locs cells slots Q (F0 m pc ls (v :: .ref a :: rest)) := by
  have hap := va_apart (own := own) (args := args) (Ts := u_ws C T N) hin (fun _ h => h) ty0 hty hnm hK hc
  obtain ⟨r, h1, cell, q1, q2, q3, q4⟩ := hP
  have hr : r = (C, T, N) := Option.some.inj (h1.symm.trans hc)
  subst hr
  obtain ⟨hS, hfc, kC, hkC, hkind⟩ := hK.1 ci _ hc
  obtain ⟨cf, kf, fi, f, hi, hsl⟩ := hS k hk
  have hlay := hin _ (u_in_lay hk)
  unfold u_lay at hlay
  rw [if_neg (by rw [hfin]; decide)] at hlay
  have hst := (u_facts hfc hkC (u_lays (ws := u_ws C T N) hin (fun _ h => h) hk) hi).1
  have h6 := u_store hfc hkC hkind hlay hi hd hn hfit
  have hi2 : s.fieldFound? ref (T k).2.1 (T k).2.2.1 = some (cf, kf, fi, f) := by rw [← hsame]; exact hi
  have go : ∀ H' : Heap, H'[a]? = some (cell.setSlot f.slot v) → H'.size = H.size → (∀ q, q ≠ a → H'[q]? = H[q]?) → W p l e R s m args below meth c H' (locs ++ [⟨a, f.slot⟩]) cells slots Q (F0 m (pc + 3) ls rest) := fun H' e1 e2 e3 => by
    rw [hsl] at e1 ⊢
    exact kk H' _ ⟨_, hc, t_OB.to (V := updV (vp_V fs) k v) ⟨_, e1, q2, q3, t_set q4 hap hk v⟩ (fun j _ => vp_updV_set hl v j)⟩ e2 e3
  cases host with
  | none => exact W.putK hexec hb (f := f) ⟨hown, hlink, ⟨_, _, _, hi2⟩, hst⟩ (by rw [q2]; exact h6) q1 q3 (by rw [hsl]; exact k2_hasslot (q4 k hk)) rfl rfl hdg go
  | some h => exact va_WputK hexec hb (f := f) hown hlink hi2 hst (by rw [q2]; exact h6) q1 q3 (by rw [hsl]; exact k2_hasslot (q4 k hk)) rfl rfl hdg go
theorem xw_get (hexec : p.tables.exec = Jvm.exec) (hb : c.code = cc) {own ref C : String} {T : u_T} {N ci index : Nat} (hin : ∀ w ∈ u_ws C T N, w.before args s = true) (hown : s.vm.findClass own = some m.cls) (hK : va_K D cl tys s) {fs : List Value} (hP : va_at D cl (a, .inr (ci, fs)) H) (hc : cl[ci]? = some (C, T, N)) (k : Nat) (hk : k < N) (host : Option String) (hlink : wLkB own index ref (T k).2.1 (T k).2.2.1 args s host = true) (hsame : (T k).1 = ref) {v : Value} (hv : fs[k]? = some v) (hdg : decode cc pc = .ok (.getfield index, 3))
    (kk : W p l e R s m args below meth c H locs cells slots Q (F0 m (pc + 3) ls (v :: rest))) : W p l e R s m args below meth c H locs cells slots Q (F0 m pc ls (.ref a :: rest)) := by
  cases host with
  | none => exact va_get (D := D) (Ts := u_ws C T N) hexec hb hin (fun _ h => h) hown hK (xw_one hP) 0 rfl hc k hk hlink (fun x h => by rw [← hsame]; exact h) hv hdg kk
  | some h => exact va_getN (D := D) (Ts := u_ws C T N) hexec hb hin (fun _ h => h) hown hK (xw_one hP) 0 rfl hc k hk hlink (fun x h => by rw [← hsame]; exact h) hv hdg kk
theorem xw_iast (hexec : p.tables.exec = Jvm.exec) (hb : c.code = cc) (hK : va_K D cl tys s) (t0 : Nat) {cA : ClassId} {n : Nat} {f : Nat → Int32} (hP : va_at D cl (a, .inl (cA, n, .inl f)) H) (ht : tys[t0]? = some (cA, .int)) {i : Int32} {x : Int32} (hin : vp_in i n) (hdg : decode cc pc = .ok (.iastore, 1))
    (kk : ∀ H1 : Heap, va_at D cl (a, .inl (cA, n, .inl (upd f i.toNatClampNeg x))) H1 → H1.size = H.size → (∀ q, q ≠ a → H1[q]? = H[q]?) → W p l e R s m args below meth c H1 (locs ++ [⟨a, i.toNatClampNeg⟩]) cells slots Q (F0 m (pc + 1) ls rest)) : W p l e R s m args below meth c H locs cells slots Q (F0 m pc ls (.int x :: .int i :: .ref a :: rest)) := by
  refine W.iast hexec hb hP ((hK.2 t0 _ ht).1 n (fun j => .int (f j))) (fun q => by cases q) (by show ¬ (i < 0 ∨ (arrV _ _ _).slots.size ≤ _); rw [arrV_size]; exact hin) rfl rfl hdg fun H1 e z oq => ?_
  refine kk H1 ?_ z oq
  show H1[a]? = some (vp_cell _ _)
  rw [e, vp_cell_i, vp_cell_i, arrV_store]
  congr 2
  funext q
  by_cases hq : q = i.toNatClampNeg
  · subst hq
    simp [updV, upd]
  · simp [updV, upd, hq]
theorem xw_aald (hexec : p.tables.exec = Jvm.exec) (hb : c.code = cc) (hK : va_K D cl tys s) (t0 : Nat) {cA : ClassId} {ty : FieldType} {n : Nat} {f : Nat → Option Nat} (hP : va_at D cl (a, .inl (cA, n, .inr (.inr (.inr (.inr f))))) H) (ht : tys[t0]? = some (cA, ty)) (hty : ty.isReference = true) {i : Int32} (hin : vp_in i n) (hdg : decode cc pc = .ok (.aaload, 1))
    (kk : W p l e R s m args below meth c H locs cells slots Q (F0 m (pc + 1) ls (va_rf (f i.toNatClampNeg) :: rest))) : W p l e R s m args below meth c H locs cells slots Q (F0 m pc ls (.int i :: .ref a :: rest)) := by
  have hlt : i.toNatClampNeg < n := Nat.not_le.mp fun q => hin (Or.inr q)
  exact W.aald (v := va_rf (f i.toNatClampNeg)) (ty := ty) hexec hb hP ((hK.2 t0 _ ht).1 n (fun j => va_rf (f j))) hty (fun q => by cases q) (by show ¬ (i < 0 ∨ (arrV _ _ _).slots.size ≤ _); rw [arrV_size]; exact hin) (by show (arrV _ _ _).slots[_]? = _; rw [arrV_read _ _ hlt]) rfl rfl hdg kk
end HV
theorem va_S.put1 {A : Nat → Prop} {H0 H H1 : Heap} {locs : List Loc} {a k : Nat} (h : va_S A H0 H locs) (z : H1.size = H.size) (oq : ∀ q : Nat, q ≠ a → H1[q]? = H[q]?) (ha : A a) : va_S A H0 H1 (locs ++ [⟨a, k⟩]) := h.put z oq ha
section GHEAP
variable {w : wD} {x : wX} {cc : ByteArray} {nL : Nat} {own : String} {fr lo : Nat} {Q : State → Prop} {pc : Nat} {L : List (Nat × Value)} {S : List Value} {σ : wSt}
/-- which words of the tables a link stands on: its own class's, or a nest mate's -/
def wLink (own : String) (index : Nat) (ref n d : String) : Option String → Prop
  | none => Cond.fieldLink own index ref n d ∈ wsU
  | some h => (own, index, ref, n, d, h) ∈ wNF
theorem wLink.at {own : String} {index : Nat} {ref n d : String} {host : Option String} {args : Array Value} {s : State} (h : wLink own index ref n d host) (hts : ∀ q ∈ wsU, q.before args s = true) (hK : wK w s) : wLkB own index ref n d args s host = true := by
  cases host with
  | none => exact hts _ h
  | some k => exact va_Nw.use rfl (hK.2.1 _ h)
theorem G.get (C : Cf w x cc nL own fr lo) {g i ci index N : Nat} {Cn ref : String} {T : u_T} {fs : List Value} {v : Value} (k : Nat) (host : Option String) (hdg : decode cc pc = .ok (.getfield index, 3)) (hi : i < wN g) (he : wCt w.2.2.1 w.2.2.2.1 σ g i = .inr (ci, fs)) (hc : vwCl[ci]? = some (Cn, T, N)) (hin : ∀ q ∈ u_ws Cn T N, q ∈ wsU) (hk : k < N) (hlink : wLink own index ref (T k).2.1 (T k).2.2.1 host) (hsame : (T k).1 = ref) (hv : fs[k]? = some v) (kk : G w x nL Q (pc + 3) L (v :: S) σ) : G w x nL Q pc L (.ref (w.2.2.2.1 g i) :: S) σ := by
  obtain ⟨p, e, R, s, m, args, below, meth, c, kc, ks⟩ := x
  obtain ⟨hx, hb, -, hown, hts, hK, -⟩ := C
  intro H locs ls hI hS hl
  have h := hI g i hi
  rw [he] at h
  exact xw_get hx hb (fun q hq => hts q (hin q hq)) hown hK.1 h hc k hk host (hlink.at hts hK) hsame hv hdg (kk H locs ls hI hS hl)
theorem G.put (C : Cf w x cc nL own fr lo) {g i ci index N : Nat} {Cn ref : String} {T : u_T} {fs : List Value} {v : Int32} (k : Nat) (host : Option String) (hdg : decode cc pc = .ok (.putfield index, 3)) (hi : i < wN g) (he : wCt w.2.2.1 w.2.2.2.1 σ g i = .inr (ci, fs)) (hc : vwCl[ci]? = some (Cn, T, N)) (hin : ∀ q ∈ u_ws Cn T N, q ∈ wsU) (ty0 : Nat → FieldType) (hty : ∀ k, k < N → parseFieldDescriptor (T k).2.2.1 = some (ty0 k)) (hnm : ∀ a, a < N → ∀ b, b < N → a ≠ b → (T a).2.1 ≠ (T b).2.1) (hk : k < N) (hlink : wLink own index ref (T k).2.1 (T k).2.2.1 host) (hsame : (T k).1 = ref) (hfin : (T k).2.2.2 = false) (hd : parseFieldDescriptor (T k).2.2.1 = some .int) (hl : k < fs.length) (he2 : wCt w.2.2.1 w.2.2.2.1 (wUp σ g i k v) g i = .inr (ci, fs.set k (.int v))) (kk : G w x nL Q (pc + 3) L S (wUp σ g i k v)) : G w x nL Q pc L (.int v :: .ref (w.2.2.2.1 g i) :: S) σ := by
  obtain ⟨p, e, R, s, m, args, below, meth, c, kc, ks⟩ := x
  obtain ⟨hx, hb, -, hown, hts, hK, -, -, -, -, -, hw⟩ := C
  intro H locs ls hI hS hl2
  have h := hI g i hi
  rw [he] at h
  refine xw_put hx hb (fun q hq => hts q (hin q hq)) ty0 hty hnm hown hK.1 h hc k hk host (hlink.at hts hK) hsame hfin hd rfl rfl hl hdg (fun H1 j h1 z oq => ?_)
  exact kk H1 _ ls (hI.up hw hi (by rw [he2]; exact h1) oq) (hS.put z oq (hw.2 g i hi)) hl2
theorem G.putL (C : Cf w x cc nL own fr lo) {g i ci index N j : Nat} {Cn ref : String} {T : u_T} {fs : List Value} {v : Int64} (k : Nat) (host : Option String) (hdg : decode cc pc = .ok (.putfield index, 3)) (hi : i < wN g) (hg : (j = 0 ∧ g = 0) ∨ (j = 1 ∧ g = 20)) (he : wCt w.2.2.1 w.2.2.2.1 σ g i = .inr (ci, fs)) (hc : vwCl[ci]? = some (Cn, T, N)) (hin : ∀ q ∈ u_ws Cn T N, q ∈ wsU) (ty0 : Nat → FieldType) (hty : ∀ k, k < N → parseFieldDescriptor (T k).2.2.1 = some (ty0 k)) (hnm : ∀ a, a < N → ∀ b, b < N → a ≠ b → (T a).2.1 ≠ (T b).2.1) (hk : k < N) (hlink : wLink own index ref (T k).2.1 (T k).2.2.1 host) (hsame : (T k).1 = ref) (hfin : (T k).2.2.2 = false) (hd : parseFieldDescriptor (T k).2.2.1 = some .long) (hl : k < fs.length) (he2 : wCt w.2.2.1 w.2.2.2.1 (wUpL σ j v) g i = .inr (ci, fs.set k (.long v))) (kk : G w x nL Q (pc + 3) L S (wUpL σ j v)) : G w x nL Q pc L (.long v :: .ref (w.2.2.2.1 g i) :: S) σ := by
  obtain ⟨p, e, R, s, m, args, below, meth, c, kc, ks⟩ := x
  obtain ⟨hx, hb, -, hown, hts, hK, -, -, -, -, -, hw⟩ := C
  intro H locs ls hI hS hl2
  have h := hI g i hi
  rw [he] at h
  refine xw_put hx hb (fun q hq => hts q (hin q hq)) ty0 hty hnm hown hK.1 h hc k hk host (hlink.at hts hK) hsame hfin hd rfl rfl hl hdg (fun H1 j h1 z oq => ?_)
  exact kk H1 _ ls (hI.upL hw hi hg (by rw [he2]; exact h1) oq) (hS.put z oq (hw.2 g i hi)) hl2
theorem G.iald (C : Cf w x cc nL own fr lo) {g i n : Nat} {f : Nat → Int32} {j : Int32} (hdg : decode cc pc = .ok (.iaload, 1)) (hi : i < wN g) (he : wCt w.2.2.1 w.2.2.2.1 σ g i = .inl (w.2.2.1 0, n, .inl f)) (hj : vp_in j n) (kk : G w x nL Q (pc + 1) L (.int (f j.toNatClampNeg) :: S) σ) : G w x nL Q pc L (.int j :: .ref (w.2.2.2.1 g i) :: S) σ := by
  obtain ⟨p, e, R, s, m, args, below, meth, c, kc, ks⟩ := x
  obtain ⟨hx, hb, -, hown, hts, hK, -⟩ := C
  intro H locs ls hI hS hl
  have h := hI g i hi
  rw [he] at h
  exact va_iald hx hb hK.1 (xw_one h) 0 0 rfl rfl hj hdg (kk H locs ls hI hS hl)
theorem G.aald (C : Cf w x cc nL own fr lo) {g i n : Nat} {f : Nat → Nat} {cA : ClassId} {ty : FieldType} {j : Int32} (t0 : Nat) (hdg : decode cc pc = .ok (.aaload, 1)) (hi : i < wN g) (he : wCt w.2.2.1 w.2.2.2.1 σ g i = .inl (cA, n, .inr (.inr (.inr (.inr (fun q => some (f q))))))) (ht : (wTys w)[t0]? = some (cA, ty)) (hty : ty.isReference = true) (hj : vp_in j n) (kk : G w x nL Q (pc + 1) L (.ref (f j.toNatClampNeg) :: S) σ) : G w x nL Q pc L (.int j :: .ref (w.2.2.2.1 g i) :: S) σ := by
  obtain ⟨p, e, R, s, m, args, below, meth, c, kc, ks⟩ := x
  obtain ⟨hx, hb, -, hown, hts, hK, -⟩ := C
  intro H locs ls hI hS hl
  have h := hI g i hi
  rw [he] at h
  exact xw_aald hx hb hK.1 t0 h ht hty hj hdg (kk H locs ls hI hS hl)
theorem G.iast (C : Cf w x cc nL own fr lo) {g i n : Nat} {f : Nat → Int32} {j v : Int32} (hdg : decode cc pc = .ok (.iastore, 1)) (hi : i < wN g) (he : wCt w.2.2.1 w.2.2.2.1 σ g i = .inl (w.2.2.1 0, n, .inl f)) (hj : vp_in j n) (he2 : wCt w.2.2.1 w.2.2.2.1 (wUp σ g i j.toNatClampNeg v) g i = .inl (w.2.2.1 0, n, .inl (upd f j.toNatClampNeg v))) (kk : G w x nL Q (pc + 1) L S (wUp σ g i j.toNatClampNeg v)) : G w x nL Q pc L (.int v :: .int j :: .ref (w.2.2.2.1 g i) :: S) σ := by
  obtain ⟨p, e, R, s, m, args, below, meth, c, kc, ks⟩ := x
  obtain ⟨hx, hb, -, hown, hts, hK, -, -, -, -, -, hw⟩ := C
  intro H locs ls hI hS hl
  have h := hI g i hi
  rw [he] at h
  refine xw_iast hx hb hK.1 0 h rfl hj hdg (fun H1 h1 z oq => ?_)
  exact kk H1 _ ls (hI.up hw hi (by rw [he2]; exact h1) oq) (hS.put z oq (hw.2 g i hi)) hl
end GHEAP
end
section
/-! PART 02.d: the calls -/
def wLinkM (own : String) (index : Nat) (y : MethodName) : Option String → Prop
  | none => Cond.methodLink own index y ∈ wsU
  | some h => (own, index, y, h) ∈ wNM
theorem w_blind {w : wD} {av : List Value} {σ : wSt} : FrameBlind (va_Pc av (fun U => wInv w σ U.heap ∧ wK w U)) := fun a U g mk q => ⟨q.1, q.2.1, q.2.2.calling⟩
theorem w_pre {w : wD} {av : List Value} {σ : wSt} {s : State} {H : Heap} (hI : wInv w σ H) (hK : wK w s) : ∀ U : State, U.heap = H → s.WarmedH U.vm → va_Pc av (fun U => wInv w σ U.heap ∧ wK w U) av.toArray U := fun U hU hW => ⟨rfl, by rw [hU]; exact hI, hK.warm hW⟩
theorem w_recv {w : wD} {σ : wSt} {s : State} {H : Heap} {g i ci N : Nat} {Cn : String} {T : u_T} {fs : List Value} (hI : wInv w σ H) (hK : wK w s) (hi : i < wN g) (he : wCt w.2.2.1 w.2.2.2.1 σ g i = .inr (ci, fs)) (hc : vwCl[ci]? = some (Cn, T, N)) : ∃ cell : Cell, H[w.2.2.2.1 g i]? = some cell ∧ cell.vm.isStatics = false ∧ s.vm.findClass Cn = some cell.cls := by
  have h := hI g i hi
  rw [he] at h
  exact va_recv hK.1 (xw_one h) hc (q0 := 0) rfl
theorem w_tab {u a b : Int} {n : Nat} (h1 : ¬ u < a) (h2 : ¬ b < u) (hz : (b - a + 1).toNat ≤ n) : (u - a).toNat < n := by omega
theorem w_tab2 {u a : Int} (h1 : ¬ u < a) : u = a + ((u - a).toNat : Int) := by omega
section GCALL
variable {w : wD} {x : wX} {cc : ByteArray} {nL : Nat} {own : String} {fr lo : Nat} {Q : State → Prop} {pc : Nat} {L : List (Nat × Value)} {S st : List Value} {σ : wSt} {y : MethodName} {cc2 : ByteArray} {nL2 fr2 lo2 index n : Nat} {ret : Option FieldType} {As : List Value}
theorem G.callV (C : Cf w x cc nL own fr lo) {Post : Int32 → wSt → Prop} {g i ci N : Nat} {Cn : String} {T : u_T} {fs : List Value} (host : Option String) (hM : MI w y cc2 nL2 ret fr2 lo2 (.ref (w.2.2.2.1 g i) :: As) σ Post) (hdg : decode cc pc = .ok (.invokevirtual index, 3)) (hi : i < wN g) (he : wCt w.2.2.1 w.2.2.2.1 σ g i = .inr (ci, fs)) (hc : vwCl[ci]? = some (Cn, T, N)) (hCn : Cn = y.cls) (hv : wVirt y cc2 nL2 ret n) (hlink : wLinkM own index y host) (hst : st = As.reverse ++ .ref (w.2.2.2.1 g i) :: S) (hn : As.length = n) (hR : fr2 + 1 ≤ fr ∧ 8 + (nL2 + 11) + lo2 ≤ lo) (hcat : (S.map fun v => v.category).sum ≤ 8) (kk : ∀ (r : Int32) (τ : wSt), Post r τ → G w x nL Q (pc + 3) L (.int r :: S) τ) : G w x nL Q pc L st σ := by
  obtain ⟨p, e, R, s, m, args, below, meth, c, kc, ks⟩ := x
  obtain ⟨hx, hb, hml, hown, hts, hK, -, hfr, hlo, hkc, hks, hw⟩ := C
  obtain ⟨h1, h2, h3, h4, h5⟩ := hv
  subst hCn
  subst hst
  intro H locs ls hI hS hl
  have hRR : ({ frames := fr2, cells := 0, slots := 0, locals := lo2 } : Room).frames + 1 ≤ R.frames ∧ 8 + (nL2 + 11) + ({ frames := fr2, cells := 0, slots := 0, locals := lo2 } : Room).locals ≤ R.locals := ⟨Nat.le_trans hR.1 hfr, Nat.le_trans hR.2 hlo⟩
  have hrecv := w_recv hI hK hi he hc
  have fin : va_Run p w.1 e R s m args below meth c H locs kc ks 0 0 (F0 m pc ls (As.reverse ++ .ref (w.2.2.2.1 g i) :: S)) S (va_Qi Post (fun σ t => wInv w σ t.heap) w.2.2.2.2 (Value.ref (w.2.2.2.1 g i) :: As).toArray) w.2.2.2.2 := by
    cases host with
    | none => exact va_runV (As := As) (rest := S) ⟨hx, hb, hml, hown, hts⟩ hM ⟨callB_of n hts (wU_call h4) rfl rfl rfl (hts _ h3) (hts _ hlink) h5 hRR, hts _ h1, hts _ h2⟩ ⟨w_blind, hrecv, w_pre hI hK⟩ rfl hn hl.1 rfl (lv_room hcat) hdg ⟨hkc, hks⟩
    | some k => exact va_runVN (As := As) (rest := S) ⟨hx, hb, hml, hown, hts⟩ hM ⟨va_cnB n hts (wU_call h4) rfl rfl rfl (hK.2.2 _ hlink) (hts _ h3) h5 hRR, hts _ h1, hts _ h2⟩ ⟨w_blind, hrecv, w_pre hI hK⟩ rfl hn hl.1 rfl (lv_room hcat) hdg ⟨hkc, hks⟩
  exact va_calli fin hS (fun _ _ h => h) (fun _ h => h) (fun r τ t H1 locs1 ht _ hp hB _ _ hS1 => kk r τ hp H1 locs1 ls (by rw [← ht]; exact hB) hS1 hl)
theorem G.callVv (C : Cf w x cc nL own fr lo) {Post : wSt → Prop} {g i ci N : Nat} {Cn : String} {T : u_T} {fs : List Value} (host : Option String) (hM : MV w y cc2 nL2 ret fr2 lo2 (.ref (w.2.2.2.1 g i) :: As) σ Post) (hdg : decode cc pc = .ok (.invokevirtual index, 3)) (hi : i < wN g) (he : wCt w.2.2.1 w.2.2.2.1 σ g i = .inr (ci, fs)) (hc : vwCl[ci]? = some (Cn, T, N)) (hCn : Cn = y.cls) (hv : wVirt y cc2 nL2 ret n) (hlink : wLinkM own index y host) (hst : st = As.reverse ++ .ref (w.2.2.2.1 g i) :: S) (hn : As.length = n) (hR : fr2 + 1 ≤ fr ∧ 8 + (nL2 + 11) + lo2 ≤ lo) (hcat : (S.map fun v => v.category).sum ≤ 8) (kk : ∀ (τ : wSt), Post τ → G w x nL Q (pc + 3) L S τ) : G w x nL Q pc L st σ := by
  obtain ⟨p, e, R, s, m, args, below, meth, c, kc, ks⟩ := x
  obtain ⟨hx, hb, hml, hown, hts, hK, -, hfr, hlo, hkc, hks, hw⟩ := C
  obtain ⟨h1, h2, h3, h4, h5⟩ := hv
  subst hCn
  subst hst
  intro H locs ls hI hS hl
  have hRR : ({ frames := fr2, cells := 0, slots := 0, locals := lo2 } : Room).frames + 1 ≤ R.frames ∧ 8 + (nL2 + 11) + ({ frames := fr2, cells := 0, slots := 0, locals := lo2 } : Room).locals ≤ R.locals := ⟨Nat.le_trans hR.1 hfr, Nat.le_trans hR.2 hlo⟩
  have hrecv := w_recv hI hK hi he hc
  have fin : va_Run p w.1 e R s m args below meth c H locs kc ks 0 0 (F0 m pc ls (As.reverse ++ .ref (w.2.2.2.1 g i) :: S)) S (va_Qv Post (fun σ t => wInv w σ t.heap) w.2.2.2.2 (Value.ref (w.2.2.2.1 g i) :: As).toArray) w.2.2.2.2 := by
    cases host with
    | none => exact va_runV (As := As) (rest := S) ⟨hx, hb, hml, hown, hts⟩ hM ⟨callB_of n hts (wU_call h4) rfl rfl rfl (hts _ h3) (hts _ hlink) h5 hRR, hts _ h1, hts _ h2⟩ ⟨w_blind, hrecv, w_pre hI hK⟩ rfl hn hl.1 rfl (lv_room hcat) hdg ⟨hkc, hks⟩
    | some k => exact va_runVN (As := As) (rest := S) ⟨hx, hb, hml, hown, hts⟩ hM ⟨va_cnB n hts (wU_call h4) rfl rfl rfl (hK.2.2 _ hlink) (hts _ h3) h5 hRR, hts _ h1, hts _ h2⟩ ⟨w_blind, hrecv, w_pre hI hK⟩ rfl hn hl.1 rfl (lv_room hcat) hdg ⟨hkc, hks⟩
  exact va_callv fin hS (fun _ _ h => h) (fun _ h => h) (fun τ t H1 locs1 ht _ hp hB _ _ hS1 => kk τ hp H1 locs1 ls (by rw [← ht]; exact hB) hS1 hl)
theorem G.callVl (C : Cf w x cc nL own fr lo) {Post : Int64 → wSt → Prop} {g i ci N : Nat} {Cn : String} {T : u_T} {fs : List Value} (host : Option String) (hM : ML w y cc2 nL2 ret fr2 lo2 (.ref (w.2.2.2.1 g i) :: As) σ Post) (hdg : decode cc pc = .ok (.invokevirtual index, 3)) (hi : i < wN g) (he : wCt w.2.2.1 w.2.2.2.1 σ g i = .inr (ci, fs)) (hc : vwCl[ci]? = some (Cn, T, N)) (hCn : Cn = y.cls) (hv : wVirt y cc2 nL2 ret n) (hlink : wLinkM own index y host) (hst : st = As.reverse ++ .ref (w.2.2.2.1 g i) :: S) (hn : As.length = n) (hR : fr2 + 1 ≤ fr ∧ 8 + (nL2 + 11) + lo2 ≤ lo) (hcat : (S.map fun v => v.category).sum ≤ 8) (kk : ∀ (r : Int64) (τ : wSt), Post r τ → G w x nL Q (pc + 3) L (.long r :: S) τ) : G w x nL Q pc L st σ := by
  obtain ⟨p, e, R, s, m, args, below, meth, c, kc, ks⟩ := x
  obtain ⟨hx, hb, hml, hown, hts, hK, -, hfr, hlo, hkc, hks, hw⟩ := C
  obtain ⟨h1, h2, h3, h4, h5⟩ := hv
  subst hCn
  subst hst
  intro H locs ls hI hS hl
  have hRR : ({ frames := fr2, cells := 0, slots := 0, locals := lo2 } : Room).frames + 1 ≤ R.frames ∧ 8 + (nL2 + 11) + ({ frames := fr2, cells := 0, slots := 0, locals := lo2 } : Room).locals ≤ R.locals := ⟨Nat.le_trans hR.1 hfr, Nat.le_trans hR.2 hlo⟩
  have hrecv := w_recv hI hK hi he hc
  have fin : va_Run p w.1 e R s m args below meth c H locs kc ks 0 0 (F0 m pc ls (As.reverse ++ .ref (w.2.2.2.1 g i) :: S)) S (va_Ql Post (fun σ t => wInv w σ t.heap) w.2.2.2.2 (Value.ref (w.2.2.2.1 g i) :: As).toArray) w.2.2.2.2 := by
    cases host with
    | none => exact va_runV (As := As) (rest := S) ⟨hx, hb, hml, hown, hts⟩ hM ⟨callB_of n hts (wU_call h4) rfl rfl rfl (hts _ h3) (hts _ hlink) h5 hRR, hts _ h1, hts _ h2⟩ ⟨w_blind, hrecv, w_pre hI hK⟩ rfl hn hl.1 rfl (lv_room hcat) hdg ⟨hkc, hks⟩
    | some k => exact va_runVN (As := As) (rest := S) ⟨hx, hb, hml, hown, hts⟩ hM ⟨va_cnB n hts (wU_call h4) rfl rfl rfl (hK.2.2 _ hlink) (hts _ h3) h5 hRR, hts _ h1, hts _ h2⟩ ⟨w_blind, hrecv, w_pre hI hK⟩ rfl hn hl.1 rfl (lv_room hcat) hdg ⟨hkc, hks⟩
  exact va_calll fin hS (fun _ _ h => h) (fun _ h => h) (fun r τ t H1 locs1 ht _ hp hB _ _ hS1 => kk r τ hp H1 locs1 ls (by rw [← ht]; exact hB) hS1 hl)
theorem G.callS (C : Cf w x cc nL own fr lo) {Post : Int32 → wSt → Prop} (host : Option String) (hM : MI w y cc2 nL2 ret fr2 lo2 As σ Post) (hdg : decode cc pc = .ok (.invokestatic index, 3)) (hv : wStat y cc2 nL2 ret n) (hlink : wLinkM own index y host) (hst : st = As.reverse ++ S) (hn : As.length = n) (hR : fr2 + 1 ≤ fr ∧ 8 + (nL2 + 11) + lo2 ≤ lo) (hcat : (S.map fun v => v.category).sum ≤ 8) (kk : ∀ (r : Int32) (τ : wSt), Post r τ → G w x nL Q (pc + 3) L (.int r :: S) τ) : G w x nL Q pc L st σ := by
  obtain ⟨p, e, R, s, m, args, below, meth, c, kc, ks⟩ := x
  obtain ⟨hx, hb, hml, hown, hts, hK, -, hfr, hlo, hkc, hks, hw⟩ := C
  obtain ⟨h1, h3, h4, h5⟩ := hv
  subst hst
  intro H locs ls hI hS hl
  have hRR : ({ frames := fr2, cells := 0, slots := 0, locals := lo2 } : Room).frames + 1 ≤ R.frames ∧ 8 + (nL2 + 11) + ({ frames := fr2, cells := 0, slots := 0, locals := lo2 } : Room).locals ≤ R.locals := ⟨Nat.le_trans hR.1 hfr, Nat.le_trans hR.2 hlo⟩
  have fin : va_Run p w.1 e R s m args below meth c H locs kc ks 0 0 (F0 m pc ls (As.reverse ++ S)) S (va_Qi Post (fun σ t => wInv w σ t.heap) w.2.2.2.2 As.toArray) w.2.2.2.2 := by
    cases host with
    | none => exact va_runS (As := As) (rest := S) ⟨hx, hb, hml, hown, hts⟩ hM ⟨callB_of n hts (wU_call h4) rfl rfl rfl (hts _ h3) (hts _ hlink) h5 hRR, hts _ h1⟩ ⟨w_blind, w_pre hI hK⟩ rfl hn hl.1 rfl (lv_room hcat) hdg ⟨hkc, hks⟩
    | some k => exact va_runSN (As := As) (rest := S) ⟨hx, hb, hml, hown, hts⟩ hM ⟨va_cnB n hts (wU_call h4) rfl rfl rfl (hK.2.2 _ hlink) (hts _ h3) h5 hRR, hts _ h1, trivial⟩ ⟨w_blind, w_pre hI hK⟩ rfl hn hl.1 rfl (lv_room hcat) hdg ⟨hkc, hks⟩
  exact va_calli fin hS (fun _ _ h => h) (fun _ h => h) (fun r τ t H1 locs1 ht _ hp hB _ _ hS1 => kk r τ hp H1 locs1 ls (by rw [← ht]; exact hB) hS1 hl)
theorem G.mmax (C : Cf w x cc nL own fr lo) {u v : Int32} (hdg : decode cc pc = .ok (.invokestatic index, 3)) (hlink : Cond.methodLink own index Lib.Math.max.name ∈ wsU) (hR : 1 ≤ fr ∧ 21 ≤ lo) (hcat : (S.map fun v => v.category).sum ≤ 8) (kk : G w x nL Q (pc + 3) L (.int (if u < v then v else u) :: S) σ) : G w x nL Q pc L (.int v :: .int u :: S) σ := by
  obtain ⟨p, e, R, s, m, args, below, meth, c, kc, ks⟩ := x
  obtain ⟨hx, hb, hml, hown, hts, hK, -, hfr, hlo, hkc, hks, hw⟩ := C
  intro H locs ls hI hS hl
  exact va_mmax hx hb (hml.trans hl.1.symm) hown (hts _ hlink) (hts _ us_max) (hts _ ui_Math) (hts _ uc_max) (Nat.le_trans hR.1 hfr) (by have := hR.2; omega) hkc hks hdg (kk H locs ls hI hS hl)
theorem G.mmin (C : Cf w x cc nL own fr lo) {u v : Int32} (hdg : decode cc pc = .ok (.invokestatic index, 3)) (hlink : Cond.methodLink own index Lib.Math.min.name ∈ wsU) (hR : 1 ≤ fr ∧ 21 ≤ lo) (hcat : (S.map fun v => v.category).sum ≤ 8) (kk : G w x nL Q (pc + 3) L (.int (if v < u then v else u) :: S) σ) : G w x nL Q pc L (.int v :: .int u :: S) σ := by
  obtain ⟨p, e, R, s, m, args, below, meth, c, kc, ks⟩ := x
  obtain ⟨hx, hb, hml, hown, hts, hK, -, hfr, hlo, hkc, hks, hw⟩ := C
  intro H locs ls hI hS hl
  exact va_mmin hx hb (hml.trans hl.1.symm) hown (hts _ hlink) (hts _ us_min) (hts _ ui_Math) (hts _ uc_min) (Nat.le_trans hR.1 hfr) (by have := hR.2; omega) hkc hks hdg (kk H locs ls hI hS hl)
theorem G.mabs (C : Cf w x cc nL own fr lo) {u : Int32} (hdg : decode cc pc = .ok (.invokestatic index, 3)) (hlink : Cond.methodLink own index Lib.Math.abs.name ∈ wsU) (hR : 1 ≤ fr ∧ 21 ≤ lo) (hcat : (S.map fun v => v.category).sum ≤ 8) (kk : G w x nL Q (pc + 3) L (.int (if 0 ≤ u then u else 0 - u) :: S) σ) : G w x nL Q pc L (.int u :: S) σ := by
  obtain ⟨p, e, R, s, m, args, below, meth, c, kc, ks⟩ := x
  obtain ⟨hx, hb, hml, hown, hts, hK, -, hfr, hlo, hkc, hks, hw⟩ := C
  intro H locs ls hI hS hl
  exact va_mabs hx hb (hml.trans hl.1.symm) hown (hts _ hlink) (hts _ us_abs) (hts _ ui_Math) (hts _ uc_abs) (Nat.le_trans hR.1 hfr) (by have := hR.2; omega) hkc hks hdg (kk H locs ls hI hS hl)
/-- a switch: inside its table, and outside -/
theorem G.tableIn (C : Cf w x cc nL own fr lo) {dflt a b : Int} {offs : Array Int} {len : Nat} {u : Int32} {off : Int} {tgt : Nat} (hdg : decode cc pc = .ok (.tableswitch dflt a b offs, len)) (h1 : ¬ u.toInt < a) (h2 : ¬ b < u.toInt) (ho : offs[(u.toInt - a).toNat]? = some off) (ht : (pc : Int) + off = (tgt : Int)) (kk : G w x nL Q tgt L S σ) : G w x nL Q pc L (.int u :: S) σ := by
  obtain ⟨p, e, R, s, m, args, below, meth, c, kc, ks⟩ := x
  obtain ⟨hx, hb, -⟩ := C
  intro H locs ls hI hS hl
  exact lv_tableIn hx hb hdg h1 h2 ho ht (kk H locs ls hI hS hl)
theorem G.tableOut (C : Cf w x cc nL own fr lo) {dflt a b : Int} {offs : Array Int} {len : Nat} {u : Int32} {tgt : Nat} (hdg : decode cc pc = .ok (.tableswitch dflt a b offs, len)) (h : u.toInt < a ∨ b < u.toInt) (ht : (pc : Int) + dflt = (tgt : Int)) (kk : G w x nL Q tgt L S σ) : G w x nL Q pc L (.int u :: S) σ := by
  obtain ⟨p, e, R, s, m, args, below, meth, c, kc, ks⟩ := x
  obtain ⟨hx, hb, -⟩ := C
  intro H locs ls hI hS hl
  exact lv_tableOut hx hb hdg h ht (kk H locs ls hI hS hl)
/-- a switch's cases, one by one: the number is one of them, or none -/
theorem G.table (C : Cf w x cc nL own fr lo) {dflt a b : Int} {offs : Array Int} {len : Nat} {u : Int32} (hdg : decode cc pc = .ok (.tableswitch dflt a b offs, len)) (kin : ∀ (j : Nat) (off : Int), u.toInt = a + (j : Int) → u.toInt ≤ b → offs[j]? = some off → ∃ tgt : Nat, (pc : Int) + off = (tgt : Int) ∧ G w x nL Q tgt L S σ) (hz : (b - a + 1).toNat ≤ offs.size) (kout : u.toInt < a ∨ b < u.toInt → ∃ tgt : Nat, (pc : Int) + dflt = (tgt : Int) ∧ G w x nL Q tgt L S σ) : G w x nL Q pc L (.int u :: S) σ := by
  by_cases h1 : u.toInt < a
  · obtain ⟨tgt, ht, kk⟩ := kout (Or.inl h1)
    exact G.tableOut C hdg (Or.inl h1) ht kk
  · by_cases h2 : b < u.toInt
    · obtain ⟨tgt, ht, kk⟩ := kout (Or.inr h2)
      exact G.tableOut C hdg (Or.inr h2) ht kk
    · have hlt : (u.toInt - a).toNat < offs.size := w_tab h1 h2 hz
      obtain ⟨tgt, ht, kk⟩ := kin (u.toInt - a).toNat offs[(u.toInt - a).toNat] (w_tab2 h1) (Int.not_lt.mp h2) (Array.getElem?_eq_getElem hlt)
      exact G.tableIn C hdg h1 h2 (Array.getElem?_eq_getElem hlt) ht kk
end GCALL
end
section
/-! PART 02.e: by group -/
section GTOP
variable {w : wD} {x : wX} {nL : Nat} {Q : State → Prop} {pc : Nat} {L : List (Nat × Value)} {S : List Value} {σ : wSt}
theorem G.topi {u : Int32} (k : ∀ y : Int32, y = u → G w x nL Q pc L (.int y :: S) σ) : G w x nL Q pc L (.int u :: S) σ := k u rfl
theorem G.sig (k : ∀ τ : wSt, τ = σ → G w x nL Q pc L S τ) : G w x nL Q pc L S σ := k σ rfl
end GTOP
theorem vp_lt {j : Int32} {n : Nat} (h : vp_in j n) : j.toNatClampNeg < n := Nat.not_le.mp fun q => h (Or.inr q)
theorem w_ofInt {u v : Int32} (h : u.toInt = v.toInt) : u = v := Int32.toInt_inj.mp h
theorem wUp_row {σ : wSt} {g i k : Nat} {v : Int32} : (wUp σ g i k v).1 g i = upd (σ.1 g i) k v := by
  funext j
  simp [wUp, upd]
theorem w_up_0_3 {cy : Nat → ClassId} {E : Nat → Nat → Nat} {σ : wSt} {i : Nat} {v : Int32} : wCt cy E (wUp σ 0 i 3 v) 0 i = .inr (5, ([.ref (E 1 0), .ref (E 2 0), .ref (E 3 0), .int (σ.1 0 i 3), .ref (E 4 0), .int (σ.1 0 i 5), .ref (E 5 0), .long (σ.2 0)] : List Value).set 3 (.int v)) := by simp [wCt, wUp]
theorem w_up_0_5 {cy : Nat → ClassId} {E : Nat → Nat → Nat} {σ : wSt} {i : Nat} {v : Int32} : wCt cy E (wUp σ 0 i 5 v) 0 i = .inr (5, ([.ref (E 1 0), .ref (E 2 0), .ref (E 3 0), .int (σ.1 0 i 3), .ref (E 4 0), .int (σ.1 0 i 5), .ref (E 5 0), .long (σ.2 0)] : List Value).set 5 (.int v)) := by simp [wCt, wUp]
theorem w_up_0_7 {cy : Nat → ClassId} {E : Nat → Nat → Nat} {σ : wSt} {i : Nat} {v : Int64} : wCt cy E (wUpL σ 0 v) 0 i = .inr (5, ([.ref (E 1 0), .ref (E 2 0), .ref (E 3 0), .int (σ.1 0 i 3), .ref (E 4 0), .int (σ.1 0 i 5), .ref (E 5 0), .long (σ.2 0)] : List Value).set 7 (.long v)) := by simp [wCt, wUpL]
theorem w_up_1_0 {cy : Nat → ClassId} {E : Nat → Nat → Nat} {σ : wSt} {i : Nat} {v : Int32} : wCt cy E (wUp σ 1 i 0 v) 1 i = .inr (3, ([.int (σ.1 1 i 0), .int (σ.1 1 i 1), .int (σ.1 1 i 2), .ref (E 6 0), .ref (E 7 0), .int (σ.1 1 i 5), .ref (E 8 0), .ref (E 9 0)] : List Value).set 0 (.int v)) := by simp [wCt, wUp]
theorem w_up_1_1 {cy : Nat → ClassId} {E : Nat → Nat → Nat} {σ : wSt} {i : Nat} {v : Int32} : wCt cy E (wUp σ 1 i 1 v) 1 i = .inr (3, ([.int (σ.1 1 i 0), .int (σ.1 1 i 1), .int (σ.1 1 i 2), .ref (E 6 0), .ref (E 7 0), .int (σ.1 1 i 5), .ref (E 8 0), .ref (E 9 0)] : List Value).set 1 (.int v)) := by simp [wCt, wUp]
theorem w_up_1_2 {cy : Nat → ClassId} {E : Nat → Nat → Nat} {σ : wSt} {i : Nat} {v : Int32} : wCt cy E (wUp σ 1 i 2 v) 1 i = .inr (3, ([.int (σ.1 1 i 0), .int (σ.1 1 i 1), .int (σ.1 1 i 2), .ref (E 6 0), .ref (E 7 0), .int (σ.1 1 i 5), .ref (E 8 0), .ref (E 9 0)] : List Value).set 2 (.int v)) := by simp [wCt, wUp]
theorem w_up_1_5 {cy : Nat → ClassId} {E : Nat → Nat → Nat} {σ : wSt} {i : Nat} {v : Int32} : wCt cy E (wUp σ 1 i 5 v) 1 i = .inr (3, ([.int (σ.1 1 i 0), .int (σ.1 1 i 1), .int (σ.1 1 i 2), .ref (E 6 0), .ref (E 7 0), .int (σ.1 1 i 5), .ref (E 8 0), .ref (E 9 0)] : List Value).set 5 (.int v)) := by simp [wCt, wUp]
theorem w_up_2_0 {cy : Nat → ClassId} {E : Nat → Nat → Nat} {σ : wSt} {i : Nat} {v : Int32} : wCt cy E (wUp σ 2 i 0 v) 2 i = .inr (0, ([.int (σ.1 2 i 0), .int (σ.1 2 i 1), .ref (E 12 0), .ref (E 13 0), .int (σ.1 2 i 4)] : List Value).set 0 (.int v)) := by simp [wCt, wUp]
theorem w_up_2_1 {cy : Nat → ClassId} {E : Nat → Nat → Nat} {σ : wSt} {i : Nat} {v : Int32} : wCt cy E (wUp σ 2 i 1 v) 2 i = .inr (0, ([.int (σ.1 2 i 0), .int (σ.1 2 i 1), .ref (E 12 0), .ref (E 13 0), .int (σ.1 2 i 4)] : List Value).set 1 (.int v)) := by simp [wCt, wUp]
theorem w_up_2_4 {cy : Nat → ClassId} {E : Nat → Nat → Nat} {σ : wSt} {i : Nat} {v : Int32} : wCt cy E (wUp σ 2 i 4 v) 2 i = .inr (0, ([.int (σ.1 2 i 0), .int (σ.1 2 i 1), .ref (E 12 0), .ref (E 13 0), .int (σ.1 2 i 4)] : List Value).set 4 (.int v)) := by simp [wCt, wUp]
theorem w_up_11_0 {cy : Nat → ClassId} {E : Nat → Nat → Nat} {σ : wSt} {i : Nat} {v : Int32} : wCt cy E (wUp σ 11 i 0 v) 11 i = .inr (4, ([.int (σ.1 11 i 0), .int (σ.1 11 i 1)] : List Value).set 0 (.int v)) := by simp [wCt, wUp]
theorem w_up_11_1 {cy : Nat → ClassId} {E : Nat → Nat → Nat} {σ : wSt} {i : Nat} {v : Int32} : wCt cy E (wUp σ 11 i 1 v) 11 i = .inr (4, ([.int (σ.1 11 i 0), .int (σ.1 11 i 1)] : List Value).set 1 (.int v)) := by simp [wCt, wUp]
theorem w_up_14_0 {cy : Nat → ClassId} {E : Nat → Nat → Nat} {σ : wSt} {i : Nat} {v : Int32} : wCt cy E (wUp σ 14 i 0 v) 14 i = .inr (2, ([.int (σ.1 14 i 0), .int (σ.1 14 i 1), .int (σ.1 14 i 2), .int (σ.1 14 i 3), .int (σ.1 14 i 4), .int (σ.1 14 i 5), .ref (E 15 i)] : List Value).set 0 (.int v)) := by simp [wCt, wUp]
theorem w_up_14_1 {cy : Nat → ClassId} {E : Nat → Nat → Nat} {σ : wSt} {i : Nat} {v : Int32} : wCt cy E (wUp σ 14 i 1 v) 14 i = .inr (2, ([.int (σ.1 14 i 0), .int (σ.1 14 i 1), .int (σ.1 14 i 2), .int (σ.1 14 i 3), .int (σ.1 14 i 4), .int (σ.1 14 i 5), .ref (E 15 i)] : List Value).set 1 (.int v)) := by simp [wCt, wUp]
theorem w_up_14_2 {cy : Nat → ClassId} {E : Nat → Nat → Nat} {σ : wSt} {i : Nat} {v : Int32} : wCt cy E (wUp σ 14 i 2 v) 14 i = .inr (2, ([.int (σ.1 14 i 0), .int (σ.1 14 i 1), .int (σ.1 14 i 2), .int (σ.1 14 i 3), .int (σ.1 14 i 4), .int (σ.1 14 i 5), .ref (E 15 i)] : List Value).set 2 (.int v)) := by simp [wCt, wUp]
theorem w_up_14_3 {cy : Nat → ClassId} {E : Nat → Nat → Nat} {σ : wSt} {i : Nat} {v : Int32} : wCt cy E (wUp σ 14 i 3 v) 14 i = .inr (2, ([.int (σ.1 14 i 0), .int (σ.1 14 i 1), .int (σ.1 14 i 2), .int (σ.1 14 i 3), .int (σ.1 14 i 4), .int (σ.1 14 i 5), .ref (E 15 i)] : List Value).set 3 (.int v)) := by simp [wCt, wUp]
theorem w_up_14_4 {cy : Nat → ClassId} {E : Nat → Nat → Nat} {σ : wSt} {i : Nat} {v : Int32} : wCt cy E (wUp σ 14 i 4 v) 14 i = .inr (2, ([.int (σ.1 14 i 0), .int (σ.1 14 i 1), .int (σ.1 14 i 2), .int (σ.1 14 i 3), .int (σ.1 14 i 4), .int (σ.1 14 i 5), .ref (E 15 i)] : List Value).set 4 (.int v)) := by simp [wCt, wUp]
theorem w_up_14_5 {cy : Nat → ClassId} {E : Nat → Nat → Nat} {σ : wSt} {i : Nat} {v : Int32} : wCt cy E (wUp σ 14 i 5 v) 14 i = .inr (2, ([.int (σ.1 14 i 0), .int (σ.1 14 i 1), .int (σ.1 14 i 2), .int (σ.1 14 i 3), .int (σ.1 14 i 4), .int (σ.1 14 i 5), .ref (E 15 i)] : List Value).set 5 (.int v)) := by simp [wCt, wUp]
theorem w_up_15_1 {cy : Nat → ClassId} {E : Nat → Nat → Nat} {σ : wSt} {i : Nat} {v : Int32} : wCt cy E (wUp σ 15 i 1 v) 15 i = .inr (1, ([.ref (E 16 i), .int (σ.1 15 i 1)] : List Value).set 1 (.int v)) := by simp [wCt, wUp]
theorem w_up_17_0 {cy : Nat → ClassId} {E : Nat → Nat → Nat} {σ : wSt} {i : Nat} {v : Int32} : wCt cy E (wUp σ 17 i 0 v) 17 i = .inr (4, ([.int (σ.1 17 i 0), .int (σ.1 17 i 1)] : List Value).set 0 (.int v)) := by simp [wCt, wUp]
theorem w_up_17_1 {cy : Nat → ClassId} {E : Nat → Nat → Nat} {σ : wSt} {i : Nat} {v : Int32} : wCt cy E (wUp σ 17 i 1 v) 17 i = .inr (4, ([.int (σ.1 17 i 0), .int (σ.1 17 i 1)] : List Value).set 1 (.int v)) := by simp [wCt, wUp]
theorem w_up_18_1 {cy : Nat → ClassId} {E : Nat → Nat → Nat} {σ : wSt} {i : Nat} {v : Int32} : wCt cy E (wUp σ 18 i 1 v) 18 i = .inr (1, ([.ref (E 19 i), .int (σ.1 18 i 1)] : List Value).set 1 (.int v)) := by simp [wCt, wUp]
theorem w_up_20_0 {cy : Nat → ClassId} {E : Nat → Nat → Nat} {σ : wSt} {i : Nat} {v : Int32} : wCt cy E (wUp σ 20 i 0 v) 20 i = .inr (6, ([.int (σ.1 20 i 0), .long (σ.2 1), .int (σ.1 20 i 2), .ref (E 21 0), .ref (E 22 0), .ref (E 23 0), .ref (E 24 0), .int (σ.1 20 i 7), .ref (E 25 0), .ref (E 26 0), .ref (E 27 0), .ref (E 28 0), .ref (E 29 0), .ref (E 30 0), .int (σ.1 20 i 14), .ref (E 31 0), .ref (E 32 0), .int (σ.1 20 i 17), .ref (E 33 0), .ref (E 34 0), .ref (E 35 0), .ref (E 36 0), .ref (E 37 0)] : List Value).set 0 (.int v)) := by simp [wCt, wUp]
theorem w_up_20_2 {cy : Nat → ClassId} {E : Nat → Nat → Nat} {σ : wSt} {i : Nat} {v : Int32} : wCt cy E (wUp σ 20 i 2 v) 20 i = .inr (6, ([.int (σ.1 20 i 0), .long (σ.2 1), .int (σ.1 20 i 2), .ref (E 21 0), .ref (E 22 0), .ref (E 23 0), .ref (E 24 0), .int (σ.1 20 i 7), .ref (E 25 0), .ref (E 26 0), .ref (E 27 0), .ref (E 28 0), .ref (E 29 0), .ref (E 30 0), .int (σ.1 20 i 14), .ref (E 31 0), .ref (E 32 0), .int (σ.1 20 i 17), .ref (E 33 0), .ref (E 34 0), .ref (E 35 0), .ref (E 36 0), .ref (E 37 0)] : List Value).set 2 (.int v)) := by simp [wCt, wUp]
theorem w_up_20_7 {cy : Nat → ClassId} {E : Nat → Nat → Nat} {σ : wSt} {i : Nat} {v : Int32} : wCt cy E (wUp σ 20 i 7 v) 20 i = .inr (6, ([.int (σ.1 20 i 0), .long (σ.2 1), .int (σ.1 20 i 2), .ref (E 21 0), .ref (E 22 0), .ref (E 23 0), .ref (E 24 0), .int (σ.1 20 i 7), .ref (E 25 0), .ref (E 26 0), .ref (E 27 0), .ref (E 28 0), .ref (E 29 0), .ref (E 30 0), .int (σ.1 20 i 14), .ref (E 31 0), .ref (E 32 0), .int (σ.1 20 i 17), .ref (E 33 0), .ref (E 34 0), .ref (E 35 0), .ref (E 36 0), .ref (E 37 0)] : List Value).set 7 (.int v)) := by simp [wCt, wUp]
theorem w_up_20_14 {cy : Nat → ClassId} {E : Nat → Nat → Nat} {σ : wSt} {i : Nat} {v : Int32} : wCt cy E (wUp σ 20 i 14 v) 20 i = .inr (6, ([.int (σ.1 20 i 0), .long (σ.2 1), .int (σ.1 20 i 2), .ref (E 21 0), .ref (E 22 0), .ref (E 23 0), .ref (E 24 0), .int (σ.1 20 i 7), .ref (E 25 0), .ref (E 26 0), .ref (E 27 0), .ref (E 28 0), .ref (E 29 0), .ref (E 30 0), .int (σ.1 20 i 14), .ref (E 31 0), .ref (E 32 0), .int (σ.1 20 i 17), .ref (E 33 0), .ref (E 34 0), .ref (E 35 0), .ref (E 36 0), .ref (E 37 0)] : List Value).set 14 (.int v)) := by simp [wCt, wUp]
theorem w_up_20_17 {cy : Nat → ClassId} {E : Nat → Nat → Nat} {σ : wSt} {i : Nat} {v : Int32} : wCt cy E (wUp σ 20 i 17 v) 20 i = .inr (6, ([.int (σ.1 20 i 0), .long (σ.2 1), .int (σ.1 20 i 2), .ref (E 21 0), .ref (E 22 0), .ref (E 23 0), .ref (E 24 0), .int (σ.1 20 i 7), .ref (E 25 0), .ref (E 26 0), .ref (E 27 0), .ref (E 28 0), .ref (E 29 0), .ref (E 30 0), .int (σ.1 20 i 14), .ref (E 31 0), .ref (E 32 0), .int (σ.1 20 i 17), .ref (E 33 0), .ref (E 34 0), .ref (E 35 0), .ref (E 36 0), .ref (E 37 0)] : List Value).set 17 (.int v)) := by simp [wCt, wUp]
theorem w_up_20_1 {cy : Nat → ClassId} {E : Nat → Nat → Nat} {σ : wSt} {i : Nat} {v : Int64} : wCt cy E (wUpL σ 1 v) 20 i = .inr (6, ([.int (σ.1 20 i 0), .long (σ.2 1), .int (σ.1 20 i 2), .ref (E 21 0), .ref (E 22 0), .ref (E 23 0), .ref (E 24 0), .int (σ.1 20 i 7), .ref (E 25 0), .ref (E 26 0), .ref (E 27 0), .ref (E 28 0), .ref (E 29 0), .ref (E 30 0), .int (σ.1 20 i 14), .ref (E 31 0), .ref (E 32 0), .int (σ.1 20 i 17), .ref (E 33 0), .ref (E 34 0), .ref (E 35 0), .ref (E 36 0), .ref (E 37 0)] : List Value).set 1 (.long v)) := by simp [wCt, wUpL]
theorem w_ast_6 {cy : Nat → ClassId} {E : Nat → Nat → Nat} {σ : wSt} {i k : Nat} {v : Int32} : wCt cy E (wUp σ 6 i k v) 6 i = .inl (cy 0, wLen 6, .inl (upd (σ.1 6 i) k v)) := by
  show Sum.inl (cy 0, wLen 6, Sum.inl ((wUp σ 6 i k v).1 6 i)) = _
  rw [wUp_row]
theorem w_ast_8 {cy : Nat → ClassId} {E : Nat → Nat → Nat} {σ : wSt} {i k : Nat} {v : Int32} : wCt cy E (wUp σ 8 i k v) 8 i = .inl (cy 0, wLen 8, .inl (upd (σ.1 8 i) k v)) := by
  show Sum.inl (cy 0, wLen 8, Sum.inl ((wUp σ 8 i k v).1 8 i)) = _
  rw [wUp_row]
theorem w_ast_10 {cy : Nat → ClassId} {E : Nat → Nat → Nat} {σ : wSt} {i k : Nat} {v : Int32} : wCt cy E (wUp σ 10 i k v) 10 i = .inl (cy 0, wLen 10, .inl (upd (σ.1 10 i) k v)) := by
  show Sum.inl (cy 0, wLen 10, Sum.inl ((wUp σ 10 i k v).1 10 i)) = _
  rw [wUp_row]
theorem w_ast_12 {cy : Nat → ClassId} {E : Nat → Nat → Nat} {σ : wSt} {i k : Nat} {v : Int32} : wCt cy E (wUp σ 12 i k v) 12 i = .inl (cy 0, wLen 12, .inl (upd (σ.1 12 i) k v)) := by
  show Sum.inl (cy 0, wLen 12, Sum.inl ((wUp σ 12 i k v).1 12 i)) = _
  rw [wUp_row]
theorem w_ast_13 {cy : Nat → ClassId} {E : Nat → Nat → Nat} {σ : wSt} {i k : Nat} {v : Int32} : wCt cy E (wUp σ 13 i k v) 13 i = .inl (cy 0, wLen 13, .inl (upd (σ.1 13 i) k v)) := by
  show Sum.inl (cy 0, wLen 13, Sum.inl ((wUp σ 13 i k v).1 13 i)) = _
  rw [wUp_row]
theorem w_ast_16 {cy : Nat → ClassId} {E : Nat → Nat → Nat} {σ : wSt} {i k : Nat} {v : Int32} : wCt cy E (wUp σ 16 i k v) 16 i = .inl (cy 0, wLen 16, .inl (upd (σ.1 16 i) k v)) := by
  show Sum.inl (cy 0, wLen 16, Sum.inl ((wUp σ 16 i k v).1 16 i)) = _
  rw [wUp_row]
theorem w_ast_19 {cy : Nat → ClassId} {E : Nat → Nat → Nat} {σ : wSt} {i k : Nat} {v : Int32} : wCt cy E (wUp σ 19 i k v) 19 i = .inl (cy 0, wLen 19, .inl (upd (σ.1 19 i) k v)) := by
  show Sum.inl (cy 0, wLen 19, Sum.inl ((wUp σ 19 i k v).1 19 i)) = _
  rw [wUp_row]
theorem w_ast_21 {cy : Nat → ClassId} {E : Nat → Nat → Nat} {σ : wSt} {i k : Nat} {v : Int32} : wCt cy E (wUp σ 21 i k v) 21 i = .inl (cy 0, wLen 21, .inl (upd (σ.1 21 i) k v)) := by
  show Sum.inl (cy 0, wLen 21, Sum.inl ((wUp σ 21 i k v).1 21 i)) = _
  rw [wUp_row]
theorem w_ast_22 {cy : Nat → ClassId} {E : Nat → Nat → Nat} {σ : wSt} {i k : Nat} {v : Int32} : wCt cy E (wUp σ 22 i k v) 22 i = .inl (cy 0, wLen 22, .inl (upd (σ.1 22 i) k v)) := by
  show Sum.inl (cy 0, wLen 22, Sum.inl ((wUp σ 22 i k v).1 22 i)) = _
  rw [wUp_row]
theorem w_ast_23 {cy : Nat → ClassId} {E : Nat → Nat → Nat} {σ : wSt} {i k : Nat} {v : Int32} : wCt cy E (wUp σ 23 i k v) 23 i = .inl (cy 0, wLen 23, .inl (upd (σ.1 23 i) k v)) := by
  show Sum.inl (cy 0, wLen 23, Sum.inl ((wUp σ 23 i k v).1 23 i)) = _
  rw [wUp_row]
theorem w_ast_24 {cy : Nat → ClassId} {E : Nat → Nat → Nat} {σ : wSt} {i k : Nat} {v : Int32} : wCt cy E (wUp σ 24 i k v) 24 i = .inl (cy 0, wLen 24, .inl (upd (σ.1 24 i) k v)) := by
  show Sum.inl (cy 0, wLen 24, Sum.inl ((wUp σ 24 i k v).1 24 i)) = _
  rw [wUp_row]
theorem w_ast_25 {cy : Nat → ClassId} {E : Nat → Nat → Nat} {σ : wSt} {i k : Nat} {v : Int32} : wCt cy E (wUp σ 25 i k v) 25 i = .inl (cy 0, wLen 25, .inl (upd (σ.1 25 i) k v)) := by
  show Sum.inl (cy 0, wLen 25, Sum.inl ((wUp σ 25 i k v).1 25 i)) = _
  rw [wUp_row]
theorem w_ast_26 {cy : Nat → ClassId} {E : Nat → Nat → Nat} {σ : wSt} {i k : Nat} {v : Int32} : wCt cy E (wUp σ 26 i k v) 26 i = .inl (cy 0, wLen 26, .inl (upd (σ.1 26 i) k v)) := by
  show Sum.inl (cy 0, wLen 26, Sum.inl ((wUp σ 26 i k v).1 26 i)) = _
  rw [wUp_row]
theorem w_ast_27 {cy : Nat → ClassId} {E : Nat → Nat → Nat} {σ : wSt} {i k : Nat} {v : Int32} : wCt cy E (wUp σ 27 i k v) 27 i = .inl (cy 0, wLen 27, .inl (upd (σ.1 27 i) k v)) := by
  show Sum.inl (cy 0, wLen 27, Sum.inl ((wUp σ 27 i k v).1 27 i)) = _
  rw [wUp_row]
theorem w_ast_28 {cy : Nat → ClassId} {E : Nat → Nat → Nat} {σ : wSt} {i k : Nat} {v : Int32} : wCt cy E (wUp σ 28 i k v) 28 i = .inl (cy 0, wLen 28, .inl (upd (σ.1 28 i) k v)) := by
  show Sum.inl (cy 0, wLen 28, Sum.inl ((wUp σ 28 i k v).1 28 i)) = _
  rw [wUp_row]
theorem w_ast_29 {cy : Nat → ClassId} {E : Nat → Nat → Nat} {σ : wSt} {i k : Nat} {v : Int32} : wCt cy E (wUp σ 29 i k v) 29 i = .inl (cy 0, wLen 29, .inl (upd (σ.1 29 i) k v)) := by
  show Sum.inl (cy 0, wLen 29, Sum.inl ((wUp σ 29 i k v).1 29 i)) = _
  rw [wUp_row]
theorem w_ast_30 {cy : Nat → ClassId} {E : Nat → Nat → Nat} {σ : wSt} {i k : Nat} {v : Int32} : wCt cy E (wUp σ 30 i k v) 30 i = .inl (cy 0, wLen 30, .inl (upd (σ.1 30 i) k v)) := by
  show Sum.inl (cy 0, wLen 30, Sum.inl ((wUp σ 30 i k v).1 30 i)) = _
  rw [wUp_row]
theorem w_ast_31 {cy : Nat → ClassId} {E : Nat → Nat → Nat} {σ : wSt} {i k : Nat} {v : Int32} : wCt cy E (wUp σ 31 i k v) 31 i = .inl (cy 0, wLen 31, .inl (upd (σ.1 31 i) k v)) := by
  show Sum.inl (cy 0, wLen 31, Sum.inl ((wUp σ 31 i k v).1 31 i)) = _
  rw [wUp_row]
theorem w_ast_32 {cy : Nat → ClassId} {E : Nat → Nat → Nat} {σ : wSt} {i k : Nat} {v : Int32} : wCt cy E (wUp σ 32 i k v) 32 i = .inl (cy 0, wLen 32, .inl (upd (σ.1 32 i) k v)) := by
  show Sum.inl (cy 0, wLen 32, Sum.inl ((wUp σ 32 i k v).1 32 i)) = _
  rw [wUp_row]
theorem w_ast_33 {cy : Nat → ClassId} {E : Nat → Nat → Nat} {σ : wSt} {i k : Nat} {v : Int32} : wCt cy E (wUp σ 33 i k v) 33 i = .inl (cy 0, wLen 33, .inl (upd (σ.1 33 i) k v)) := by
  show Sum.inl (cy 0, wLen 33, Sum.inl ((wUp σ 33 i k v).1 33 i)) = _
  rw [wUp_row]
theorem w_ast_34 {cy : Nat → ClassId} {E : Nat → Nat → Nat} {σ : wSt} {i k : Nat} {v : Int32} : wCt cy E (wUp σ 34 i k v) 34 i = .inl (cy 0, wLen 34, .inl (upd (σ.1 34 i) k v)) := by
  show Sum.inl (cy 0, wLen 34, Sum.inl ((wUp σ 34 i k v).1 34 i)) = _
  rw [wUp_row]
theorem w_ast_35 {cy : Nat → ClassId} {E : Nat → Nat → Nat} {σ : wSt} {i k : Nat} {v : Int32} : wCt cy E (wUp σ 35 i k v) 35 i = .inl (cy 0, wLen 35, .inl (upd (σ.1 35 i) k v)) := by
  show Sum.inl (cy 0, wLen 35, Sum.inl ((wUp σ 35 i k v).1 35 i)) = _
  rw [wUp_row]
theorem w_ast_36 {cy : Nat → ClassId} {E : Nat → Nat → Nat} {σ : wSt} {i k : Nat} {v : Int32} : wCt cy E (wUp σ 36 i k v) 36 i = .inl (cy 0, wLen 36, .inl (upd (σ.1 36 i) k v)) := by
  show Sum.inl (cy 0, wLen 36, Sum.inl ((wUp σ 36 i k v).1 36 i)) = _
  rw [wUp_row]
theorem w_ast_37 {cy : Nat → ClassId} {E : Nat → Nat → Nat} {σ : wSt} {i k : Nat} {v : Int32} : wCt cy E (wUp σ 37 i k v) 37 i = .inl (cy 0, wLen 37, .inl (upd (σ.1 37 i) k v)) := by
  show Sum.inl (cy 0, wLen 37, Sum.inl ((wUp σ 37 i k v).1 37 i)) = _
  rw [wUp_row]
theorem unf_RX5_77 : wLink RX5 77 "PlateRoom$Years" "first" "I" (some "PlateRoom") := List.mem_of_getElem? (i := 0) rfl
theorem unf_RX5_80 : wLink RX5 80 "PlateRoom$Years" "last" "I" (some "PlateRoom") := List.mem_of_getElem? (i := 1) rfl
theorem unf_RX5_229 : wLink RX5 229 "PlateRoom$Plate" "cut" "I" (some "PlateRoom") := List.mem_of_getElem? (i := 2) rfl
theorem unf_RX5_232 : wLink RX5 232 "PlateRoom$Plate" "rub" "I" (some "PlateRoom") := List.mem_of_getElem? (i := 3) rfl
theorem unf_RX5_235 : wLink RX5 235 "PlateRoom$Plate" "again" "I" (some "PlateRoom") := List.mem_of_getElem? (i := 4) rfl
theorem unf_RX5_70 : wLink RX5 70 "PlateRoom$Plate" "lines" "[I" (some "PlateRoom") := List.mem_of_getElem? (i := 5) rfl
theorem unf_RX5_74 : wLink RX5 74 "PlateRoom$Plate" "years" "[LPlateRoom$Years;" (some "PlateRoom") := List.mem_of_getElem? (i := 6) rfl
theorem unf_RX5_100 : wLink RX5 100 "PlateRoom$Plate" "stateCount" "I" (some "PlateRoom") := List.mem_of_getElem? (i := 7) rfl
theorem unf_RX5_238 : wLink RX5 238 "PlateRoom$Copies" "loss" "I" (some "PlateRoom") := List.mem_of_getElem? (i := 8) rfl
theorem unf_RX5_241 : wLink RX5 241 "PlateRoom$Copies" "alone" "I" (some "PlateRoom") := List.mem_of_getElem? (i := 9) rfl
theorem unf_RX5_187 : wLink RX5 187 "PlateRoom$Copies" "errors" "[I" (some "PlateRoom") := List.mem_of_getElem? (i := 10) rfl
theorem unf_RX5_223 : wLink RX5 223 "PlateRoom$Copies" "mapCount" "I" (some "PlateRoom") := List.mem_of_getElem? (i := 11) rfl
theorem unf_RX5_268 : wLink RX5 268 "PlateRoom$Holes" "placeCount" "I" (some "PlateRoom") := List.mem_of_getElem? (i := 12) rfl
theorem unf_RX5_244 : wLink RX5 244 "PlateRoom$Leaf" "there" "I" (some "PlateRoom") := List.mem_of_getElem? (i := 13) rfl
theorem unf_RX5_247 : wLink RX5 247 "PlateRoom$Leaf" "gone" "I" (some "PlateRoom") := List.mem_of_getElem? (i := 14) rfl
theorem unf_RX5_258 : wLink RX5 258 "PlateRoom$Leaf" "worth" "I" (some "PlateRoom") := List.mem_of_getElem? (i := 15) rfl
theorem unf_RX5_263 : wLink RX5 263 "PlateRoom$Leaf" "colour" "I" (some "PlateRoom") := List.mem_of_getElem? (i := 16) rfl
theorem unf_RX5_133 : wLink RX5 133 "PlateRoom$Leaf" "mould" "I" (some "PlateRoom") := List.mem_of_getElem? (i := 17) rfl
theorem unf_RX5_139 : wLink RX5 139 "PlateRoom$Leaf" "imprint" "I" (some "PlateRoom") := List.mem_of_getElem? (i := 18) rfl
theorem unf_RX5_196 : wLink RX5 196 "PlateRoom$Leaf" "holes" "LPlateRoom$Holes;" (some "PlateRoom") := List.mem_of_getElem? (i := 19) rfl
theorem unm_RX5_9 : wLinkM RX5 9 yX3_init (some "PlateRoom") := List.mem_of_getElem? (i := 0) rfl
theorem unm_RX3_42 : wLinkM RX3 42 yX4_init (some "PlateRoom") := List.mem_of_getElem? (i := 1) rfl
theorem unm_RX5_18 : wLinkM RX5 18 yX0_init (some "PlateRoom") := List.mem_of_getElem? (i := 2) rfl
theorem unm_RX5_52 : wLinkM RX5 52 yX2_init (some "PlateRoom") := List.mem_of_getElem? (i := 3) rfl
theorem unm_RX2_32 : wLinkM RX2 32 yX1_init (some "PlateRoom") := List.mem_of_getElem? (i := 4) rfl
theorem unm_RX5_53 : wLinkM RX5 53 yX4_init (some "PlateRoom") := List.mem_of_getElem? (i := 5) rfl
theorem unm_RX5_54 : wLinkM RX5 54 yX1_init (some "PlateRoom") := List.mem_of_getElem? (i := 6) rfl
theorem unm_RX5_63 : wLinkM RX5 63 yX3_addState (some "PlateRoom") := List.mem_of_getElem? (i := 7) rfl
theorem unm_RX3_43 : wLinkM RX3 43 yX4_put (some "PlateRoom") := List.mem_of_getElem? (i := 8) rfl
theorem unm_RX5_67 : wLinkM RX5 67 yX3_hasState (some "PlateRoom") := List.mem_of_getElem? (i := 9) rfl
theorem unm_RX5_94 : wLinkM RX5 94 yX3_quarrelOf (some "PlateRoom") := List.mem_of_getElem? (i := 10) rfl
theorem unm_RX3_58 : wLinkM RX3 58 yX5_has (some "PlateRoom") := List.mem_of_getElem? (i := 11) rfl
theorem unm_RX5_103 : wLinkM RX5 103 yX3_bestOrder (some "PlateRoom") := List.mem_of_getElem? (i := 12) rfl
theorem unm_RX5_107 : wLinkM RX5 107 yX2_strike (some "PlateRoom") := List.mem_of_getElem? (i := 13) rfl
theorem unm_RX5_117 : wLinkM RX5 117 yX2_lookOf (some "PlateRoom") := List.mem_of_getElem? (i := 14) rfl
theorem unm_RX2_37 : wLinkM RX2 37 yX5_has (some "PlateRoom") := List.mem_of_getElem? (i := 15) rfl
theorem unm_RX5_120 : wLinkM RX5 120 yX2_look (some "PlateRoom") := List.mem_of_getElem? (i := 16) rfl
theorem unm_RX5_250 : wLinkM RX5 250 yX3_statesWith (some "PlateRoom") := List.mem_of_getElem? (i := 17) rfl
theorem unm_RX5_127 : wLinkM RX5 127 yX4_put (some "PlateRoom") := List.mem_of_getElem? (i := 18) rfl
theorem unm_RX5_169 : wLinkM RX5 169 yX0_addMap (some "PlateRoom") := List.mem_of_getElem? (i := 19) rfl
theorem unm_RX5_172 : wLinkM RX5 172 yX0_mayComeFrom (some "PlateRoom") := List.mem_of_getElem? (i := 20) rfl
theorem unm_RX5_175 : wLinkM RX5 175 yX0_costOf (some "PlateRoom") := List.mem_of_getElem? (i := 21) rfl
theorem unm_RX5_178 : wLinkM RX5 178 yX0_hasMap (some "PlateRoom") := List.mem_of_getElem? (i := 22) rfl
theorem unm_RX5_181 : wLinkM RX5 181 yX0_cheapest (some "PlateRoom") := List.mem_of_getElem? (i := 23) rfl
theorem unm_RX5_184 : wLinkM RX5 184 yX0_rivalCount (some "PlateRoom") := List.mem_of_getElem? (i := 24) rfl
theorem unm_RX5_190 : wLinkM RX5 190 yX0_lifeOf (some "PlateRoom") := List.mem_of_getElem? (i := 25) rfl
theorem unm_RX0_53 : wLinkM RX0 53 yX5_has (some "PlateRoom") := List.mem_of_getElem? (i := 26) rfl
theorem unm_RX5_193 : wLinkM RX5 193 yX1_isPlace (some "PlateRoom") := List.mem_of_getElem? (i := 27) rfl
theorem unm_RX5_200 : wLinkM RX5 200 yX1_bore (some "PlateRoom") := List.mem_of_getElem? (i := 28) rfl
theorem unm_RX5_206 : wLinkM RX5 206 yX1_isShift (some "PlateRoom") := List.mem_of_getElem? (i := 29) rfl
theorem unm_RX5_209 : wLinkM RX5 209 yX1_fitting (some "PlateRoom") := List.mem_of_getElem? (i := 30) rfl
theorem unm_RX5_213 : wLinkM RX5 213 yX1_bestShift (some "PlateRoom") := List.mem_of_getElem? (i := 31) rfl
theorem unm_RX5_271 : wLinkM RX5 271 yX1_mostFitting (some "PlateRoom") := List.mem_of_getElem? (i := 32) rfl
end
section
/-! PART 02.f: numbers -/
/-- a truth as Java tells it -/
def wb (P : Prop) [Decidable P] : Int32 := if P then 1 else 0
theorem wb_t {P : Prop} [Decidable P] (h : P) : wb P = 1 := if_pos h
theorem wb_f {P : Prop} [Decidable P] (h : ¬ P) : wb P = 0 := if_neg h
theorem wb_0 {P : Prop} [Decidable P] {r : Int32} (h : r = wb P) (c : r = 0) : ¬ P := fun q => by rw [h, wb_t q] at c; exact absurd c (by decide)
theorem wb_1 {P : Prop} [Decidable P] {r : Int32} (h : r = wb P) (c : ¬ r = 0) : P := Classical.byContradiction fun q => c (by rw [h, wb_f q])
theorem wb_nar {P : Prop} [Decidable P] {r : Int32} (h : r = wb P) : narrow .boolean (.int r) = .int r := by
  rw [h]
  by_cases q : P
  · rw [wb_t q]; rfl
  · rw [wb_f q]; rfl
theorem wI_lt {a b : Int32} : a < b ↔ a.toInt < b.toInt := Int32.lt_iff_toInt_lt
theorem wI_le {a b : Int32} : a ≤ b ↔ a.toInt ≤ b.toInt := Int32.le_iff_toInt_le
theorem wI_eq {a b : Int32} : a = b ↔ a.toInt = b.toInt := Int32.toInt_inj.symm
theorem wI_cl {a : Int32} : a.toNatClampNeg = a.toInt.toNat := rfl
theorem wUp_ng {s : wSt} {g i k g1 i1 k1 : Nat} {v : Int32} (h : g1 ≠ g) : (wUp s g i k v).1 g1 i1 k1 = s.1 g1 i1 k1 := wUp_ne fun q => h q.1
theorem wUp_ni {s : wSt} {g i k g1 i1 k1 : Nat} {v : Int32} (h : i1 ≠ i) : (wUp s g i k v).1 g1 i1 k1 = s.1 g1 i1 k1 := wUp_ne fun q => h q.2.1
theorem wUp_nk {s : wSt} {g i k g1 i1 k1 : Nat} {v : Int32} (h : k1 ≠ k) : (wUp s g i k v).1 g1 i1 k1 = s.1 g1 i1 k1 := wUp_ne fun q => h q.2.2
theorem wUp_ngf {s : wSt} {g i k g1 : Nat} {v : Int32} (h : g1 ≠ g) : (wUp s g i k v).1 g1 = s.1 g1 := by funext i1 k1; exact wUp_ng h
theorem wUp_id {s : wSt} {g i k : Nat} {v : Int32} (h : s.1 g i k = v) : wUp s g i k v = s := by
  refine Prod.ext ?_ rfl
  funext g1 i1 k1
  by_cases e : g1 = g ∧ i1 = i ∧ k1 = k
  · obtain ⟨rfl, rfl, rfl⟩ := e
    rw [wUp_eq, h]
  · exact wUp_ne e
end
section
/-! PART 02.g: what the methods' loops compute, as functions of numbers -/
/-- Integer.bitCount, as its code has it -/
def jb (x : Int32) : Int32 :=
  let u := fun (y k : Int32) => (y.toUInt32 >>> (k.toUInt32 &&& Int32.toUInt32 31)).toInt32
  let a := x - (u x 1 &&& 1431655765)
  let b := (a &&& 858993459) + (u a 2 &&& 858993459)
  let c := (b + u b 4) &&& 252645135
  let d := c + u c 8
  let e := d + u d 16
  e &&& 63
/-- the STATES (of the first k) that have all of a and none of b -/
def candU (f : Nat → Int32) (a b : Int32) : Nat → Int32
  | 0 => 0
  | k + 1 => if f k &&& a = a ∧ f k &&& b = 0 then candU f a b k ||| (1 <<< (nI k &&& 31)) else candU f a b k
theorem candU_t {f : Nat → Int32} {a b : Int32} (k : Nat) (_ : k = k) (_ : k = k) (h : f k &&& a = a ∧ f k &&& b = 0) : candU f a b (k + 1) = candU f a b k ||| (1 <<< (nI k &&& 31)) := if_pos h
theorem candU_f {f : Nat → Int32} {a b : Int32} (k : Nat) (_ : k = k) (_ : k = k) (h : ¬ (f k &&& a = a ∧ f k &&& b = 0)) : candU f a b (k + 1) = candU f a b k := if_neg h
def hasB (a b : Int32) : Prop := (a >>> (b &&& 31)) &&& 1 = 1
/-- all lines of the STATES (of the first k) in the set a -/
def linesU (f : Nat → Int32) (a : Int32) : Nat → Int32
  | 0 => 0
  | k + 1 => if (a >>> (nI k &&& 31)) &&& 1 = 1 then linesU f a k ||| f k else linesU f a k
theorem linesU_t {f : Nat → Int32} {a : Int32} (k : Nat) (_ : k = k) (h : (a >>> (nI k &&& 31)) &&& 1 = 1) : linesU f a (k + 1) = linesU f a k ||| f k := if_pos h
theorem linesU_f {f : Nat → Int32} {a : Int32} (k : Nat) (_ : k = k) (h : ¬ ((a >>> (nI k &&& 31)) &&& 1 = 1)) : linesU f a (k + 1) = linesU f a k := if_neg h
def stepJ (cut rub again a b c : Int32) : Int32 := jb ((c &&& (b ^^^ -1)) &&& (a ^^^ -1)) * cut + jb ((c &&& (b ^^^ -1)) &&& a) * again + jb (b &&& (c ^^^ -1)) * rub
abbrev rng12 (a : Int32) : Prop := 0 ≤ a ∧ a ≤ 4095
/-- how many of the bits 0 .. k-1 -/
def popU (x : Int32) : Nat → Int32
  | 0 => 0
  | k + 1 => popU x k + ((x >>> (nI k &&& 31)) &&& 1)
def pop (x : Int32) : Int32 := popU x 12
/-- QUARREL of a step: been, this state's lines, the next one's -/
def stepF (cut rub again a b c : Int32) : Int32 := pop ((c &&& (b ^^^ -1)) &&& (a ^^^ -1)) * cut + pop ((c &&& (b ^^^ -1)) &&& a) * again + pop (b &&& (c ^^^ -1)) * rub
def lookF (t g b : Int32) : Int32 := if (t >>> (b &&& 31)) &&& 1 = 1 then 1 else if (g >>> (b &&& 31)) &&& 1 = 1 then 2 else 0
def lookT (t b h : Int32) : Int32 := if h = 1 then t ||| (1 <<< (b &&& 31)) else t &&& ((1 <<< (b &&& 31)) ^^^ -1)
def lookG (t b h : Int32) : Int32 := if h = 2 then t ||| (1 <<< (b &&& 31)) else t &&& ((1 <<< (b &&& 31)) ^^^ -1)
/-! maps -/
abbrev inN (n v : Int32) : Prop := 0 ≤ v ∧ v < n
abbrev mayU (y : Nat → Int32) (n m s : Int32) : Prop := inN n m ∧ (s = -9 ∨ (inN n s ∧ y s.toNatClampNeg < y m.toNatClampNeg))
def costU (e : Nat → Int32) (loss alone n m s : Int32) : Int32 := if inN n s then pop (e m.toNatClampNeg &&& (e s.toNatClampNeg ^^^ -1)) + pop (e s.toNatClampNeg &&& (e m.toNatClampNeg ^^^ -1)) * loss else pop (e m.toNatClampNeg) + alone
def fromU (y : Nat → Int32) (f : Int32 → Int32) (m : Nat) : Nat → Int32
  | 0 => -9
  | k + 1 => if y k < y m ∧ f (nI k) < f (fromU y f m k) then nI k else fromU y f m k
theorem fromU_t {y : Nat → Int32} {f : Int32 → Int32} {m k : Nat} (h : y k < y m ∧ f (nI k) < f (fromU y f m k)) : fromU y f m (k + 1) = nI k := if_pos h
theorem fromU_f {y : Nat → Int32} {f : Int32 → Int32} {m k : Nat} (h : ¬ (y k < y m ∧ f (nI k) < f (fromU y f m k))) : fromU y f m (k + 1) = fromU y f m k := if_neg h
def rivU (y : Nat → Int32) (f : Int32 → Int32) (m : Nat) (src least : Int32) : Nat → Int32
  | 0 => 0
  | k + 1 => if ¬ nI k = src ∧ y k < y m ∧ f (nI k) = least then rivU y f m src least k + 1 else rivU y f m src least k
theorem rivU_t {y : Nat → Int32} {f : Int32 → Int32} {m k : Nat} {src least : Int32} (h : ¬ nI k = src ∧ y k < y m ∧ f (nI k) = least) : rivU y f m src least (k + 1) = rivU y f m src least k + 1 := if_pos h
theorem rivU_f {y : Nat → Int32} {f : Int32 → Int32} {m k : Nat} {src least : Int32} (h : ¬ (¬ nI k = src ∧ y k < y m ∧ f (nI k) = least)) : rivU y f m src least (k + 1) = rivU y f m src least k := if_neg h
/-- the way from a map, k steps at most, each with the error d, to the map b -/
def chU (e : Nat → Int32) (fr : Int32 → Int32) (n b d : Int32) : Nat → Int32 → Bool
  | 0, _ => false
  | k + 1, a => if ¬ inN n a then false else if ¬ (e a.toNatClampNeg >>> (d &&& 31)) &&& 1 = 1 then false else if a = b then true else chU e fr n b d k (fr a)
def lifeU (p : Int32 → Bool) : Nat → Int32
  | 0 => 0
  | k + 1 => if p (nI k) = true then lifeU p k + 1 else lifeU p k
theorem lifeU_t {p : Int32 → Bool} {k : Nat} (h : p (nI k) = true) : lifeU p (k + 1) = lifeU p k + 1 := if_pos h
theorem lifeU_f {p : Int32 → Bool} {k : Nat} (h : ¬ p (nI k) = true) : lifeU p (k + 1) = lifeU p k := if_neg h
/-! holes -/
def absI (u : Int32) : Int32 := if 0 ≤ u then u else 0 - u
def nearB (p : Nat → Int32) (v f : Int32) : Nat → Bool
  | 0 => false
  | k + 1 => nearB p v f k || decide (absI (p k - v) ≤ f)
theorem near_mono {p : Nat → Int32} {v f : Int32} {a b : Nat} (h : a ≤ b) (q : nearB p v f a = true) : nearB p v f b = true := by
  induction b with
  | zero => rw [Nat.le_zero.mp h] at q; exact q
  | succ b ih =>
    rcases Nat.lt_or_ge a (b + 1) with z | z
    · simp only [nearB, ih (by omega), Bool.true_or]
    · rw [show a = b + 1 by omega] at q; exact q
def fitU (p q : Nat → Int32) (h : Nat) (s : Int32) : Nat → Int32
  | 0 => 0
  | k + 1 => if nearB q (p k + s) 1 h = true then fitU p q h s k + 1 else fitU p q h s k
theorem fitU_t {p q : Nat → Int32} {h : Nat} {s : Int32} {k : Nat} (c : nearB q (p k + s) 1 h = true) : fitU p q h s (k + 1) = fitU p q h s k + 1 := if_pos c
theorem fitU_f {p q : Nat → Int32} {h : Nat} {s : Int32} {k : Nat} (c : ¬ nearB q (p k + s) 1 h = true) : fitU p q h s (k + 1) = fitU p q h s k := if_neg c
def shS (F : Int32 → Int32) (k b : Int32) : Int32 := if F b < F k then k else b
def shU (F : Int32 → Int32) : Nat → Int32
  | 0 => 0
  | j + 1 => shS F (nI (j + 1)) (shS F (-nI (j + 1)) (shU F j))
def mostU (F : Int32 → Int32) : Int32 := F (shU F 20)
def homeU (M : Nat → Int32) : Nat → Int32 × Int32
  | 0 => (-9, 1)
  | k + 1 => if (homeU M k).2 < M k then (nI k, M k) else homeU M k
def chanceU (M : Nat → Int32) (l own : Int32) : Nat → Int32
  | 0 => 0
  | k + 1 => if ¬ nI k = l ∧ own ≤ M k then chanceU M l own k + 1 else chanceU M l own k
/-! spans and prices -/
def jmax (u v : Int32) : Int32 := if u < v then v else u
def jmin (u v : Int32) : Int32 := if v < u then v else u
def earlF (fr : Nat → Int32) (n m i : Int32) : Int32 := if i = -9 then (if inN n m then fr m.toNatClampNeg else 1500) else jmax (if inN n m then fr m.toNatClampNeg else 1500) i
def lateF (to : Nat → Int32) (n m : Int32) : Int32 := if inN n m then to m.toNatClampNeg else 1900
def spU (fr to : Nat → Int32) (c e l : Int32) : Nat → Int32 × Int32
  | 0 => (-9, -9)
  | k + 1 => if (c >>> (nI k &&& 31)) &&& 1 = 1 ∧ jmax e (fr k) ≤ jmin l (to k) then (if (spU fr to c e l k).1 = -9 then jmax e (fr k) else jmin (spU fr to c e l k).1 (jmax e (fr k)), if (spU fr to c e l k).2 = -9 then jmin l (to k) else jmax (spU fr to c e l k).2 (jmin l (to k))) else spU fr to c e l k
def plainF (n worth : Int32) : Int32 := if n = 0 then 0 else worth / n
def colF (p c : Int32) : Int32 := if c = 1 then p + p / 2 else if c = 2 then p - (p + 3) / 4 else p
def cntU (c : Nat → Int32) (v : Int32) : Nat → Int32
  | 0 => 0
  | k + 1 => if pop (c k) = v then cntU c v k + 1 else cntU c v k
theorem cntU_t {c : Nat → Int32} {v : Int32} {k : Nat} (h : pop (c k) = v) : cntU c v (k + 1) = cntU c v k + 1 := if_pos h
theorem cntU_f {c : Nat → Int32} {v : Int32} {k : Nat} (h : ¬ pop (c k) = v) : cntU c v (k + 1) = cntU c v k := if_neg h
/-! ranges -/
theorem rng_nat {a : Int32} : rng12 a ↔ a.toBitVec.toNat ≤ 4095 := by
  constructor
  · rintro ⟨h1, h2⟩
    rw [Int32.le_iff_toInt_le] at h1 h2
    have e1 : (0 : Int32).toInt = 0 := rfl
    have e2 : (4095 : Int32).toInt = 4095 := rfl
    rw [e1] at h1; rw [e2] at h2
    have := BitVec.toInt_eq_toNat_cond a.toBitVec
    have hh : a.toInt = a.toBitVec.toInt := rfl
    rw [hh] at h1 h2
    have hl := a.toBitVec.isLt
    split at this <;> omega
  · intro h
    have := BitVec.toInt_eq_toNat_cond a.toBitVec
    have hh : a.toInt = a.toBitVec.toInt := rfl
    have e1 : (0 : Int32).toInt = 0 := rfl
    have e2 : (4095 : Int32).toInt = 4095 := rfl
    constructor
    · rw [Int32.le_iff_toInt_le, e1, hh]
      split at this <;> omega
    · rw [Int32.le_iff_toInt_le, e2, hh]
      split at this <;> omega
theorem rng_and {a : Int32} (b : Int32) (h : rng12 a) : rng12 (a &&& b) := by
  rw [rng_nat] at h ⊢
  have e : (a &&& b).toBitVec.toNat = a.toBitVec.toNat &&& b.toBitVec.toNat := rfl
  rw [e]
  exact Nat.le_trans Nat.and_le_left h
theorem rng_or {a b : Int32} (h : rng12 a) (h2 : rng12 b) : rng12 (a ||| b) := by
  rw [rng_nat] at *
  have e : (a ||| b).toBitVec.toNat = a.toBitVec.toNat ||| b.toBitVec.toNat := rfl
  rw [e]
  have := Nat.or_lt_two_pow (n := 12) (x := a.toBitVec.toNat) (y := b.toBitVec.toNat) (by omega) (by omega)
  omega
theorem rng_I {a : Int32} (h : rng12 a) : ∃ m : Nat, m < 4096 ∧ a = nI m := by
  rw [rng_nat] at h
  refine ⟨a.toBitVec.toNat, by omega, ?_⟩
  apply Int32.toBitVec_inj.mp
  apply BitVec.eq_of_toNat_eq
  rw [pk_tn (by omega)]
theorem jb_all2 : ∀ k : Nat, k < 64 → ∀ m : Nat, m < 64 → jb (nI (64 * k + m)) = pop (nI (64 * k + m)) := by decide +kernel
theorem jb_all (m : Nat) (h : m < 4096) : jb (nI m) = pop (nI m) := by
  have := jb_all2 (m / 64) (by omega) (m % 64) (by omega)
  rw [Nat.div_add_mod] at this
  exact this
theorem jb_pop {a : Int32} (h : rng12 a) : jb a = pop a := by
  obtain ⟨m, hm, rfl⟩ := rng_I h
  exact jb_all m hm
theorem rng_cand {f : Nat → Int32} {a b : Int32} : ∀ n : Nat, n ≤ 6 → rng12 (candU f a b n)
  | 0, _ => by show rng12 0; decide
  | k + 1, h => by
    unfold candU
    split
    · refine rng_or (rng_cand k (by omega)) ?_
      rcases (show k = 0 ∨ k = 1 ∨ k = 2 ∨ k = 3 ∨ k = 4 ∨ k = 5 by omega) with rfl | rfl | rfl | rfl | rfl | rfl <;> decide
    · exact rng_cand k (by omega)
theorem rng_lines {f : Nat → Int32} {a : Int32} : ∀ n : Nat, (∀ i, i < n → rng12 (f i)) → rng12 (linesU f a n)
  | 0, _ => by show rng12 0; decide
  | k + 1, h => by
    unfold linesU
    split
    · exact rng_or (rng_lines k (fun i hi => h i (by omega))) (h k (by omega))
    · exact rng_lines k (fun i hi => h i (by omega))
/-! an index that was tested -/
theorem vp_ofc {v c : Int32} {l N : Nat} (hb : 0 ≤ v ∧ v < c) (hc : c = nI l) (h : l ≤ N) (hN : N < 2 ^ 31) : vp_in v N := by
  subst hc
  rw [vp_in_iff]
  have h1 := hb.1
  have h2 := hb.2
  rw [Int32.le_iff_toInt_le] at h1
  rw [Int32.lt_iff_toInt_lt, nI_toInt (by omega)] at h2
  have e : (0 : Int32).toInt = 0 := rfl
  rw [e] at h1
  omega
theorem vp_ofl {v : Int32} {l : Nat} (hb : 0 ≤ v ∧ v < nI l) (h : l < 2 ^ 31) : v.toNatClampNeg < l := vp_lt (vp_ofc hb rfl (Nat.le_refl l) h)
theorem vp_ofI {v : Int32} {l : Nat} (hb : 0 ≤ v ∧ v < nI l) (h : l < 2 ^ 31) : ∃ j : Nat, j < l ∧ v = nI j := vp_in_of (vp_ofc hb rfl (Nat.le_refl l) h) h
theorem inN_nI {j n : Nat} (h : j < n) (hn : n < 2 ^ 31) : inN (nI n) (nI j) := ⟨nI_pos' (by omega), nI_lt h hn⟩
theorem nI_ne9 {j : Nat} (h : j < 2 ^ 31) : ¬ nI j = -9 := fun e => by
  have := congrArg Int32.toInt e
  rw [nI_toInt h] at this
  have e2 : (-9 : Int32).toInt = -9 := rfl
  omega
theorem shS_t {F : Int32 → Int32} {k b : Int32} (h : F b < F k) : shS F k b = k := if_pos h
theorem shS_f {F : Int32 → Int32} {k b : Int32} (h : ¬ F b < F k) : shS F k b = b := if_neg h
theorem w_shift1 : ∀ far : Nat, far < 20 → ¬ nI (far + 1) < -nI (far + 1) := by decide +kernel
theorem w_shift2 : ∀ far : Nat, far < 20 → -nI (far + 1) + 2 * nI (far + 1) = nI (far + 1) := by decide +kernel
theorem w_shift3 : ∀ far : Nat, far < 20 → nI (far + 1) < nI (far + 1) + 2 * nI (far + 1) := by decide +kernel
theorem shS_le {F : Int32 → Int32} {k b : Int32} (h : F k ≤ F b) : shS F k b = b := shS_f (Int32.not_lt.mpr h)
theorem shS_gt {F : Int32 → Int32} {k b : Int32} (h : ¬ F k ≤ F b) : shS F k b = k := shS_t (Int32.not_le.mp h)
end
section
set_option maxHeartbeats 4000000 in
set_option maxRecDepth 100000 in
theorem ok_X5_has {w : wD} (hw : wOK w) (σ : wSt) (a b : Int32)  : MI w yX5_has cX5_has 2 (some .boolean) 0 0 [.int a, .int b] σ (fun r τ => σ = τ ∧ r = wb ((a >>> (b &&& 31)) &&& 1 = 1)) := by
  refine MI.of hw (by decide +kernel) (Nat.le_of_ble_eq_true rfl) (fun x C hr => ?_)
  suffices key : ∀ Q, Q = QI w x (fun r τ => σ = τ ∧ r = wb ((a >>> (b &&& 31)) &&& 1 = 1)) → G w x 2 Q 0 [(0, .int a), (1, .int b)] [] σ from key _ rfl
  intro Q hQ
  refine G.iload_n C 0 dX5_has_0 rfl rfl ?_
  refine G.iload_n C 1 dX5_has_1 rfl rfl ?_
  refine G.ishr C dX5_has_2 ?_
  refine G.iconst (v := 1) C dX5_has_3 (by decide) ?_
  refine G.iand C dX5_has_4 ?_
  refine G.iconst (v := 1) C dX5_has_5 (by decide) ?_
  refine G.icmp_ne (tgt := 13) C dX5_has_6 (by decide) (fun c_6 => ?_) (fun c_6 => ?_)
  · refine G.iconst (v := 0) C dX5_has_13 (by decide) ?_
    subst hQ
    exact G.zret C hr (by rfl) dX5_has_14 (by
        first | exact ⟨rfl, (wb_t (by simp_all [Int32.not_lt, Int32.not_le])).symm⟩ | exact ⟨rfl, (wb_f (by first | (simp_all [Int32.not_lt, Int32.not_le]; done) | (simp only [Int32.lt_iff_toInt_lt, Int32.le_iff_toInt_le, Int32.not_lt, Int32.not_le, ← Int32.toInt_inj, Int32.reduceToInt] at *; omega))).symm⟩)
  · refine G.iconst (v := 1) C dX5_has_9 (by decide) ?_
    refine G.goto (tgt := 14) C dX5_has_10 (by decide) ?_
    subst hQ
    exact G.zret C hr (by rfl) dX5_has_14 (by
        first | exact ⟨rfl, (wb_t (by simp_all [Int32.not_lt, Int32.not_le])).symm⟩ | exact ⟨rfl, (wb_f (by first | (simp_all [Int32.not_lt, Int32.not_le]; done) | (simp only [Int32.lt_iff_toInt_lt, Int32.le_iff_toInt_le, Int32.not_lt, Int32.not_le, ← Int32.toInt_inj, Int32.reduceToInt] at *; omega))).symm⟩)
set_option maxHeartbeats 4000000 in
set_option maxRecDepth 100000 in
theorem ok_X5_areLines {w : wD} (hw : wOK w) (σ : wSt) (a : Int32)  : MI w yX5_areLines cX5_areLines 1 (some .boolean) 0 0 [.int a] σ (fun r τ => σ = τ ∧ r = wb (0 ≤ a ∧ a ≤ 4095)) := by
  refine MI.of hw (by decide +kernel) (Nat.le_of_ble_eq_true rfl) (fun x C hr => ?_)
  suffices key : ∀ Q, Q = QI w x (fun r τ => σ = τ ∧ r = wb (0 ≤ a ∧ a ≤ 4095)) → G w x 1 Q 0 [(0, .int a)] [] σ from key _ rfl
  intro Q hQ
  refine G.iload_n C 0 dX5_areLines_0 rfl rfl ?_
  refine G.if_lt (tgt := 15) C dX5_areLines_1 (by decide) (fun c_1 => ?_) (fun c_1 => ?_)
  · refine G.iconst (v := 0) C dX5_areLines_15 (by decide) ?_
    subst hQ
    exact G.zret C hr (by rfl) dX5_areLines_16 (by
        first | exact ⟨rfl, (wb_t (by simp_all [Int32.not_lt, Int32.not_le])).symm⟩ | exact ⟨rfl, (wb_f (by first | (simp_all [Int32.not_lt, Int32.not_le]; done) | (simp only [Int32.lt_iff_toInt_lt, Int32.le_iff_toInt_le, Int32.not_lt, Int32.not_le, ← Int32.toInt_inj, Int32.reduceToInt] at *; omega))).symm⟩)
  · refine G.iload_n C 0 dX5_areLines_4 rfl rfl ?_
    refine G.sipush (v := 4095) C dX5_areLines_5 (by decide) ?_
    refine G.icmp_gt (tgt := 15) C dX5_areLines_8 (by decide) (fun c_8 => ?_) (fun c_8 => ?_)
    · refine G.iconst (v := 0) C dX5_areLines_15 (by decide) ?_
      subst hQ
      exact G.zret C hr (by rfl) dX5_areLines_16 (by
          first | exact ⟨rfl, (wb_t (by simp_all [Int32.not_lt, Int32.not_le])).symm⟩ | exact ⟨rfl, (wb_f (by first | (simp_all [Int32.not_lt, Int32.not_le]; done) | (simp only [Int32.lt_iff_toInt_lt, Int32.le_iff_toInt_le, Int32.not_lt, Int32.not_le, ← Int32.toInt_inj, Int32.reduceToInt] at *; omega))).symm⟩)
    · refine G.iconst (v := 1) C dX5_areLines_11 (by decide) ?_
      refine G.goto (tgt := 16) C dX5_areLines_12 (by decide) ?_
      subst hQ
      exact G.zret C hr (by rfl) dX5_areLines_16 (by
          first | exact ⟨rfl, (wb_t (by simp_all [Int32.not_lt, Int32.not_le])).symm⟩ | exact ⟨rfl, (wb_f (by first | (simp_all [Int32.not_lt, Int32.not_le]; done) | (simp only [Int32.lt_iff_toInt_lt, Int32.le_iff_toInt_le, Int32.not_lt, Int32.not_le, ← Int32.toInt_inj, Int32.reduceToInt] at *; omega))).symm⟩)
set_option maxHeartbeats 4000000 in
set_option maxRecDepth 100000 in
theorem ok_X5_isLine {w : wD} (hw : wOK w) (σ : wSt) (a : Int32)  : MI w yX5_isLine cX5_isLine 1 (some .boolean) 0 0 [.int a] σ (fun r τ => σ = τ ∧ r = wb (0 ≤ a ∧ a < 12)) := by
  refine MI.of hw (by decide +kernel) (Nat.le_of_ble_eq_true rfl) (fun x C hr => ?_)
  suffices key : ∀ Q, Q = QI w x (fun r τ => σ = τ ∧ r = wb (0 ≤ a ∧ a < 12)) → G w x 1 Q 0 [(0, .int a)] [] σ from key _ rfl
  intro Q hQ
  refine G.iload_n C 0 dX5_isLine_0 rfl rfl ?_
  refine G.if_lt (tgt := 14) C dX5_isLine_1 (by decide) (fun c_1 => ?_) (fun c_1 => ?_)
  · refine G.iconst (v := 0) C dX5_isLine_14 (by decide) ?_
    subst hQ
    exact G.zret C hr (by rfl) dX5_isLine_15 (by
        first | exact ⟨rfl, (wb_t (by simp_all [Int32.not_lt, Int32.not_le])).symm⟩ | exact ⟨rfl, (wb_f (by first | (simp_all [Int32.not_lt, Int32.not_le]; done) | (simp only [Int32.lt_iff_toInt_lt, Int32.le_iff_toInt_le, Int32.not_lt, Int32.not_le, ← Int32.toInt_inj, Int32.reduceToInt] at *; omega))).symm⟩)
  · refine G.iload_n C 0 dX5_isLine_4 rfl rfl ?_
    refine G.bipush (v := 12) C dX5_isLine_5 (by decide) ?_
    refine G.icmp_ge (tgt := 14) C dX5_isLine_7 (by decide) (fun c_7 => ?_) (fun c_7 => ?_)
    · refine G.iconst (v := 0) C dX5_isLine_14 (by decide) ?_
      subst hQ
      exact G.zret C hr (by rfl) dX5_isLine_15 (by
          first | exact ⟨rfl, (wb_t (by simp_all [Int32.not_lt, Int32.not_le])).symm⟩ | exact ⟨rfl, (wb_f (by first | (simp_all [Int32.not_lt, Int32.not_le]; done) | (simp only [Int32.lt_iff_toInt_lt, Int32.le_iff_toInt_le, Int32.not_lt, Int32.not_le, ← Int32.toInt_inj, Int32.reduceToInt] at *; omega))).symm⟩)
    · refine G.iconst (v := 1) C dX5_isLine_10 (by decide) ?_
      refine G.goto (tgt := 15) C dX5_isLine_11 (by decide) ?_
      subst hQ
      exact G.zret C hr (by rfl) dX5_isLine_15 (by
          first | exact ⟨rfl, (wb_t (by simp_all [Int32.not_lt, Int32.not_le])).symm⟩ | exact ⟨rfl, (wb_f (by first | (simp_all [Int32.not_lt, Int32.not_le]; done) | (simp only [Int32.lt_iff_toInt_lt, Int32.le_iff_toInt_le, Int32.not_lt, Int32.not_le, ← Int32.toInt_inj, Int32.reduceToInt] at *; omega))).symm⟩)
set_option maxHeartbeats 4000000 in
set_option maxRecDepth 100000 in
theorem ok_X5_isYear {w : wD} (hw : wOK w) (σ : wSt) (a : Int32)  : MI w yX5_isYear cX5_isYear 1 (some .boolean) 0 0 [.int a] σ (fun r τ => σ = τ ∧ r = wb (1500 ≤ a ∧ a ≤ 1900)) := by
  refine MI.of hw (by decide +kernel) (Nat.le_of_ble_eq_true rfl) (fun x C hr => ?_)
  suffices key : ∀ Q, Q = QI w x (fun r τ => σ = τ ∧ r = wb (1500 ≤ a ∧ a ≤ 1900)) → G w x 1 Q 0 [(0, .int a)] [] σ from key _ rfl
  intro Q hQ
  refine G.iload_n C 0 dX5_isYear_0 rfl rfl ?_
  refine G.sipush (v := 1500) C dX5_isYear_1 (by decide) ?_
  refine G.icmp_lt (tgt := 18) C dX5_isYear_4 (by decide) (fun c_4 => ?_) (fun c_4 => ?_)
  · refine G.iconst (v := 0) C dX5_isYear_18 (by decide) ?_
    subst hQ
    exact G.zret C hr (by rfl) dX5_isYear_19 (by
        first | exact ⟨rfl, (wb_t (by simp_all [Int32.not_lt, Int32.not_le])).symm⟩ | exact ⟨rfl, (wb_f (by first | (simp_all [Int32.not_lt, Int32.not_le]; done) | (simp only [Int32.lt_iff_toInt_lt, Int32.le_iff_toInt_le, Int32.not_lt, Int32.not_le, ← Int32.toInt_inj, Int32.reduceToInt] at *; omega))).symm⟩)
  · refine G.iload_n C 0 dX5_isYear_7 rfl rfl ?_
    refine G.sipush (v := 1900) C dX5_isYear_8 (by decide) ?_
    refine G.icmp_gt (tgt := 18) C dX5_isYear_11 (by decide) (fun c_11 => ?_) (fun c_11 => ?_)
    · refine G.iconst (v := 0) C dX5_isYear_18 (by decide) ?_
      subst hQ
      exact G.zret C hr (by rfl) dX5_isYear_19 (by
          first | exact ⟨rfl, (wb_t (by simp_all [Int32.not_lt, Int32.not_le])).symm⟩ | exact ⟨rfl, (wb_f (by first | (simp_all [Int32.not_lt, Int32.not_le]; done) | (simp only [Int32.lt_iff_toInt_lt, Int32.le_iff_toInt_le, Int32.not_lt, Int32.not_le, ← Int32.toInt_inj, Int32.reduceToInt] at *; omega))).symm⟩)
    · refine G.iconst (v := 1) C dX5_isYear_14 (by decide) ?_
      refine G.goto (tgt := 19) C dX5_isYear_15 (by decide) ?_
      subst hQ
      exact G.zret C hr (by rfl) dX5_isYear_19 (by
          first | exact ⟨rfl, (wb_t (by simp_all [Int32.not_lt, Int32.not_le])).symm⟩ | exact ⟨rfl, (wb_f (by first | (simp_all [Int32.not_lt, Int32.not_le]; done) | (simp only [Int32.lt_iff_toInt_lt, Int32.le_iff_toInt_le, Int32.not_lt, Int32.not_le, ← Int32.toInt_inj, Int32.reduceToInt] at *; omega))).symm⟩)
set_option maxHeartbeats 4000000 in
set_option maxRecDepth 100000 in
theorem ok_X5_isFirstOrSecond {w : wD} (hw : wOK w) (σ : wSt) (a : Int32)  : MI w yX5_isFirstOrSecond cX5_isFirstOrSecond 1 (some .boolean) 0 0 [.int a] σ (fun r τ => σ = τ ∧ r = wb (a = 0 ∨ a = 1)) := by
  refine MI.of hw (by decide +kernel) (Nat.le_of_ble_eq_true rfl) (fun x C hr => ?_)
  suffices key : ∀ Q, Q = QI w x (fun r τ => σ = τ ∧ r = wb (a = 0 ∨ a = 1)) → G w x 1 Q 0 [(0, .int a)] [] σ from key _ rfl
  intro Q hQ
  refine G.iload_n C 0 dX5_isFirstOrSecond_0 rfl rfl ?_
  refine G.if_eq (tgt := 9) C dX5_isFirstOrSecond_1 (by decide) (fun c_1 => ?_) (fun c_1 => ?_)
  · refine G.iconst (v := 1) C dX5_isFirstOrSecond_9 (by decide) ?_
    refine G.goto (tgt := 14) C dX5_isFirstOrSecond_10 (by decide) ?_
    subst hQ
    exact G.zret C hr (by rfl) dX5_isFirstOrSecond_14 (by
        first | exact ⟨rfl, (wb_t (by simp_all [Int32.not_lt, Int32.not_le])).symm⟩ | exact ⟨rfl, (wb_f (by first | (simp_all [Int32.not_lt, Int32.not_le]; done) | (simp only [Int32.lt_iff_toInt_lt, Int32.le_iff_toInt_le, Int32.not_lt, Int32.not_le, ← Int32.toInt_inj, Int32.reduceToInt] at *; omega))).symm⟩)
  · refine G.iload_n C 0 dX5_isFirstOrSecond_4 rfl rfl ?_
    refine G.iconst (v := 1) C dX5_isFirstOrSecond_5 (by decide) ?_
    refine G.icmp_ne (tgt := 13) C dX5_isFirstOrSecond_6 (by decide) (fun c_6 => ?_) (fun c_6 => ?_)
    · refine G.iconst (v := 0) C dX5_isFirstOrSecond_13 (by decide) ?_
      subst hQ
      exact G.zret C hr (by rfl) dX5_isFirstOrSecond_14 (by
          first | exact ⟨rfl, (wb_t (by simp_all [Int32.not_lt, Int32.not_le])).symm⟩ | exact ⟨rfl, (wb_f (by first | (simp_all [Int32.not_lt, Int32.not_le]; done) | (simp only [Int32.lt_iff_toInt_lt, Int32.le_iff_toInt_le, Int32.not_lt, Int32.not_le, ← Int32.toInt_inj, Int32.reduceToInt] at *; omega))).symm⟩)
    · refine G.iconst (v := 1) C dX5_isFirstOrSecond_9 (by decide) ?_
      refine G.goto (tgt := 14) C dX5_isFirstOrSecond_10 (by decide) ?_
      subst hQ
      exact G.zret C hr (by rfl) dX5_isFirstOrSecond_14 (by
          first | exact ⟨rfl, (wb_t (by simp_all [Int32.not_lt, Int32.not_le])).symm⟩ | exact ⟨rfl, (wb_f (by first | (simp_all [Int32.not_lt, Int32.not_le]; done) | (simp only [Int32.lt_iff_toInt_lt, Int32.le_iff_toInt_le, Int32.not_lt, Int32.not_le, ← Int32.toInt_inj, Int32.reduceToInt] at *; omega))).symm⟩)
set_option maxHeartbeats 4000000 in
set_option maxRecDepth 100000 in
theorem ok_X5_isBook {w : wD} (hw : wOK w) (σ : wSt) (a : Int32)  : MI w yX5_isBook cX5_isBook 1 (some .boolean) 0 0 [.int a] σ (fun r τ => σ = τ ∧ r = wb (0 ≤ a ∧ a < 4)) := by
  refine MI.of hw (by decide +kernel) (Nat.le_of_ble_eq_true rfl) (fun x C hr => ?_)
  suffices key : ∀ Q, Q = QI w x (fun r τ => σ = τ ∧ r = wb (0 ≤ a ∧ a < 4)) → G w x 1 Q 0 [(0, .int a)] [] σ from key _ rfl
  intro Q hQ
  refine G.iload_n C 0 dX5_isBook_0 rfl rfl ?_
  refine G.if_lt (tgt := 13) C dX5_isBook_1 (by decide) (fun c_1 => ?_) (fun c_1 => ?_)
  · refine G.iconst (v := 0) C dX5_isBook_13 (by decide) ?_
    subst hQ
    exact G.zret C hr (by rfl) dX5_isBook_14 (by
        first | exact ⟨rfl, (wb_t (by simp_all [Int32.not_lt, Int32.not_le])).symm⟩ | exact ⟨rfl, (wb_f (by first | (simp_all [Int32.not_lt, Int32.not_le]; done) | (simp only [Int32.lt_iff_toInt_lt, Int32.le_iff_toInt_le, Int32.not_lt, Int32.not_le, ← Int32.toInt_inj, Int32.reduceToInt] at *; omega))).symm⟩)
  · refine G.iload_n C 0 dX5_isBook_4 rfl rfl ?_
    refine G.iconst (v := 4) C dX5_isBook_5 (by decide) ?_
    refine G.icmp_ge (tgt := 13) C dX5_isBook_6 (by decide) (fun c_6 => ?_) (fun c_6 => ?_)
    · refine G.iconst (v := 0) C dX5_isBook_13 (by decide) ?_
      subst hQ
      exact G.zret C hr (by rfl) dX5_isBook_14 (by
          first | exact ⟨rfl, (wb_t (by simp_all [Int32.not_lt, Int32.not_le])).symm⟩ | exact ⟨rfl, (wb_f (by first | (simp_all [Int32.not_lt, Int32.not_le]; done) | (simp only [Int32.lt_iff_toInt_lt, Int32.le_iff_toInt_le, Int32.not_lt, Int32.not_le, ← Int32.toInt_inj, Int32.reduceToInt] at *; omega))).symm⟩)
    · refine G.iconst (v := 1) C dX5_isBook_9 (by decide) ?_
      refine G.goto (tgt := 14) C dX5_isBook_10 (by decide) ?_
      subst hQ
      exact G.zret C hr (by rfl) dX5_isBook_14 (by
          first | exact ⟨rfl, (wb_t (by simp_all [Int32.not_lt, Int32.not_le])).symm⟩ | exact ⟨rfl, (wb_f (by first | (simp_all [Int32.not_lt, Int32.not_le]; done) | (simp only [Int32.lt_iff_toInt_lt, Int32.le_iff_toInt_le, Int32.not_lt, Int32.not_le, ← Int32.toInt_inj, Int32.reduceToInt] at *; omega))).symm⟩)
set_option maxHeartbeats 4000000 in
set_option maxRecDepth 100000 in
theorem ok_X5_isLeaf {w : wD} (hw : wOK w) (σ : wSt) (a : Int32)  : MI w yX5_isLeaf cX5_isLeaf 2 (some .boolean) 0 0 [.ref (w.2.2.2.1 0 0), .int a] σ (fun r τ => σ = τ ∧ r = wb (0 ≤ a ∧ a < σ.1 0 0 3)) := by
  refine MI.of hw (by decide +kernel) (Nat.le_of_ble_eq_true rfl) (fun x C hr => ?_)
  suffices key : ∀ Q, Q = QI w x (fun r τ => σ = τ ∧ r = wb (0 ≤ a ∧ a < σ.1 0 0 3)) → G w x 2 Q 0 [(0, .ref (w.2.2.2.1 0 0)), (1, .int a)] [] σ from key _ rfl
  intro Q hQ
  refine G.iload_n C 1 dX5_isLeaf_0 rfl rfl ?_
  refine G.if_lt (tgt := 16) C dX5_isLeaf_1 (by decide) (fun c_1 => ?_) (fun c_1 => ?_)
  · refine G.iconst (v := 0) C dX5_isLeaf_16 (by decide) ?_
    subst hQ
    exact G.zret C hr (by rfl) dX5_isLeaf_17 (by
        first | exact ⟨rfl, (wb_t (by simp_all [Int32.not_lt, Int32.not_le])).symm⟩ | exact ⟨rfl, (wb_f (by first | (simp_all [Int32.not_lt, Int32.not_le]; done) | (simp only [Int32.lt_iff_toInt_lt, Int32.le_iff_toInt_le, Int32.not_lt, Int32.not_le, ← Int32.toInt_inj, Int32.reduceToInt] at *; omega))).symm⟩)
  · refine G.iload_n C 1 dX5_isLeaf_4 rfl rfl ?_
    refine G.aload_n C 0 dX5_isLeaf_5 rfl rfl ?_
    refine G.get (g := 0) (i := 0) C 3 none dX5_isLeaf_6 (by decide) rfl rfl uX_X5 (by decide) uf_RX5_29 rfl rfl ?_
    refine G.icmp_ge (tgt := 16) C dX5_isLeaf_9 (by decide) (fun c_9 => ?_) (fun c_9 => ?_)
    · refine G.iconst (v := 0) C dX5_isLeaf_16 (by decide) ?_
      subst hQ
      exact G.zret C hr (by rfl) dX5_isLeaf_17 (by
          first | exact ⟨rfl, (wb_t (by simp_all [Int32.not_lt, Int32.not_le])).symm⟩ | exact ⟨rfl, (wb_f (by first | (simp_all [Int32.not_lt, Int32.not_le]; done) | (simp only [Int32.lt_iff_toInt_lt, Int32.le_iff_toInt_le, Int32.not_lt, Int32.not_le, ← Int32.toInt_inj, Int32.reduceToInt] at *; omega))).symm⟩)
    · refine G.iconst (v := 1) C dX5_isLeaf_12 (by decide) ?_
      refine G.goto (tgt := 17) C dX5_isLeaf_13 (by decide) ?_
      subst hQ
      exact G.zret C hr (by rfl) dX5_isLeaf_17 (by
          first | exact ⟨rfl, (wb_t (by simp_all [Int32.not_lt, Int32.not_le])).symm⟩ | exact ⟨rfl, (wb_f (by first | (simp_all [Int32.not_lt, Int32.not_le]; done) | (simp only [Int32.lt_iff_toInt_lt, Int32.le_iff_toInt_le, Int32.not_lt, Int32.not_le, ← Int32.toInt_inj, Int32.reduceToInt] at *; omega))).symm⟩)
set_option maxHeartbeats 4000000 in
set_option maxRecDepth 100000 in
theorem ok_X5_isMould {w : wD} (hw : wOK w) (σ : wSt) (a : Int32)  : MI w yX5_isMould cX5_isMould 2 (some .boolean) 0 0 [.ref (w.2.2.2.1 0 0), .int a] σ (fun r τ => σ = τ ∧ r = wb (0 ≤ a ∧ a < σ.1 0 0 5)) := by
  refine MI.of hw (by decide +kernel) (Nat.le_of_ble_eq_true rfl) (fun x C hr => ?_)
  suffices key : ∀ Q, Q = QI w x (fun r τ => σ = τ ∧ r = wb (0 ≤ a ∧ a < σ.1 0 0 5)) → G w x 2 Q 0 [(0, .ref (w.2.2.2.1 0 0)), (1, .int a)] [] σ from key _ rfl
  intro Q hQ
  refine G.iload_n C 1 dX5_isMould_0 rfl rfl ?_
  refine G.if_lt (tgt := 16) C dX5_isMould_1 (by decide) (fun c_1 => ?_) (fun c_1 => ?_)
  · refine G.iconst (v := 0) C dX5_isMould_16 (by decide) ?_
    subst hQ
    exact G.zret C hr (by rfl) dX5_isMould_17 (by
        first | exact ⟨rfl, (wb_t (by simp_all [Int32.not_lt, Int32.not_le])).symm⟩ | exact ⟨rfl, (wb_f (by first | (simp_all [Int32.not_lt, Int32.not_le]; done) | (simp only [Int32.lt_iff_toInt_lt, Int32.le_iff_toInt_le, Int32.not_lt, Int32.not_le, ← Int32.toInt_inj, Int32.reduceToInt] at *; omega))).symm⟩)
  · refine G.iload_n C 1 dX5_isMould_4 rfl rfl ?_
    refine G.aload_n C 0 dX5_isMould_5 rfl rfl ?_
    refine G.get (g := 0) (i := 0) C 5 none dX5_isMould_6 (by decide) rfl rfl uX_X5 (by decide) uf_RX5_39 rfl rfl ?_
    refine G.icmp_ge (tgt := 16) C dX5_isMould_9 (by decide) (fun c_9 => ?_) (fun c_9 => ?_)
    · refine G.iconst (v := 0) C dX5_isMould_16 (by decide) ?_
      subst hQ
      exact G.zret C hr (by rfl) dX5_isMould_17 (by
          first | exact ⟨rfl, (wb_t (by simp_all [Int32.not_lt, Int32.not_le])).symm⟩ | exact ⟨rfl, (wb_f (by first | (simp_all [Int32.not_lt, Int32.not_le]; done) | (simp only [Int32.lt_iff_toInt_lt, Int32.le_iff_toInt_le, Int32.not_lt, Int32.not_le, ← Int32.toInt_inj, Int32.reduceToInt] at *; omega))).symm⟩)
    · refine G.iconst (v := 1) C dX5_isMould_12 (by decide) ?_
      refine G.goto (tgt := 17) C dX5_isMould_13 (by decide) ?_
      subst hQ
      exact G.zret C hr (by rfl) dX5_isMould_17 (by
          first | exact ⟨rfl, (wb_t (by simp_all [Int32.not_lt, Int32.not_le])).symm⟩ | exact ⟨rfl, (wb_f (by first | (simp_all [Int32.not_lt, Int32.not_le]; done) | (simp only [Int32.lt_iff_toInt_lt, Int32.le_iff_toInt_le, Int32.not_lt, Int32.not_le, ← Int32.toInt_inj, Int32.reduceToInt] at *; omega))).symm⟩)
set_option maxHeartbeats 4000000 in
set_option maxRecDepth 100000 in
theorem ok_X3_hasState {w : wD} (hw : wOK w) (σ : wSt) (a : Int32)  : MI w yX3_hasState cX3_hasState 2 (some .boolean) 0 0 [.ref (w.2.2.2.1 1 0), .int a] σ (fun r τ => σ = τ ∧ r = wb (0 ≤ a ∧ a < σ.1 1 0 5)) := by
  refine MI.of hw (by decide +kernel) (Nat.le_of_ble_eq_true rfl) (fun x C hr => ?_)
  suffices key : ∀ Q, Q = QI w x (fun r τ => σ = τ ∧ r = wb (0 ≤ a ∧ a < σ.1 1 0 5)) → G w x 2 Q 0 [(0, .ref (w.2.2.2.1 1 0)), (1, .int a)] [] σ from key _ rfl
  intro Q hQ
  refine G.iload_n C 1 dX3_hasState_0 rfl rfl ?_
  refine G.if_lt (tgt := 16) C dX3_hasState_1 (by decide) (fun c_1 => ?_) (fun c_1 => ?_)
  · refine G.iconst (v := 0) C dX3_hasState_16 (by decide) ?_
    subst hQ
    exact G.zret C hr (by rfl) dX3_hasState_17 (by
        first | exact ⟨rfl, (wb_t (by simp_all [Int32.not_lt, Int32.not_le])).symm⟩ | exact ⟨rfl, (wb_f (by first | (simp_all [Int32.not_lt, Int32.not_le]; done) | (simp only [Int32.lt_iff_toInt_lt, Int32.le_iff_toInt_le, Int32.not_lt, Int32.not_le, ← Int32.toInt_inj, Int32.reduceToInt] at *; omega))).symm⟩)
  · refine G.iload_n C 1 dX3_hasState_4 rfl rfl ?_
    refine G.aload_n C 0 dX3_hasState_5 rfl rfl ?_
    refine G.get (g := 1) (i := 0) C 5 none dX3_hasState_6 (by decide) rfl rfl uX_X3 (by decide) uf_RX3_31 rfl rfl ?_
    refine G.icmp_ge (tgt := 16) C dX3_hasState_9 (by decide) (fun c_9 => ?_) (fun c_9 => ?_)
    · refine G.iconst (v := 0) C dX3_hasState_16 (by decide) ?_
      subst hQ
      exact G.zret C hr (by rfl) dX3_hasState_17 (by
          first | exact ⟨rfl, (wb_t (by simp_all [Int32.not_lt, Int32.not_le])).symm⟩ | exact ⟨rfl, (wb_f (by first | (simp_all [Int32.not_lt, Int32.not_le]; done) | (simp only [Int32.lt_iff_toInt_lt, Int32.le_iff_toInt_le, Int32.not_lt, Int32.not_le, ← Int32.toInt_inj, Int32.reduceToInt] at *; omega))).symm⟩)
    · refine G.iconst (v := 1) C dX3_hasState_12 (by decide) ?_
      refine G.goto (tgt := 17) C dX3_hasState_13 (by decide) ?_
      subst hQ
      exact G.zret C hr (by rfl) dX3_hasState_17 (by
          first | exact ⟨rfl, (wb_t (by simp_all [Int32.not_lt, Int32.not_le])).symm⟩ | exact ⟨rfl, (wb_f (by first | (simp_all [Int32.not_lt, Int32.not_le]; done) | (simp only [Int32.lt_iff_toInt_lt, Int32.le_iff_toInt_le, Int32.not_lt, Int32.not_le, ← Int32.toInt_inj, Int32.reduceToInt] at *; omega))).symm⟩)
set_option maxHeartbeats 4000000 in
set_option maxRecDepth 100000 in
theorem ok_X0_hasMap {w : wD} (hw : wOK w) (σ : wSt) (a : Int32)  : MI w yX0_hasMap cX0_hasMap 2 (some .boolean) 0 0 [.ref (w.2.2.2.1 2 0), .int a] σ (fun r τ => σ = τ ∧ r = wb (0 ≤ a ∧ a < σ.1 2 0 4)) := by
  refine MI.of hw (by decide +kernel) (Nat.le_of_ble_eq_true rfl) (fun x C hr => ?_)
  suffices key : ∀ Q, Q = QI w x (fun r τ => σ = τ ∧ r = wb (0 ≤ a ∧ a < σ.1 2 0 4)) → G w x 2 Q 0 [(0, .ref (w.2.2.2.1 2 0)), (1, .int a)] [] σ from key _ rfl
  intro Q hQ
  refine G.iload_n C 1 dX0_hasMap_0 rfl rfl ?_
  refine G.if_lt (tgt := 16) C dX0_hasMap_1 (by decide) (fun c_1 => ?_) (fun c_1 => ?_)
  · refine G.iconst (v := 0) C dX0_hasMap_16 (by decide) ?_
    subst hQ
    exact G.zret C hr (by rfl) dX0_hasMap_17 (by
        first | exact ⟨rfl, (wb_t (by simp_all [Int32.not_lt, Int32.not_le])).symm⟩ | exact ⟨rfl, (wb_f (by first | (simp_all [Int32.not_lt, Int32.not_le]; done) | (simp only [Int32.lt_iff_toInt_lt, Int32.le_iff_toInt_le, Int32.not_lt, Int32.not_le, ← Int32.toInt_inj, Int32.reduceToInt] at *; omega))).symm⟩)
  · refine G.iload_n C 1 dX0_hasMap_4 rfl rfl ?_
    refine G.aload_n C 0 dX0_hasMap_5 rfl rfl ?_
    refine G.get (g := 2) (i := 0) C 4 none dX0_hasMap_6 (by decide) rfl rfl uX_X0 (by decide) uf_RX0_25 rfl rfl ?_
    refine G.icmp_ge (tgt := 16) C dX0_hasMap_9 (by decide) (fun c_9 => ?_) (fun c_9 => ?_)
    · refine G.iconst (v := 0) C dX0_hasMap_16 (by decide) ?_
      subst hQ
      exact G.zret C hr (by rfl) dX0_hasMap_17 (by
          first | exact ⟨rfl, (wb_t (by simp_all [Int32.not_lt, Int32.not_le])).symm⟩ | exact ⟨rfl, (wb_f (by first | (simp_all [Int32.not_lt, Int32.not_le]; done) | (simp only [Int32.lt_iff_toInt_lt, Int32.le_iff_toInt_le, Int32.not_lt, Int32.not_le, ← Int32.toInt_inj, Int32.reduceToInt] at *; omega))).symm⟩)
    · refine G.iconst (v := 1) C dX0_hasMap_12 (by decide) ?_
      refine G.goto (tgt := 17) C dX0_hasMap_13 (by decide) ?_
      subst hQ
      exact G.zret C hr (by rfl) dX0_hasMap_17 (by
          first | exact ⟨rfl, (wb_t (by simp_all [Int32.not_lt, Int32.not_le])).symm⟩ | exact ⟨rfl, (wb_f (by first | (simp_all [Int32.not_lt, Int32.not_le]; done) | (simp only [Int32.lt_iff_toInt_lt, Int32.le_iff_toInt_le, Int32.not_lt, Int32.not_le, ← Int32.toInt_inj, Int32.reduceToInt] at *; omega))).symm⟩)
set_option maxHeartbeats 4000000 in
set_option maxRecDepth 100000 in
theorem ok_X1_isPlace {w : wD} (hw : wOK w) (σ : wSt) (a : Int32)  : MI w yX1_isPlace cX1_isPlace 1 (some .boolean) 0 0 [.int a] σ (fun r τ => σ = τ ∧ r = wb (0 ≤ a ∧ a < 100)) := by
  refine MI.of hw (by decide +kernel) (Nat.le_of_ble_eq_true rfl) (fun x C hr => ?_)
  suffices key : ∀ Q, Q = QI w x (fun r τ => σ = τ ∧ r = wb (0 ≤ a ∧ a < 100)) → G w x 1 Q 0 [(0, .int a)] [] σ from key _ rfl
  intro Q hQ
  refine G.iload_n C 0 dX1_isPlace_0 rfl rfl ?_
  refine G.if_lt (tgt := 14) C dX1_isPlace_1 (by decide) (fun c_1 => ?_) (fun c_1 => ?_)
  · refine G.iconst (v := 0) C dX1_isPlace_14 (by decide) ?_
    subst hQ
    exact G.zret C hr (by rfl) dX1_isPlace_15 (by
        first | exact ⟨rfl, (wb_t (by simp_all [Int32.not_lt, Int32.not_le])).symm⟩ | exact ⟨rfl, (wb_f (by first | (simp_all [Int32.not_lt, Int32.not_le]; done) | (simp only [Int32.lt_iff_toInt_lt, Int32.le_iff_toInt_le, Int32.not_lt, Int32.not_le, ← Int32.toInt_inj, Int32.reduceToInt] at *; omega))).symm⟩)
  · refine G.iload_n C 0 dX1_isPlace_4 rfl rfl ?_
    refine G.bipush (v := 100) C dX1_isPlace_5 (by decide) ?_
    refine G.icmp_ge (tgt := 14) C dX1_isPlace_7 (by decide) (fun c_7 => ?_) (fun c_7 => ?_)
    · refine G.iconst (v := 0) C dX1_isPlace_14 (by decide) ?_
      subst hQ
      exact G.zret C hr (by rfl) dX1_isPlace_15 (by
          first | exact ⟨rfl, (wb_t (by simp_all [Int32.not_lt, Int32.not_le])).symm⟩ | exact ⟨rfl, (wb_f (by first | (simp_all [Int32.not_lt, Int32.not_le]; done) | (simp only [Int32.lt_iff_toInt_lt, Int32.le_iff_toInt_le, Int32.not_lt, Int32.not_le, ← Int32.toInt_inj, Int32.reduceToInt] at *; omega))).symm⟩)
    · refine G.iconst (v := 1) C dX1_isPlace_10 (by decide) ?_
      refine G.goto (tgt := 15) C dX1_isPlace_11 (by decide) ?_
      subst hQ
      exact G.zret C hr (by rfl) dX1_isPlace_15 (by
          first | exact ⟨rfl, (wb_t (by simp_all [Int32.not_lt, Int32.not_le])).symm⟩ | exact ⟨rfl, (wb_f (by first | (simp_all [Int32.not_lt, Int32.not_le]; done) | (simp only [Int32.lt_iff_toInt_lt, Int32.le_iff_toInt_le, Int32.not_lt, Int32.not_le, ← Int32.toInt_inj, Int32.reduceToInt] at *; omega))).symm⟩)
set_option maxHeartbeats 4000000 in
set_option maxRecDepth 100000 in
theorem ok_X1_isShift {w : wD} (hw : wOK w) (σ : wSt) (a : Int32)  : MI w yX1_isShift cX1_isShift 1 (some .boolean) 0 0 [.int a] σ (fun r τ => σ = τ ∧ r = wb (-20 ≤ a ∧ a ≤ 20)) := by
  refine MI.of hw (by decide +kernel) (Nat.le_of_ble_eq_true rfl) (fun x C hr => ?_)
  suffices key : ∀ Q, Q = QI w x (fun r τ => σ = τ ∧ r = wb (-20 ≤ a ∧ a ≤ 20)) → G w x 1 Q 0 [(0, .int a)] [] σ from key _ rfl
  intro Q hQ
  refine G.iload_n C 0 dX1_isShift_0 rfl rfl ?_
  refine G.bipush (v := -20) C dX1_isShift_1 (by decide) ?_
  refine G.icmp_lt (tgt := 16) C dX1_isShift_3 (by decide) (fun c_3 => ?_) (fun c_3 => ?_)
  · refine G.iconst (v := 0) C dX1_isShift_16 (by decide) ?_
    subst hQ
    exact G.zret C hr (by rfl) dX1_isShift_17 (by
        first | exact ⟨rfl, (wb_t (by simp_all [Int32.not_lt, Int32.not_le])).symm⟩ | exact ⟨rfl, (wb_f (by first | (simp_all [Int32.not_lt, Int32.not_le]; done) | (simp only [Int32.lt_iff_toInt_lt, Int32.le_iff_toInt_le, Int32.not_lt, Int32.not_le, ← Int32.toInt_inj, Int32.reduceToInt] at *; omega))).symm⟩)
  · refine G.iload_n C 0 dX1_isShift_6 rfl rfl ?_
    refine G.bipush (v := 20) C dX1_isShift_7 (by decide) ?_
    refine G.icmp_gt (tgt := 16) C dX1_isShift_9 (by decide) (fun c_9 => ?_) (fun c_9 => ?_)
    · refine G.iconst (v := 0) C dX1_isShift_16 (by decide) ?_
      subst hQ
      exact G.zret C hr (by rfl) dX1_isShift_17 (by
          first | exact ⟨rfl, (wb_t (by simp_all [Int32.not_lt, Int32.not_le])).symm⟩ | exact ⟨rfl, (wb_f (by first | (simp_all [Int32.not_lt, Int32.not_le]; done) | (simp only [Int32.lt_iff_toInt_lt, Int32.le_iff_toInt_le, Int32.not_lt, Int32.not_le, ← Int32.toInt_inj, Int32.reduceToInt] at *; omega))).symm⟩)
    · refine G.iconst (v := 1) C dX1_isShift_12 (by decide) ?_
      refine G.goto (tgt := 17) C dX1_isShift_13 (by decide) ?_
      subst hQ
      exact G.zret C hr (by rfl) dX1_isShift_17 (by
          first | exact ⟨rfl, (wb_t (by simp_all [Int32.not_lt, Int32.not_le])).symm⟩ | exact ⟨rfl, (wb_f (by first | (simp_all [Int32.not_lt, Int32.not_le]; done) | (simp only [Int32.lt_iff_toInt_lt, Int32.le_iff_toInt_le, Int32.not_lt, Int32.not_le, ← Int32.toInt_inj, Int32.reduceToInt] at *; omega))).symm⟩)
set_option maxHeartbeats 4000000 in
set_option maxRecDepth 100000 in
theorem ok_X6_in {w : wD} (hw : wOK w) (σ : wSt) (a b c : Int32)  : MI w yX6_in cX6_in 3 (some .boolean) 0 0 [.int a, .int b, .int c] σ (fun r τ => σ = τ ∧ r = wb (b ≤ a ∧ a ≤ c)) := by
  refine MI.of hw (by decide +kernel) (Nat.le_of_ble_eq_true rfl) (fun x C hr => ?_)
  suffices key : ∀ Q, Q = QI w x (fun r τ => σ = τ ∧ r = wb (b ≤ a ∧ a ≤ c)) → G w x 3 Q 0 [(0, .int a), (1, .int b), (2, .int c)] [] σ from key _ rfl
  intro Q hQ
  refine G.iload_n C 0 dX6_in_0 rfl rfl ?_
  refine G.iload_n C 1 dX6_in_1 rfl rfl ?_
  refine G.icmp_lt (tgt := 14) C dX6_in_2 (by decide) (fun c_2 => ?_) (fun c_2 => ?_)
  · refine G.iconst (v := 0) C dX6_in_14 (by decide) ?_
    subst hQ
    exact G.zret C hr (by rfl) dX6_in_15 (by
        first | exact ⟨rfl, (wb_t (by simp_all [Int32.not_lt, Int32.not_le])).symm⟩ | exact ⟨rfl, (wb_f (by first | (simp_all [Int32.not_lt, Int32.not_le]; done) | (simp only [Int32.lt_iff_toInt_lt, Int32.le_iff_toInt_le, Int32.not_lt, Int32.not_le, ← Int32.toInt_inj, Int32.reduceToInt] at *; omega))).symm⟩)
  · refine G.iload_n C 0 dX6_in_5 rfl rfl ?_
    refine G.iload_n C 2 dX6_in_6 rfl rfl ?_
    refine G.icmp_gt (tgt := 14) C dX6_in_7 (by decide) (fun c_7 => ?_) (fun c_7 => ?_)
    · refine G.iconst (v := 0) C dX6_in_14 (by decide) ?_
      subst hQ
      exact G.zret C hr (by rfl) dX6_in_15 (by
          first | exact ⟨rfl, (wb_t (by simp_all [Int32.not_lt, Int32.not_le])).symm⟩ | exact ⟨rfl, (wb_f (by first | (simp_all [Int32.not_lt, Int32.not_le]; done) | (simp only [Int32.lt_iff_toInt_lt, Int32.le_iff_toInt_le, Int32.not_lt, Int32.not_le, ← Int32.toInt_inj, Int32.reduceToInt] at *; omega))).symm⟩)
    · refine G.iconst (v := 1) C dX6_in_10 (by decide) ?_
      refine G.goto (tgt := 15) C dX6_in_11 (by decide) ?_
      subst hQ
      exact G.zret C hr (by rfl) dX6_in_15 (by
          first | exact ⟨rfl, (wb_t (by simp_all [Int32.not_lt, Int32.not_le])).symm⟩ | exact ⟨rfl, (wb_f (by first | (simp_all [Int32.not_lt, Int32.not_le]; done) | (simp only [Int32.lt_iff_toInt_lt, Int32.le_iff_toInt_le, Int32.not_lt, Int32.not_le, ← Int32.toInt_inj, Int32.reduceToInt] at *; omega))).symm⟩)
set_option maxHeartbeats 4000000 in
set_option maxRecDepth 100000 in
theorem ok_J6_bitCount_0f7a4 {w : wD} (hw : wOK w) (σ : wSt) (a : Int32) (hr0 : rng12 a) : MI w yJ6_bitCount_0f7a4 cJ6_bitCount_0f7a4 1 (some .int) 0 0 [.int a] σ (fun r τ => σ = τ ∧ r = pop a) := by
  refine MI.of hw (by decide +kernel) (Nat.le_of_ble_eq_true rfl) (fun x C hr => ?_)
  suffices key : ∀ Q, Q = QI w x (fun r τ => σ = τ ∧ r = pop a) → G w x 1 Q 0 [(0, .int a)] [] σ from key _ rfl
  intro Q hQ
  refine G.iload_n C 0 dJ6_bitCount_0f7a4_0 rfl rfl ?_
  refine G.iload_n C 0 dJ6_bitCount_0f7a4_1 rfl rfl ?_
  refine G.iconst (v := 1) C dJ6_bitCount_0f7a4_2 (by decide) ?_
  refine G.iushr C dJ6_bitCount_0f7a4_3 rfl ?_
  refine G.ldc_w C uk_RJ6_265 dJ6_bitCount_0f7a4_4 ?_
  refine G.iand C dJ6_bitCount_0f7a4_7 ?_
  refine G.isub C dJ6_bitCount_0f7a4_8 ?_
  refine G.topi (fun x0_9 ex0_9 => ?_)
  refine G.istore_n (L1 := [(0, .int x0_9)]) C dJ6_bitCount_0f7a4_9 rfl (by decide) rfl ?_
  refine G.iload_n C 0 dJ6_bitCount_0f7a4_10 rfl rfl ?_
  refine G.ldc_w C uk_RJ6_266 dJ6_bitCount_0f7a4_11 ?_
  refine G.iand C dJ6_bitCount_0f7a4_14 ?_
  refine G.iload_n C 0 dJ6_bitCount_0f7a4_15 rfl rfl ?_
  refine G.iconst (v := 2) C dJ6_bitCount_0f7a4_16 (by decide) ?_
  refine G.iushr C dJ6_bitCount_0f7a4_17 rfl ?_
  refine G.ldc_w C uk_RJ6_266 dJ6_bitCount_0f7a4_18 ?_
  refine G.iand C dJ6_bitCount_0f7a4_21 ?_
  refine G.iadd C dJ6_bitCount_0f7a4_22 ?_
  refine G.topi (fun x0_23 ex0_23 => ?_)
  refine G.istore_n (L1 := [(0, .int x0_23)]) C dJ6_bitCount_0f7a4_23 rfl (by decide) rfl ?_
  refine G.iload_n C 0 dJ6_bitCount_0f7a4_24 rfl rfl ?_
  refine G.iload_n C 0 dJ6_bitCount_0f7a4_25 rfl rfl ?_
  refine G.iconst (v := 4) C dJ6_bitCount_0f7a4_26 (by decide) ?_
  refine G.iushr C dJ6_bitCount_0f7a4_27 rfl ?_
  refine G.iadd C dJ6_bitCount_0f7a4_28 ?_
  refine G.ldc_w C uk_RJ6_267 dJ6_bitCount_0f7a4_29 ?_
  refine G.iand C dJ6_bitCount_0f7a4_32 ?_
  refine G.topi (fun x0_33 ex0_33 => ?_)
  refine G.istore_n (L1 := [(0, .int x0_33)]) C dJ6_bitCount_0f7a4_33 rfl (by decide) rfl ?_
  refine G.iload_n C 0 dJ6_bitCount_0f7a4_34 rfl rfl ?_
  refine G.iload_n C 0 dJ6_bitCount_0f7a4_35 rfl rfl ?_
  refine G.bipush (v := 8) C dJ6_bitCount_0f7a4_36 (by decide) ?_
  refine G.iushr C dJ6_bitCount_0f7a4_38 rfl ?_
  refine G.iadd C dJ6_bitCount_0f7a4_39 ?_
  refine G.topi (fun x0_40 ex0_40 => ?_)
  refine G.istore_n (L1 := [(0, .int x0_40)]) C dJ6_bitCount_0f7a4_40 rfl (by decide) rfl ?_
  refine G.iload_n C 0 dJ6_bitCount_0f7a4_41 rfl rfl ?_
  refine G.iload_n C 0 dJ6_bitCount_0f7a4_42 rfl rfl ?_
  refine G.bipush (v := 16) C dJ6_bitCount_0f7a4_43 (by decide) ?_
  refine G.iushr C dJ6_bitCount_0f7a4_45 rfl ?_
  refine G.iadd C dJ6_bitCount_0f7a4_46 ?_
  refine G.topi (fun x0_47 ex0_47 => ?_)
  refine G.istore_n (L1 := [(0, .int x0_47)]) C dJ6_bitCount_0f7a4_47 rfl (by decide) rfl ?_
  refine G.iload_n C 0 dJ6_bitCount_0f7a4_48 rfl rfl ?_
  refine G.bipush (v := 63) C dJ6_bitCount_0f7a4_49 (by decide) ?_
  refine G.iand C dJ6_bitCount_0f7a4_51 ?_
  subst hQ
  exact G.iret C hr dJ6_bitCount_0f7a4_52 (by
      subst_vars
      exact ⟨rfl, jb_pop hr0⟩)
set_option maxHeartbeats 4000000 in
set_option maxRecDepth 100000 in
theorem ok_X4_put_11 {w : wD} (hw : wOK w) (σ : wSt) (i : Nat) (b c : Int32) (hi : i < wN 11)  : MV w yX4_put cX4_put 3 none 0 0 [.ref (w.2.2.2.1 11 i), .int b, .int c] σ (fun τ => wUp (wUp σ 11 i 0 b) 11 i 1 c = τ) := by
  refine MV.of hw (by decide +kernel) (Nat.le_of_ble_eq_true rfl) (fun x C hr => ?_)
  suffices key : ∀ Q, Q = QV w x (fun τ => wUp (wUp σ 11 i 0 b) 11 i 1 c = τ) → G w x 3 Q 0 [(0, .ref (w.2.2.2.1 11 i)), (1, .int b), (2, .int c)] [] σ from key _ rfl
  intro Q hQ
  refine G.aload_n C 0 dX4_put_0 rfl rfl ?_
  refine G.iload_n C 1 dX4_put_1 rfl rfl ?_
  refine G.put (g := 11) (i := i) C 0 none dX4_put_2 hi rfl rfl uX_X4 tyX4 tyX4_ok nmX4 (by decide) uf_RX4_9 rfl rfl (by decide +kernel) (Nat.le_of_ble_eq_true rfl) w_up_11_0 ?_
  refine G.aload_n C 0 dX4_put_5 rfl rfl ?_
  refine G.iload_n C 2 dX4_put_6 rfl rfl ?_
  refine G.put (g := 11) (i := i) C 1 none dX4_put_7 hi rfl rfl uX_X4 tyX4 tyX4_ok nmX4 (by decide) uf_RX4_15 rfl rfl (by decide +kernel) (Nat.le_of_ble_eq_true rfl) w_up_11_1 ?_
  subst hQ
  exact G.vret C hr dX4_put_10 (by
      exact rfl)
set_option maxHeartbeats 4000000 in
set_option maxRecDepth 100000 in
theorem ok_X4_put_17 {w : wD} (hw : wOK w) (σ : wSt) (i : Nat) (b c : Int32) (hi : i < wN 17)  : MV w yX4_put cX4_put 3 none 0 0 [.ref (w.2.2.2.1 17 i), .int b, .int c] σ (fun τ => wUp (wUp σ 17 i 0 b) 17 i 1 c = τ) := by
  refine MV.of hw (by decide +kernel) (Nat.le_of_ble_eq_true rfl) (fun x C hr => ?_)
  suffices key : ∀ Q, Q = QV w x (fun τ => wUp (wUp σ 17 i 0 b) 17 i 1 c = τ) → G w x 3 Q 0 [(0, .ref (w.2.2.2.1 17 i)), (1, .int b), (2, .int c)] [] σ from key _ rfl
  intro Q hQ
  refine G.aload_n C 0 dX4_put_0 rfl rfl ?_
  refine G.iload_n C 1 dX4_put_1 rfl rfl ?_
  refine G.put (g := 17) (i := i) C 0 none dX4_put_2 hi rfl rfl uX_X4 tyX4 tyX4_ok nmX4 (by decide) uf_RX4_9 rfl rfl (by decide +kernel) (Nat.le_of_ble_eq_true rfl) w_up_17_0 ?_
  refine G.aload_n C 0 dX4_put_5 rfl rfl ?_
  refine G.iload_n C 2 dX4_put_6 rfl rfl ?_
  refine G.put (g := 17) (i := i) C 1 none dX4_put_7 hi rfl rfl uX_X4 tyX4 tyX4_ok nmX4 (by decide) uf_RX4_15 rfl rfl (by decide +kernel) (Nat.le_of_ble_eq_true rfl) w_up_17_1 ?_
  subst hQ
  exact G.vret C hr dX4_put_10 (by
      exact rfl)
set_option maxHeartbeats 4000000 in
set_option maxRecDepth 100000 in
theorem ok_X3_statesWith {w : wD} (hw : wOK w) (σ : wSt) (a b : Int32) {n : Nat} (hn : σ.1 1 0 5 = nI n) (h6 : n ≤ 6) : MI w yX3_statesWith cX3_statesWith 5 (some .int) 0 0 [.ref (w.2.2.2.1 1 0), .int a, .int b] σ (fun r τ => σ = τ ∧ r = candU (σ.1 6 0) a b n) := by
  refine MI.of hw (by decide +kernel) (Nat.le_of_ble_eq_true rfl) (fun x C hr => ?_)
  suffices key : ∀ Q, Q = QI w x (fun r τ => σ = τ ∧ r = candU (σ.1 6 0) a b n) → G w x 5 Q 0 [(0, .ref (w.2.2.2.1 1 0)), (1, .int a), (2, .int b)] [] σ from key _ rfl
  intro Q hQ
  refine G.iconst (v := 0) C dX3_statesWith_0 (by decide) ?_
  refine G.istore_n (L1 := [(3, .int 0), (0, .ref (w.2.2.2.1 1 0)), (1, .int a), (2, .int b)]) C dX3_statesWith_1 rfl (by decide) rfl ?_
  refine G.iconst (v := 0) C dX3_statesWith_2 (by decide) ?_
  refine G.istore (L1 := [(4, .int 0), (3, .int 0), (0, .ref (w.2.2.2.1 1 0)), (1, .int a), (2, .int b)]) C dX3_statesWith_3 (by decide) rfl ?_
  have cut_5 : ∀ (m9 : Nat) (j : Nat) (x4 x3 : Int32), j ≤ n → n < j + m9 → x4 = nI j → x3 = candU (σ.1 6 0) a b j → G w x 5 Q 5 [(4, .int x4), (3, .int x3), (0, .ref (w.2.2.2.1 1 0)), (1, .int a), (2, .int b)] [] σ := by
    intro m9
    induction m9 with
    | zero =>
      intro j x4 x3 hj hm hx4 hx3
      exfalso
      omega
    | succ m9 ih =>
      intro j x4 x3 hj hm hx4 hx3
      subst hx4
      subst hx3
      refine G.iload C 0 dX3_statesWith_5 rfl ?_
      refine G.aload_n C 2 dX3_statesWith_7 rfl rfl ?_
      refine G.get (g := 1) (i := 0) C 5 none dX3_statesWith_8 (by decide) rfl rfl uX_X3 (by decide) uf_RX3_31 rfl rfl ?_
      refine G.icmp_ge (tgt := 52) C dX3_statesWith_11 (by decide) (fun c_11 => ?_) (fun c_11 => ?_)
      · have hjn : j = n := by
          rw [hn, nI_leI (by omega) (by omega)] at c_11; omega
        refine G.iload_n C 1 dX3_statesWith_52 rfl rfl ?_
        subst hQ
        exact G.iret C hr dX3_statesWith_53 (by
            rw [hjn]
            exact ⟨rfl, rfl⟩)
      · have hjn : j < n := by
          rw [hn, nI_leI (by omega) (by omega)] at c_11; omega
        refine G.aload_n C 2 dX3_statesWith_14 rfl rfl ?_
        refine G.get (g := 1) (i := 0) C 3 none dX3_statesWith_15 (by decide) rfl rfl uX_X3 (by decide) uf_RX3_21 rfl rfl ?_
        refine G.iload C 0 dX3_statesWith_18 rfl ?_
        have hin_20 : vp_in (nI j) 6 := by
          exact vp_in_nI (by omega) (by decide)
        refine G.iald (g := 6) (i := 0) (n := 6) C dX3_statesWith_20 (by decide) rfl hin_20 ?_
        refine G.iload_n C 3 dX3_statesWith_21 rfl rfl ?_
        refine G.iand C dX3_statesWith_22 ?_
        refine G.iload_n C 3 dX3_statesWith_23 rfl rfl ?_
        refine G.icmp_ne (tgt := 46) C dX3_statesWith_24 (by decide) (fun c_24 => ?_) (fun c_24 => ?_)
        · obtain ⟨x4_46, ex4_46⟩ : ∃ z : Int32, z = (nI j) + 1 := ⟨_, rfl⟩
          refine G.iinc (v := x4_46) (L1 := [(4, .int x4_46), (3, .int (candU (σ.1 6 0) a b j)), (0, .ref (w.2.2.2.1 1 0)), (1, .int a), (2, .int b)]) C 0 dX3_statesWith_46 rfl (by rw [ex4_46]; rfl) (by decide) rfl ?_
          refine G.goto (tgt := 5) C dX3_statesWith_49 (by decide) ?_
          refine ih  (j + 1) _ _ ?_ ?_ ?_ ?_
          · omega
          · omega
          · rw [ex4_46]; exact nI_1 j
          · rw [candU_f _ rfl rfl (fun h => c_24 (by rw [nI_clamp (by omega)]; exact h.1))]
        · refine G.aload_n C 2 dX3_statesWith_27 rfl rfl ?_
          refine G.get (g := 1) (i := 0) C 3 none dX3_statesWith_28 (by decide) rfl rfl uX_X3 (by decide) uf_RX3_21 rfl rfl ?_
          refine G.iload C 0 dX3_statesWith_31 rfl ?_
          have hin_33 : vp_in (nI j) 6 := by
            exact vp_in_nI (by omega) (by decide)
          refine G.iald (g := 6) (i := 0) (n := 6) C dX3_statesWith_33 (by decide) rfl hin_33 ?_
          refine G.iload_n C 4 dX3_statesWith_34 rfl rfl ?_
          refine G.iand C dX3_statesWith_35 ?_
          refine G.if_ne (tgt := 46) C dX3_statesWith_36 (by decide) (fun c_36 => ?_) (fun c_36 => ?_)
          · obtain ⟨x4_46, ex4_46⟩ : ∃ z : Int32, z = (nI j) + 1 := ⟨_, rfl⟩
            refine G.iinc (v := x4_46) (L1 := [(4, .int x4_46), (3, .int (candU (σ.1 6 0) a b j)), (0, .ref (w.2.2.2.1 1 0)), (1, .int a), (2, .int b)]) C 0 dX3_statesWith_46 rfl (by rw [ex4_46]; rfl) (by decide) rfl ?_
            refine G.goto (tgt := 5) C dX3_statesWith_49 (by decide) ?_
            refine ih  (j + 1) _ _ ?_ ?_ ?_ ?_
            · omega
            · omega
            · rw [ex4_46]; exact nI_1 j
            · rw [candU_f _ rfl rfl (fun h => c_36 (by rw [nI_clamp (by omega)]; exact h.2))]
          · refine G.iload_n C 1 dX3_statesWith_39 rfl rfl ?_
            refine G.iconst (v := 1) C dX3_statesWith_40 (by decide) ?_
            refine G.iload C 0 dX3_statesWith_41 rfl ?_
            refine G.ishl C dX3_statesWith_43 ?_
            refine G.ior C dX3_statesWith_44 ?_
            refine G.topi (fun x3_45 ex3_45 => ?_)
            refine G.istore_n (L1 := [(3, .int x3_45), (4, .int (nI j)), (0, .ref (w.2.2.2.1 1 0)), (1, .int a), (2, .int b)]) C dX3_statesWith_45 rfl (by decide) rfl ?_
            obtain ⟨x4_46, ex4_46⟩ : ∃ z : Int32, z = (nI j) + 1 := ⟨_, rfl⟩
            refine G.iinc (v := x4_46) (L1 := [(4, .int x4_46), (3, .int x3_45), (0, .ref (w.2.2.2.1 1 0)), (1, .int a), (2, .int b)]) C 1 dX3_statesWith_46 rfl (by rw [ex4_46]; rfl) (by decide) rfl ?_
            refine G.goto (tgt := 5) C dX3_statesWith_49 (by decide) ?_
            refine ih  (j + 1) _ _ ?_ ?_ ?_ ?_
            · omega
            · omega
            · rw [ex4_46]; exact nI_1 j
            · rw [nI_clamp (by omega)] at c_24 c_36
              rw [ex3_45, candU_t _ rfl rfl ⟨c_24, c_36⟩]
  refine cut_5 (n + 1) 0 _ _ ?_ ?_ ?_ ?_
  · omega
  · omega
  · rfl
  · rfl
set_option maxHeartbeats 4000000 in
set_option maxRecDepth 100000 in
theorem ok_X3_linesOf {w : wD} (hw : wOK w) (σ : wSt) (a : Int32) {n : Nat} (hn : σ.1 1 0 5 = nI n) (h6 : n ≤ 6) : MI w yX3_linesOf cX3_linesOf 4 (some .int) 1 21 [.ref (w.2.2.2.1 1 0), .int a] σ (fun r τ => σ = τ ∧ r = linesU (σ.1 6 0) a n) := by
  refine MI.of hw (by decide +kernel) (Nat.le_of_ble_eq_true rfl) (fun x C hr => ?_)
  suffices key : ∀ Q, Q = QI w x (fun r τ => σ = τ ∧ r = linesU (σ.1 6 0) a n) → G w x 4 Q 0 [(0, .ref (w.2.2.2.1 1 0)), (1, .int a)] [] σ from key _ rfl
  intro Q hQ
  refine G.iconst (v := 0) C dX3_linesOf_0 (by decide) ?_
  refine G.istore_n (L1 := [(2, .int 0), (0, .ref (w.2.2.2.1 1 0)), (1, .int a)]) C dX3_linesOf_1 rfl (by decide) rfl ?_
  refine G.iconst (v := 0) C dX3_linesOf_2 (by decide) ?_
  refine G.istore_n (L1 := [(3, .int 0), (2, .int 0), (0, .ref (w.2.2.2.1 1 0)), (1, .int a)]) C dX3_linesOf_3 rfl (by decide) rfl ?_
  have cut_4 : ∀ (m9 : Nat) (j : Nat) (x3 x2 : Int32), j ≤ n → n < j + m9 → x3 = nI j → x2 = linesU (σ.1 6 0) a j → G w x 4 Q 4 [(3, .int x3), (2, .int x2), (0, .ref (w.2.2.2.1 1 0)), (1, .int a)] [] σ := by
    intro m9
    induction m9 with
    | zero =>
      intro j x3 x2 hj hm hx3 hx2
      exfalso
      omega
    | succ m9 ih =>
      intro j x3 x2 hj hm hx3 hx2
      subst hx3
      subst hx2
      refine G.iload_n C 0 dX3_linesOf_4 rfl rfl ?_
      refine G.aload_n C 2 dX3_linesOf_5 rfl rfl ?_
      refine G.get (g := 1) (i := 0) C 5 none dX3_linesOf_6 (by decide) rfl rfl uX_X3 (by decide) uf_RX3_31 rfl rfl ?_
      refine G.icmp_ge (tgt := 35) C dX3_linesOf_9 (by decide) (fun c_9 => ?_) (fun c_9 => ?_)
      · have hjn : j = n := by
          rw [hn, nI_leI (by omega) (by omega)] at c_9; omega
        refine G.iload_n C 1 dX3_linesOf_35 rfl rfl ?_
        subst hQ
        exact G.iret C hr dX3_linesOf_36 (by
            rw [hjn]
            exact ⟨rfl, rfl⟩)
      · have hjn : j < n := by
          rw [hn, nI_leI (by omega) (by omega)] at c_9; omega
        refine G.iload_n C 3 dX3_linesOf_12 rfl rfl ?_
        refine G.iload_n C 0 dX3_linesOf_13 rfl rfl ?_
        have hM_0 := ok_X5_has hw σ a (nI j)
        refine G.callS C (some "PlateRoom") hM_0 dX3_linesOf_14 us_X5_has unm_RX3_58 rfl rfl (by decide) (Nat.le_of_ble_eq_true rfl) (fun r_14 τ_14 h_14 => ?_)
        obtain ⟨h_14, e_14⟩ := h_14; subst h_14
        refine G.if_eq (tgt := 29) C dX3_linesOf_17 (by decide) (fun c_17 => ?_) (fun c_17 => ?_)
        · have b_14 := wb_0 e_14 c_17
          obtain ⟨x3_29, ex3_29⟩ : ∃ z : Int32, z = (nI j) + 1 := ⟨_, rfl⟩
          refine G.iinc (v := x3_29) (L1 := [(3, .int x3_29), (2, .int (linesU (σ.1 6 0) a j)), (0, .ref (w.2.2.2.1 1 0)), (1, .int a)]) C 0 dX3_linesOf_29 rfl (by rw [ex3_29]; rfl) (by decide) rfl ?_
          refine G.goto (tgt := 4) C dX3_linesOf_32 (by decide) ?_
          refine ih  (j + 1) _ _ ?_ ?_ ?_ ?_
          · omega
          · omega
          · rw [ex3_29]; exact nI_1 j
          · rw [linesU_f _ rfl (wb_0 e_14 c_17)]
        · have b_14 := wb_1 e_14 c_17
          refine G.iload_n C 1 dX3_linesOf_20 rfl rfl ?_
          refine G.aload_n C 2 dX3_linesOf_21 rfl rfl ?_
          refine G.get (g := 1) (i := 0) C 3 none dX3_linesOf_22 (by decide) rfl rfl uX_X3 (by decide) uf_RX3_21 rfl rfl ?_
          refine G.iload_n C 0 dX3_linesOf_25 rfl rfl ?_
          have hin_26 : vp_in (nI j) 6 := by
            exact vp_in_nI (by omega) (by decide)
          refine G.iald (g := 6) (i := 0) (n := 6) C dX3_linesOf_26 (by decide) rfl hin_26 ?_
          refine G.ior C dX3_linesOf_27 ?_
          refine G.topi (fun x2_28 ex2_28 => ?_)
          refine G.istore_n (L1 := [(2, .int x2_28), (3, .int (nI j)), (0, .ref (w.2.2.2.1 1 0)), (1, .int a)]) C dX3_linesOf_28 rfl (by decide) rfl ?_
          obtain ⟨x3_29, ex3_29⟩ : ∃ z : Int32, z = (nI j) + 1 := ⟨_, rfl⟩
          refine G.iinc (v := x3_29) (L1 := [(3, .int x3_29), (2, .int x2_28), (0, .ref (w.2.2.2.1 1 0)), (1, .int a)]) C 1 dX3_linesOf_29 rfl (by rw [ex3_29]; rfl) (by decide) rfl ?_
          refine G.goto (tgt := 4) C dX3_linesOf_32 (by decide) ?_
          refine ih  (j + 1) _ _ ?_ ?_ ?_ ?_
          · omega
          · omega
          · rw [ex3_29]; exact nI_1 j
          · rw [ex2_28, linesU_t _ rfl (wb_1 e_14 c_17), nI_clamp (by omega)]
  refine cut_4 (n + 1) 0 _ _ ?_ ?_ ?_ ?_
  · omega
  · omega
  · rfl
  · rfl
set_option maxHeartbeats 4000000 in
set_option maxRecDepth 100000 in
theorem ok_X3_stepQuarrel {w : wD} (hw : wOK w) (σ : wSt) (a b c : Int32) (hb9 : rng12 b) (hc9 : rng12 c) : MI w yX3_stepQuarrel cX3_stepQuarrel 6 (some .int) 1 20 [.ref (w.2.2.2.1 1 0), .int a, .int b, .int c] σ (fun r τ => σ = τ ∧ r = stepF (σ.1 1 0 0) (σ.1 1 0 1) (σ.1 1 0 2) a b c) := by
  refine MI.of hw (by decide +kernel) (Nat.le_of_ble_eq_true rfl) (fun x C hr => ?_)
  suffices key : ∀ Q, Q = QI w x (fun r τ => σ = τ ∧ r = stepF (σ.1 1 0 0) (σ.1 1 0 1) (σ.1 1 0 2) a b c) → G w x 6 Q 0 [(0, .ref (w.2.2.2.1 1 0)), (1, .int a), (2, .int b), (3, .int c)] [] σ from key _ rfl
  intro Q hQ
  refine G.iload_n C 3 dX3_stepQuarrel_0 rfl rfl ?_
  refine G.iload_n C 2 dX3_stepQuarrel_1 rfl rfl ?_
  refine G.iconst (v := -1) C dX3_stepQuarrel_2 (by decide) ?_
  refine G.ixor C dX3_stepQuarrel_3 ?_
  refine G.iand C dX3_stepQuarrel_4 ?_
  refine G.topi (fun x4_5 ex4_5 => ?_)
  refine G.istore (L1 := [(4, .int x4_5), (0, .ref (w.2.2.2.1 1 0)), (1, .int a), (2, .int b), (3, .int c)]) C dX3_stepQuarrel_5 (by decide) rfl ?_
  refine G.iload_n C 3 dX3_stepQuarrel_7 rfl rfl ?_
  refine G.iload_n C 4 dX3_stepQuarrel_8 rfl rfl ?_
  refine G.iconst (v := -1) C dX3_stepQuarrel_9 (by decide) ?_
  refine G.ixor C dX3_stepQuarrel_10 ?_
  refine G.iand C dX3_stepQuarrel_11 ?_
  refine G.topi (fun x5_12 ex5_12 => ?_)
  refine G.istore (L1 := [(5, .int x5_12), (4, .int x4_5), (0, .ref (w.2.2.2.1 1 0)), (1, .int a), (2, .int b), (3, .int c)]) C dX3_stepQuarrel_12 (by decide) rfl ?_
  refine G.iload C 1 dX3_stepQuarrel_14 rfl ?_
  refine G.iload_n C 3 dX3_stepQuarrel_16 rfl rfl ?_
  refine G.iconst (v := -1) C dX3_stepQuarrel_17 (by decide) ?_
  refine G.ixor C dX3_stepQuarrel_18 ?_
  refine G.iand C dX3_stepQuarrel_19 ?_
  have hM_0 := ok_J6_bitCount_0f7a4 hw σ (x4_5 &&& (a ^^^ (-1))) (by subst_vars; exact rng_and _ (rng_and _ hc9))
  refine G.callS C none hM_0 dX3_stepQuarrel_20 us_J6_bitCount_0f7a4 ul_RX3_62 rfl rfl (by decide) (Nat.le_of_ble_eq_true rfl) (fun r_20 τ_20 h_20 => ?_)
  obtain ⟨h_20, e_20⟩ := h_20; subst h_20
  refine G.aload_n C 2 dX3_stepQuarrel_23 rfl rfl ?_
  refine G.get (g := 1) (i := 0) C 0 none dX3_stepQuarrel_24 (by decide) rfl rfl uX_X3 (by decide) uf_RX3_9 rfl rfl ?_
  refine G.imul C dX3_stepQuarrel_27 ?_
  refine G.iload C 1 dX3_stepQuarrel_28 rfl ?_
  refine G.iload_n C 3 dX3_stepQuarrel_30 rfl rfl ?_
  refine G.iand C dX3_stepQuarrel_31 ?_
  have hM_1 := ok_J6_bitCount_0f7a4 hw σ (x4_5 &&& a) (by subst_vars; exact rng_and _ (rng_and _ hc9))
  refine G.callS C none hM_1 dX3_stepQuarrel_32 us_J6_bitCount_0f7a4 ul_RX3_62 rfl rfl (by decide) (Nat.le_of_ble_eq_true rfl) (fun r_32 τ_32 h_32 => ?_)
  obtain ⟨h_32, e_32⟩ := h_32; subst h_32
  refine G.aload_n C 2 dX3_stepQuarrel_35 rfl rfl ?_
  refine G.get (g := 1) (i := 0) C 2 none dX3_stepQuarrel_36 (by decide) rfl rfl uX_X3 (by decide) uf_RX3_18 rfl rfl ?_
  refine G.imul C dX3_stepQuarrel_39 ?_
  refine G.iadd C dX3_stepQuarrel_40 ?_
  refine G.iload C 0 dX3_stepQuarrel_41 rfl ?_
  have hM_2 := ok_J6_bitCount_0f7a4 hw σ x5_12 (by subst_vars; exact rng_and _ hb9)
  refine G.callS C none hM_2 dX3_stepQuarrel_43 us_J6_bitCount_0f7a4 ul_RX3_62 rfl rfl (by decide) (Nat.le_of_ble_eq_true rfl) (fun r_43 τ_43 h_43 => ?_)
  obtain ⟨h_43, e_43⟩ := h_43; subst h_43
  refine G.aload_n C 2 dX3_stepQuarrel_46 rfl rfl ?_
  refine G.get (g := 1) (i := 0) C 1 none dX3_stepQuarrel_47 (by decide) rfl rfl uX_X3 (by decide) uf_RX3_15 rfl rfl ?_
  refine G.imul C dX3_stepQuarrel_50 ?_
  refine G.iadd C dX3_stepQuarrel_51 ?_
  subst hQ
  exact G.iret C hr dX3_stepQuarrel_52 (by
      subst_vars
      exact ⟨rfl, rfl⟩)
end
section
set_option maxHeartbeats 4000000 in
set_option maxRecDepth 100000 in
theorem ok_X1_isWithin_15 {w : wD} (hw : wOK w) (σ : wSt) (i : Nat) (a f : Int32) (hi : i < wN 15) {h : Nat} (hh : σ.1 15 i 1 = nI h) (hh6 : h ≤ 6) : MI w yX1_isWithin cX1_isWithin 4 (some .boolean) 1 21 [.ref (w.2.2.2.1 15 i), .int a, .int f] σ (fun r τ => σ = τ ∧ r = wb (nearB (σ.1 16 i) a f h = true)) := by
  refine MI.of hw (by decide +kernel) (Nat.le_of_ble_eq_true rfl) (fun x C hr => ?_)
  suffices key : ∀ Q, Q = QI w x (fun r τ => σ = τ ∧ r = wb (nearB (σ.1 16 i) a f h = true)) → G w x 4 Q 0 [(0, .ref (w.2.2.2.1 15 i)), (1, .int a), (2, .int f)] [] σ from key _ rfl
  intro Q hQ
  refine G.iconst (v := 0) C dX1_isWithin_0 (by decide) ?_
  refine G.istore_n (L1 := [(3, .int 0), (0, .ref (w.2.2.2.1 15 i)), (1, .int a), (2, .int f)]) C dX1_isWithin_1 rfl (by decide) rfl ?_
  have cut_2 : ∀ (m9 : Nat) (j : Nat) (x3 : Int32), j ≤ h → h < j + m9 → nearB (σ.1 16 i) a f j = false → x3 = nI j → G w x 4 Q 2 [(3, .int x3), (0, .ref (w.2.2.2.1 15 i)), (1, .int a), (2, .int f)] [] σ := by
    intro m9
    induction m9 with
    | zero =>
      intro j x3 hj hm hf hx3
      exfalso
      omega
    | succ m9 ih =>
      intro j x3 hj hm hf hx3
      subst hx3
      refine G.iload_n C 0 dX1_isWithin_2 rfl rfl ?_
      refine G.aload_n C 1 dX1_isWithin_3 rfl rfl ?_
      refine G.get (g := 15) (i := i) C 1 none dX1_isWithin_4 hi rfl rfl uX_X1 (by decide) uf_RX1_15 rfl rfl ?_
      refine G.icmp_ge (tgt := 33) C dX1_isWithin_7 (by decide) (fun c_7 => ?_) (fun c_7 => ?_)
      · have hjn : j = h := by
          rw [hh, nI_leI (by omega) (by omega)] at c_7; omega
        refine G.iconst (v := 0) C dX1_isWithin_33 (by decide) ?_
        subst hQ
        exact G.zret C hr (by rfl) dX1_isWithin_34 (by
            exact ⟨rfl, (wb_f (by rw [← hjn, hf]; decide)).symm⟩)
      · have hjn : j < h := by
          rw [hh, nI_leI (by omega) (by omega)] at c_7; omega
        refine G.aload_n C 1 dX1_isWithin_10 rfl rfl ?_
        refine G.get (g := 15) (i := i) C 0 none dX1_isWithin_11 hi rfl rfl uX_X1 (by decide) uf_RX1_11 rfl rfl ?_
        refine G.iload_n C 0 dX1_isWithin_14 rfl rfl ?_
        have hin_15 : vp_in (nI j) 6 := by
          exact vp_in_nI (by omega) (by decide)
        refine G.iald (g := 16) (i := i) (n := 6) C dX1_isWithin_15 hi rfl hin_15 ?_
        refine G.iload_n C 2 dX1_isWithin_16 rfl rfl ?_
        refine G.isub C dX1_isWithin_17 ?_
        refine G.mabs C dX1_isWithin_18 ul_RX1_23 (by decide) (Nat.le_of_ble_eq_true rfl) ?_
        refine G.iload_n C 3 dX1_isWithin_21 rfl rfl ?_
        refine G.icmp_gt (tgt := 27) C dX1_isWithin_22 (by decide) (fun c_22 => ?_) (fun c_22 => ?_)
        · obtain ⟨x3_27, ex3_27⟩ : ∃ z : Int32, z = (nI j) + 1 := ⟨_, rfl⟩
          refine G.iinc (v := x3_27) (L1 := [(3, .int x3_27), (0, .ref (w.2.2.2.1 15 i)), (1, .int a), (2, .int f)]) C 0 dX1_isWithin_27 rfl (by rw [ex3_27]; rfl) (by decide) rfl ?_
          refine G.goto (tgt := 2) C dX1_isWithin_30 (by decide) ?_
          refine ih  (j + 1) _ ?_ ?_ ?_ ?_
          · omega
          · omega
          · rw [nI_clamp (by omega)] at c_22
            simp only [nearB, hf, Bool.false_or, decide_eq_false_iff_not]
            exact Int32.not_le.mpr c_22
          · rw [ex3_27]; exact nI_1 j
        · refine G.iconst (v := 1) C dX1_isWithin_25 (by decide) ?_
          subst hQ
          exact G.zret C hr (by rfl) dX1_isWithin_26 (by
              rw [nI_clamp (by omega)] at c_22
              exact ⟨rfl, (wb_t (near_mono (a := j + 1) (by omega) (by simp only [nearB, hf, Bool.false_or, decide_eq_true_eq]; exact Int32.not_lt.mp c_22))).symm⟩)
  refine cut_2 (h + 1) 0 _ ?_ ?_ ?_ ?_
  · omega
  · omega
  · rfl
  · rfl
set_option maxHeartbeats 4000000 in
set_option maxRecDepth 100000 in
theorem ok_X1_isWithin_18 {w : wD} (hw : wOK w) (σ : wSt) (i : Nat) (a f : Int32) (hi : i < wN 18) {h : Nat} (hh : σ.1 18 i 1 = nI h) (hh6 : h ≤ 6) : MI w yX1_isWithin cX1_isWithin 4 (some .boolean) 1 21 [.ref (w.2.2.2.1 18 i), .int a, .int f] σ (fun r τ => σ = τ ∧ r = wb (nearB (σ.1 19 i) a f h = true)) := by
  refine MI.of hw (by decide +kernel) (Nat.le_of_ble_eq_true rfl) (fun x C hr => ?_)
  suffices key : ∀ Q, Q = QI w x (fun r τ => σ = τ ∧ r = wb (nearB (σ.1 19 i) a f h = true)) → G w x 4 Q 0 [(0, .ref (w.2.2.2.1 18 i)), (1, .int a), (2, .int f)] [] σ from key _ rfl
  intro Q hQ
  refine G.iconst (v := 0) C dX1_isWithin_0 (by decide) ?_
  refine G.istore_n (L1 := [(3, .int 0), (0, .ref (w.2.2.2.1 18 i)), (1, .int a), (2, .int f)]) C dX1_isWithin_1 rfl (by decide) rfl ?_
  have cut_2 : ∀ (m9 : Nat) (j : Nat) (x3 : Int32), j ≤ h → h < j + m9 → nearB (σ.1 19 i) a f j = false → x3 = nI j → G w x 4 Q 2 [(3, .int x3), (0, .ref (w.2.2.2.1 18 i)), (1, .int a), (2, .int f)] [] σ := by
    intro m9
    induction m9 with
    | zero =>
      intro j x3 hj hm hf hx3
      exfalso
      omega
    | succ m9 ih =>
      intro j x3 hj hm hf hx3
      subst hx3
      refine G.iload_n C 0 dX1_isWithin_2 rfl rfl ?_
      refine G.aload_n C 1 dX1_isWithin_3 rfl rfl ?_
      refine G.get (g := 18) (i := i) C 1 none dX1_isWithin_4 hi rfl rfl uX_X1 (by decide) uf_RX1_15 rfl rfl ?_
      refine G.icmp_ge (tgt := 33) C dX1_isWithin_7 (by decide) (fun c_7 => ?_) (fun c_7 => ?_)
      · have hjn : j = h := by
          rw [hh, nI_leI (by omega) (by omega)] at c_7; omega
        refine G.iconst (v := 0) C dX1_isWithin_33 (by decide) ?_
        subst hQ
        exact G.zret C hr (by rfl) dX1_isWithin_34 (by
            exact ⟨rfl, (wb_f (by rw [← hjn, hf]; decide)).symm⟩)
      · have hjn : j < h := by
          rw [hh, nI_leI (by omega) (by omega)] at c_7; omega
        refine G.aload_n C 1 dX1_isWithin_10 rfl rfl ?_
        refine G.get (g := 18) (i := i) C 0 none dX1_isWithin_11 hi rfl rfl uX_X1 (by decide) uf_RX1_11 rfl rfl ?_
        refine G.iload_n C 0 dX1_isWithin_14 rfl rfl ?_
        have hin_15 : vp_in (nI j) 6 := by
          exact vp_in_nI (by omega) (by decide)
        refine G.iald (g := 19) (i := i) (n := 6) C dX1_isWithin_15 hi rfl hin_15 ?_
        refine G.iload_n C 2 dX1_isWithin_16 rfl rfl ?_
        refine G.isub C dX1_isWithin_17 ?_
        refine G.mabs C dX1_isWithin_18 ul_RX1_23 (by decide) (Nat.le_of_ble_eq_true rfl) ?_
        refine G.iload_n C 3 dX1_isWithin_21 rfl rfl ?_
        refine G.icmp_gt (tgt := 27) C dX1_isWithin_22 (by decide) (fun c_22 => ?_) (fun c_22 => ?_)
        · obtain ⟨x3_27, ex3_27⟩ : ∃ z : Int32, z = (nI j) + 1 := ⟨_, rfl⟩
          refine G.iinc (v := x3_27) (L1 := [(3, .int x3_27), (0, .ref (w.2.2.2.1 18 i)), (1, .int a), (2, .int f)]) C 0 dX1_isWithin_27 rfl (by rw [ex3_27]; rfl) (by decide) rfl ?_
          refine G.goto (tgt := 2) C dX1_isWithin_30 (by decide) ?_
          refine ih  (j + 1) _ ?_ ?_ ?_ ?_
          · omega
          · omega
          · rw [nI_clamp (by omega)] at c_22
            simp only [nearB, hf, Bool.false_or, decide_eq_false_iff_not]
            exact Int32.not_le.mpr c_22
          · rw [ex3_27]; exact nI_1 j
        · refine G.iconst (v := 1) C dX1_isWithin_25 (by decide) ?_
          subst hQ
          exact G.zret C hr (by rfl) dX1_isWithin_26 (by
              rw [nI_clamp (by omega)] at c_22
              exact ⟨rfl, (wb_t (near_mono (a := j + 1) (by omega) (by simp only [nearB, hf, Bool.false_or, decide_eq_true_eq]; exact Int32.not_lt.mp c_22))).symm⟩)
  refine cut_2 (h + 1) 0 _ ?_ ?_ ?_ ?_
  · omega
  · omega
  · rfl
  · rfl
set_option maxHeartbeats 4000000 in
set_option maxRecDepth 100000 in
theorem ok_X1_bore_15 {w : wD} (hw : wOK w) (σ : wSt) (i : Nat) (a : Int32) (hi : i < wN 15) {h : Nat} (hh : σ.1 15 i 1 = nI h) (hh6 : h ≤ 6) : MI w yX1_bore cX1_bore 2 (some .int) 2 44 [.ref (w.2.2.2.1 15 i), .int a] σ (fun r τ => (nearB (σ.1 16 i) a 0 h = true ∧ σ = τ ∧ r = nI h) ∨ (nearB (σ.1 16 i) a 0 h = false ∧ 6 ≤ h ∧ σ = τ ∧ r = -3) ∨ (nearB (σ.1 16 i) a 0 h = false ∧ h < 6 ∧ wUp (wUp σ 16 i h a) 15 i 1 (nI (h + 1)) = τ ∧ r = nI (h + 1))) := by
  refine MI.of hw (by decide +kernel) (Nat.le_of_ble_eq_true rfl) (fun x C hr => ?_)
  suffices key : ∀ Q, Q = QI w x (fun r τ => (nearB (σ.1 16 i) a 0 h = true ∧ σ = τ ∧ r = nI h) ∨ (nearB (σ.1 16 i) a 0 h = false ∧ 6 ≤ h ∧ σ = τ ∧ r = -3) ∨ (nearB (σ.1 16 i) a 0 h = false ∧ h < 6 ∧ wUp (wUp σ 16 i h a) 15 i 1 (nI (h + 1)) = τ ∧ r = nI (h + 1))) → G w x 2 Q 0 [(0, .ref (w.2.2.2.1 15 i)), (1, .int a)] [] σ from key _ rfl
  intro Q hQ
  refine G.aload_n C 0 dX1_bore_0 rfl rfl ?_
  refine G.iload_n C 1 dX1_bore_1 rfl rfl ?_
  refine G.iconst (v := 0) C dX1_bore_2 (by decide) ?_
  have hM_0 := ok_X1_isWithin_15 hw σ i a 0 hi hh hh6
  refine G.callV C (g := 15) (i := i) none hM_0 dX1_bore_3 hi rfl rfl rfl uv_X1_isWithin ul_RX1_19 rfl rfl (by decide) (Nat.le_of_ble_eq_true rfl) (fun r_3 τ_3 h_3 => ?_)
  obtain ⟨h_3, e_3⟩ := h_3; subst h_3
  refine G.if_eq (tgt := 14) C dX1_bore_6 (by decide) (fun c_6 => ?_) (fun c_6 => ?_)
  · have b_3 := wb_0 e_3 c_6
    refine G.aload_n C 0 dX1_bore_14 rfl rfl ?_
    refine G.get (g := 15) (i := i) C 1 none dX1_bore_15 hi rfl rfl uX_X1 (by decide) uf_RX1_15 rfl rfl ?_
    refine G.bipush (v := 6) C dX1_bore_18 (by decide) ?_
    refine G.icmp_lt (tgt := 26) C dX1_bore_20 (by decide) (fun c_20 => ?_) (fun c_20 => ?_)
    · have hh9 : h < 6 := by
        rw [hh] at c_20
        exact (nI_ltI (by omega) (by decide)).mp c_20
      refine G.aload_n C 0 dX1_bore_26 rfl rfl ?_
      refine G.get (g := 15) (i := i) C 0 none dX1_bore_27 hi rfl rfl uX_X1 (by decide) uf_RX1_11 rfl rfl ?_
      refine G.aload_n C 0 dX1_bore_30 rfl rfl ?_
      refine G.get (g := 15) (i := i) C 1 none dX1_bore_31 hi rfl rfl uX_X1 (by decide) uf_RX1_15 rfl rfl ?_
      refine G.iload_n C 1 dX1_bore_34 rfl rfl ?_
      have hin_35 : vp_in (σ.1 15 i 1) 6 := by
        rw [hh]; exact vp_in_nI (by omega) (by decide)
      refine G.iast (g := 16) (i := i) (n := 6) C dX1_bore_35 hi rfl hin_35 w_ast_16 ?_
      refine G.aload_n C 0 dX1_bore_36 rfl rfl ?_
      refine G.dup C dX1_bore_37 rfl ?_
      refine G.get (g := 15) (i := i) C 1 none dX1_bore_38 hi rfl rfl uX_X1 (by decide) uf_RX1_15 rfl rfl ?_
      refine G.iconst (v := 1) C dX1_bore_41 (by decide) ?_
      refine G.iadd C dX1_bore_42 ?_
      refine G.put (g := 15) (i := i) C 1 none dX1_bore_43 hi rfl rfl uX_X1 tyX1 tyX1_ok nmX1 (by decide) uf_RX1_15 rfl rfl (by decide +kernel) (Nat.le_of_ble_eq_true rfl) w_up_15_1 ?_
      refine G.aload_n C 0 dX1_bore_46 rfl rfl ?_
      refine G.get (g := 15) (i := i) C 1 none dX1_bore_47 hi rfl rfl uX_X1 (by decide) uf_RX1_15 rfl rfl ?_
      subst hQ
      exact G.iret C hr dX1_bore_50 (by
          refine Or.inr (Or.inr ⟨Bool.eq_false_iff.mpr b_3, hh9, ?_, ?_⟩)
          · rw [wUp_ng (by decide), hh, nI_clamp (by omega), nI_1]
          · rw [wUp_eq, wUp_ng (by decide), hh, nI_1])
    · have hh9 : 6 ≤ h := by
        rw [hh] at c_20
        rcases Nat.lt_or_ge h 6 with q | q
        · exact absurd (nI_lt q (by decide)) c_20
        · exact q
      refine G.bipush (v := -3) C dX1_bore_23 (by decide) ?_
      subst hQ
      exact G.iret C hr dX1_bore_25 (by
          exact Or.inr (Or.inl ⟨Bool.eq_false_iff.mpr b_3, hh9, rfl, rfl⟩))
  · have b_3 := wb_1 e_3 c_6
    have b9 := b_3
    refine G.aload_n C 0 dX1_bore_9 rfl rfl ?_
    refine G.get (g := 15) (i := i) C 1 none dX1_bore_10 hi rfl rfl uX_X1 (by decide) uf_RX1_15 rfl rfl ?_
    subst hQ
    exact G.iret C hr dX1_bore_13 (by
        exact Or.inl ⟨b_3, rfl, hh⟩)
set_option maxHeartbeats 4000000 in
set_option maxRecDepth 100000 in
theorem ok_X1_bore_18 {w : wD} (hw : wOK w) (σ : wSt) (i : Nat) (a : Int32) (hi : i < wN 18) {h : Nat} (hh : σ.1 18 i 1 = nI h) (hh6 : h ≤ 6) : MI w yX1_bore cX1_bore 2 (some .int) 2 44 [.ref (w.2.2.2.1 18 i), .int a] σ (fun r τ => (nearB (σ.1 19 i) a 0 h = true ∧ σ = τ ∧ r = nI h) ∨ (nearB (σ.1 19 i) a 0 h = false ∧ 6 ≤ h ∧ σ = τ ∧ r = -3) ∨ (nearB (σ.1 19 i) a 0 h = false ∧ h < 6 ∧ wUp (wUp σ 19 i h a) 18 i 1 (nI (h + 1)) = τ ∧ r = nI (h + 1))) := by
  refine MI.of hw (by decide +kernel) (Nat.le_of_ble_eq_true rfl) (fun x C hr => ?_)
  suffices key : ∀ Q, Q = QI w x (fun r τ => (nearB (σ.1 19 i) a 0 h = true ∧ σ = τ ∧ r = nI h) ∨ (nearB (σ.1 19 i) a 0 h = false ∧ 6 ≤ h ∧ σ = τ ∧ r = -3) ∨ (nearB (σ.1 19 i) a 0 h = false ∧ h < 6 ∧ wUp (wUp σ 19 i h a) 18 i 1 (nI (h + 1)) = τ ∧ r = nI (h + 1))) → G w x 2 Q 0 [(0, .ref (w.2.2.2.1 18 i)), (1, .int a)] [] σ from key _ rfl
  intro Q hQ
  refine G.aload_n C 0 dX1_bore_0 rfl rfl ?_
  refine G.iload_n C 1 dX1_bore_1 rfl rfl ?_
  refine G.iconst (v := 0) C dX1_bore_2 (by decide) ?_
  have hM_0 := ok_X1_isWithin_18 hw σ i a 0 hi hh hh6
  refine G.callV C (g := 18) (i := i) none hM_0 dX1_bore_3 hi rfl rfl rfl uv_X1_isWithin ul_RX1_19 rfl rfl (by decide) (Nat.le_of_ble_eq_true rfl) (fun r_3 τ_3 h_3 => ?_)
  obtain ⟨h_3, e_3⟩ := h_3; subst h_3
  refine G.if_eq (tgt := 14) C dX1_bore_6 (by decide) (fun c_6 => ?_) (fun c_6 => ?_)
  · have b_3 := wb_0 e_3 c_6
    refine G.aload_n C 0 dX1_bore_14 rfl rfl ?_
    refine G.get (g := 18) (i := i) C 1 none dX1_bore_15 hi rfl rfl uX_X1 (by decide) uf_RX1_15 rfl rfl ?_
    refine G.bipush (v := 6) C dX1_bore_18 (by decide) ?_
    refine G.icmp_lt (tgt := 26) C dX1_bore_20 (by decide) (fun c_20 => ?_) (fun c_20 => ?_)
    · have hh9 : h < 6 := by
        rw [hh] at c_20
        exact (nI_ltI (by omega) (by decide)).mp c_20
      refine G.aload_n C 0 dX1_bore_26 rfl rfl ?_
      refine G.get (g := 18) (i := i) C 0 none dX1_bore_27 hi rfl rfl uX_X1 (by decide) uf_RX1_11 rfl rfl ?_
      refine G.aload_n C 0 dX1_bore_30 rfl rfl ?_
      refine G.get (g := 18) (i := i) C 1 none dX1_bore_31 hi rfl rfl uX_X1 (by decide) uf_RX1_15 rfl rfl ?_
      refine G.iload_n C 1 dX1_bore_34 rfl rfl ?_
      have hin_35 : vp_in (σ.1 18 i 1) 6 := by
        rw [hh]; exact vp_in_nI (by omega) (by decide)
      refine G.iast (g := 19) (i := i) (n := 6) C dX1_bore_35 hi rfl hin_35 w_ast_19 ?_
      refine G.aload_n C 0 dX1_bore_36 rfl rfl ?_
      refine G.dup C dX1_bore_37 rfl ?_
      refine G.get (g := 18) (i := i) C 1 none dX1_bore_38 hi rfl rfl uX_X1 (by decide) uf_RX1_15 rfl rfl ?_
      refine G.iconst (v := 1) C dX1_bore_41 (by decide) ?_
      refine G.iadd C dX1_bore_42 ?_
      refine G.put (g := 18) (i := i) C 1 none dX1_bore_43 hi rfl rfl uX_X1 tyX1 tyX1_ok nmX1 (by decide) uf_RX1_15 rfl rfl (by decide +kernel) (Nat.le_of_ble_eq_true rfl) w_up_18_1 ?_
      refine G.aload_n C 0 dX1_bore_46 rfl rfl ?_
      refine G.get (g := 18) (i := i) C 1 none dX1_bore_47 hi rfl rfl uX_X1 (by decide) uf_RX1_15 rfl rfl ?_
      subst hQ
      exact G.iret C hr dX1_bore_50 (by
          refine Or.inr (Or.inr ⟨Bool.eq_false_iff.mpr b_3, hh9, ?_, ?_⟩)
          · rw [wUp_ng (by decide), hh, nI_clamp (by omega), nI_1]
          · rw [wUp_eq, wUp_ng (by decide), hh, nI_1])
    · have hh9 : 6 ≤ h := by
        rw [hh] at c_20
        rcases Nat.lt_or_ge h 6 with q | q
        · exact absurd (nI_lt q (by decide)) c_20
        · exact q
      refine G.bipush (v := -3) C dX1_bore_23 (by decide) ?_
      subst hQ
      exact G.iret C hr dX1_bore_25 (by
          exact Or.inr (Or.inl ⟨Bool.eq_false_iff.mpr b_3, hh9, rfl, rfl⟩))
  · have b_3 := wb_1 e_3 c_6
    have b9 := b_3
    refine G.aload_n C 0 dX1_bore_9 rfl rfl ?_
    refine G.get (g := 18) (i := i) C 1 none dX1_bore_10 hi rfl rfl uX_X1 (by decide) uf_RX1_15 rfl rfl ?_
    subst hQ
    exact G.iret C hr dX1_bore_13 (by
        exact Or.inl ⟨b_3, rfl, hh⟩)
set_option maxHeartbeats 4000000 in
set_option maxRecDepth 100000 in
theorem ok_X1_fitting {w : wD} (hw : wOK w) (σ : wSt) (i j : Nat) (s : Int32) (hi : i < wN 15) (hj9 : j < wN 18) {h b : Nat} (hh : σ.1 15 i 1 = nI h) (hh6 : h ≤ 6) (hb : σ.1 18 j 1 = nI b) (hb6 : b ≤ 6) : MI w yX1_fitting cX1_fitting 5 (some .int) 2 44 [.ref (w.2.2.2.1 15 i), .ref (w.2.2.2.1 18 j), .int s] σ (fun r τ => σ = τ ∧ r = fitU (σ.1 16 i) (σ.1 19 j) b s h) := by
  refine MI.of hw (by decide +kernel) (Nat.le_of_ble_eq_true rfl) (fun x C hr => ?_)
  suffices key : ∀ Q, Q = QI w x (fun r τ => σ = τ ∧ r = fitU (σ.1 16 i) (σ.1 19 j) b s h) → G w x 5 Q 0 [(0, .ref (w.2.2.2.1 15 i)), (1, .ref (w.2.2.2.1 18 j)), (2, .int s)] [] σ from key _ rfl
  intro Q hQ
  refine G.iconst (v := 0) C dX1_fitting_0 (by decide) ?_
  refine G.istore_n (L1 := [(3, .int 0), (0, .ref (w.2.2.2.1 15 i)), (1, .ref (w.2.2.2.1 18 j)), (2, .int s)]) C dX1_fitting_1 rfl (by decide) rfl ?_
  refine G.iconst (v := 0) C dX1_fitting_2 (by decide) ?_
  refine G.istore (L1 := [(4, .int 0), (3, .int 0), (0, .ref (w.2.2.2.1 15 i)), (1, .ref (w.2.2.2.1 18 j)), (2, .int s)]) C dX1_fitting_3 (by decide) rfl ?_
  have cut_5 : ∀ (m9 : Nat) (k : Nat) (x4 x3 : Int32), k ≤ h → h < k + m9 → x4 = nI k → x3 = fitU (σ.1 16 i) (σ.1 19 j) b s k → G w x 5 Q 5 [(4, .int x4), (3, .int x3), (0, .ref (w.2.2.2.1 15 i)), (1, .ref (w.2.2.2.1 18 j)), (2, .int s)] [] σ := by
    intro m9
    induction m9 with
    | zero =>
      intro k x4 x3 hk hm hx4 hx3
      exfalso
      omega
    | succ m9 ih =>
      intro k x4 x3 hk hm hx4 hx3
      subst hx4
      subst hx3
      refine G.iload C 0 dX1_fitting_5 rfl ?_
      refine G.aload_n C 2 dX1_fitting_7 rfl rfl ?_
      refine G.get (g := 15) (i := i) C 1 none dX1_fitting_8 hi rfl rfl uX_X1 (by decide) uf_RX1_15 rfl rfl ?_
      refine G.icmp_ge (tgt := 40) C dX1_fitting_11 (by decide) (fun c_11 => ?_) (fun c_11 => ?_)
      · have hkn : k = h := by
          rw [hh, nI_leI (by omega) (by omega)] at c_11; omega
        refine G.iload_n C 1 dX1_fitting_40 rfl rfl ?_
        subst hQ
        exact G.iret C hr dX1_fitting_41 (by
            rw [hkn]
            exact ⟨rfl, rfl⟩)
      · have hkn : k < h := by
          rw [hh, nI_leI (by omega) (by omega)] at c_11; omega
        refine G.aload_n C 3 dX1_fitting_14 rfl rfl ?_
        refine G.aload_n C 2 dX1_fitting_15 rfl rfl ?_
        refine G.get (g := 15) (i := i) C 0 none dX1_fitting_16 hi rfl rfl uX_X1 (by decide) uf_RX1_11 rfl rfl ?_
        refine G.iload C 0 dX1_fitting_19 rfl ?_
        have hin_21 : vp_in (nI k) 6 := by
          exact vp_in_nI (by omega) (by decide)
        refine G.iald (g := 16) (i := i) (n := 6) C dX1_fitting_21 hi rfl hin_21 ?_
        refine G.iload_n C 4 dX1_fitting_22 rfl rfl ?_
        refine G.iadd C dX1_fitting_23 ?_
        refine G.iconst (v := 1) C dX1_fitting_24 (by decide) ?_
        have hM_0 := ok_X1_isWithin_18 hw σ j ((σ.1 16 i (nI k).toNatClampNeg) + s) 1 hj9 hb hb6
        refine G.callV C (g := 18) (i := j) none hM_0 dX1_fitting_25 hj9 rfl rfl rfl uv_X1_isWithin ul_RX1_19 rfl rfl (by decide) (Nat.le_of_ble_eq_true rfl) (fun r_25 τ_25 h_25 => ?_)
        obtain ⟨h_25, e_25⟩ := h_25; subst h_25
        refine G.if_eq (tgt := 34) C dX1_fitting_28 (by decide) (fun c_28 => ?_) (fun c_28 => ?_)
        · have b_25 := wb_0 e_25 c_28
          obtain ⟨x4_34, ex4_34⟩ : ∃ z : Int32, z = (nI k) + 1 := ⟨_, rfl⟩
          refine G.iinc (v := x4_34) (L1 := [(4, .int x4_34), (3, .int (fitU (σ.1 16 i) (σ.1 19 j) b s k)), (0, .ref (w.2.2.2.1 15 i)), (1, .ref (w.2.2.2.1 18 j)), (2, .int s)]) C 0 dX1_fitting_34 rfl (by rw [ex4_34]; rfl) (by decide) rfl ?_
          refine G.goto (tgt := 5) C dX1_fitting_37 (by decide) ?_
          refine ih  (k + 1) _ _ ?_ ?_ ?_ ?_
          · omega
          · omega
          · rw [ex4_34]; exact nI_1 k
          · rw [nI_clamp (by omega)] at b_25
            rw [fitU_f b_25]
        · have b_25 := wb_1 e_25 c_28
          obtain ⟨x3_31, ex3_31⟩ : ∃ z : Int32, z = (fitU (σ.1 16 i) (σ.1 19 j) b s k) + 1 := ⟨_, rfl⟩
          refine G.iinc (v := x3_31) (L1 := [(3, .int x3_31), (4, .int (nI k)), (0, .ref (w.2.2.2.1 15 i)), (1, .ref (w.2.2.2.1 18 j)), (2, .int s)]) C 1 dX1_fitting_31 rfl (by rw [ex3_31]; rfl) (by decide) rfl ?_
          obtain ⟨x4_34, ex4_34⟩ : ∃ z : Int32, z = (nI k) + 1 := ⟨_, rfl⟩
          refine G.iinc (v := x4_34) (L1 := [(4, .int x4_34), (3, .int x3_31), (0, .ref (w.2.2.2.1 15 i)), (1, .ref (w.2.2.2.1 18 j)), (2, .int s)]) C 1 dX1_fitting_34 rfl (by rw [ex4_34]; rfl) (by decide) rfl ?_
          refine G.goto (tgt := 5) C dX1_fitting_37 (by decide) ?_
          refine ih  (k + 1) _ _ ?_ ?_ ?_ ?_
          · omega
          · omega
          · rw [ex4_34]; exact nI_1 k
          · rw [nI_clamp (by omega)] at b_25
            rw [ex3_31, fitU_t b_25]
  refine cut_5 (h + 1) 0 _ _ ?_ ?_ ?_ ?_
  · omega
  · omega
  · rfl
  · rfl
set_option maxHeartbeats 4000000 in
set_option maxRecDepth 100000 in
theorem ok_X2_strike {w : wD} (hw : wOK w) (σ : wSt) (i : Nat) (a b c d : Int32) (hi : i < wN 14)  : MV w yX2_strike cX2_strike 5 none 0 0 [.ref (w.2.2.2.1 14 i), .int a, .int b, .int c, .int d] σ (fun τ => wUp (wUp (wUp (wUp σ 14 i 0 a) 14 i 1 b) 14 i 2 c) 14 i 3 d = τ) := by
  refine MV.of hw (by decide +kernel) (Nat.le_of_ble_eq_true rfl) (fun x C hr => ?_)
  suffices key : ∀ Q, Q = QV w x (fun τ => wUp (wUp (wUp (wUp σ 14 i 0 a) 14 i 1 b) 14 i 2 c) 14 i 3 d = τ) → G w x 5 Q 0 [(0, .ref (w.2.2.2.1 14 i)), (1, .int a), (2, .int b), (3, .int c), (4, .int d)] [] σ from key _ rfl
  intro Q hQ
  refine G.aload_n C 0 dX2_strike_0 rfl rfl ?_
  refine G.iload_n C 1 dX2_strike_1 rfl rfl ?_
  refine G.put (g := 14) (i := i) C 0 none dX2_strike_2 hi rfl rfl uX_X2 tyX2 tyX2_ok nmX2 (by decide) uf_RX2_9 rfl rfl (by decide +kernel) (Nat.le_of_ble_eq_true rfl) w_up_14_0 ?_
  refine G.aload_n C 0 dX2_strike_5 rfl rfl ?_
  refine G.iload_n C 2 dX2_strike_6 rfl rfl ?_
  refine G.put (g := 14) (i := i) C 1 none dX2_strike_7 hi rfl rfl uX_X2 tyX2 tyX2_ok nmX2 (by decide) uf_RX2_15 rfl rfl (by decide +kernel) (Nat.le_of_ble_eq_true rfl) w_up_14_1 ?_
  refine G.aload_n C 0 dX2_strike_10 rfl rfl ?_
  refine G.iload_n C 3 dX2_strike_11 rfl rfl ?_
  refine G.put (g := 14) (i := i) C 2 none dX2_strike_12 hi rfl rfl uX_X2 tyX2 tyX2_ok nmX2 (by decide) uf_RX2_18 rfl rfl (by decide +kernel) (Nat.le_of_ble_eq_true rfl) w_up_14_2 ?_
  refine G.aload_n C 0 dX2_strike_15 rfl rfl ?_
  refine G.iload C 4 dX2_strike_16 rfl ?_
  refine G.put (g := 14) (i := i) C 3 none dX2_strike_18 hi rfl rfl uX_X2 tyX2 tyX2_ok nmX2 (by decide) uf_RX2_21 rfl rfl (by decide +kernel) (Nat.le_of_ble_eq_true rfl) w_up_14_3 ?_
  subst hQ
  exact G.vret C hr dX2_strike_21 (by
      exact rfl)
set_option maxHeartbeats 4000000 in
set_option maxRecDepth 100000 in
theorem ok_X2_lookOf {w : wD} (hw : wOK w) (σ : wSt) (i : Nat) (a : Int32) (hi : i < wN 14)  : MI w yX2_lookOf cX2_lookOf 2 (some .int) 1 21 [.ref (w.2.2.2.1 14 i), .int a] σ (fun r τ => σ = τ ∧ r = lookF (σ.1 14 i 0) (σ.1 14 i 1) a) := by
  refine MI.of hw (by decide +kernel) (Nat.le_of_ble_eq_true rfl) (fun x C hr => ?_)
  suffices key : ∀ Q, Q = QI w x (fun r τ => σ = τ ∧ r = lookF (σ.1 14 i 0) (σ.1 14 i 1) a) → G w x 2 Q 0 [(0, .ref (w.2.2.2.1 14 i)), (1, .int a)] [] σ from key _ rfl
  intro Q hQ
  refine G.aload_n C 0 dX2_lookOf_0 rfl rfl ?_
  refine G.get (g := 14) (i := i) C 0 none dX2_lookOf_1 hi rfl rfl uX_X2 (by decide) uf_RX2_9 rfl rfl ?_
  refine G.iload_n C 1 dX2_lookOf_4 rfl rfl ?_
  have hM_0 := ok_X5_has hw σ (σ.1 14 i 0) a
  refine G.callS C (some "PlateRoom") hM_0 dX2_lookOf_5 us_X5_has unm_RX2_37 rfl rfl (by decide) (Nat.le_of_ble_eq_true rfl) (fun r_5 τ_5 h_5 => ?_)
  obtain ⟨h_5, e_5⟩ := h_5; subst h_5
  refine G.if_eq (tgt := 13) C dX2_lookOf_8 (by decide) (fun c_8 => ?_) (fun c_8 => ?_)
  · have b_5 := wb_0 e_5 c_8
    refine G.aload_n C 0 dX2_lookOf_13 rfl rfl ?_
    refine G.get (g := 14) (i := i) C 1 none dX2_lookOf_14 hi rfl rfl uX_X2 (by decide) uf_RX2_15 rfl rfl ?_
    refine G.iload_n C 1 dX2_lookOf_17 rfl rfl ?_
    have hM_1 := ok_X5_has hw σ (σ.1 14 i 1) a
    refine G.callS C (some "PlateRoom") hM_1 dX2_lookOf_18 us_X5_has unm_RX2_37 rfl rfl (by decide) (Nat.le_of_ble_eq_true rfl) (fun r_18 τ_18 h_18 => ?_)
    obtain ⟨h_18, e_18⟩ := h_18; subst h_18
    refine G.if_eq (tgt := 28) C dX2_lookOf_21 (by decide) (fun c_21 => ?_) (fun c_21 => ?_)
    · have b_18 := wb_0 e_18 c_21
      refine G.iconst (v := 0) C dX2_lookOf_28 (by decide) ?_
      subst hQ
      exact G.iret C hr dX2_lookOf_29 (by
          exact ⟨rfl, ((if_neg b_5).trans (if_neg b_18)).symm⟩)
    · have b_18 := wb_1 e_18 c_21
      refine G.iconst (v := 2) C dX2_lookOf_24 (by decide) ?_
      refine G.goto (tgt := 29) C dX2_lookOf_25 (by decide) ?_
      subst hQ
      exact G.iret C hr dX2_lookOf_29 (by
          exact ⟨rfl, ((if_neg b_5).trans (if_pos b_18)).symm⟩)
  · have b_5 := wb_1 e_5 c_8
    refine G.iconst (v := 1) C dX2_lookOf_11 (by decide) ?_
    subst hQ
    exact G.iret C hr dX2_lookOf_12 (by
        exact ⟨rfl, (if_pos b_5).symm⟩)
set_option maxHeartbeats 4000000 in
set_option maxRecDepth 100000 in
theorem ok_X2_look {w : wD} (hw : wOK w) (σ : wSt) (i : Nat) (a b : Int32) (hi : i < wN 14)  : MV w yX2_look cX2_look 4 none 0 0 [.ref (w.2.2.2.1 14 i), .int a, .int b] σ (fun τ => wUp (wUp σ 14 i 0 (lookT (σ.1 14 i 0) a b)) 14 i 1 (lookG (σ.1 14 i 1) a b) = τ) := by
  refine MV.of hw (by decide +kernel) (Nat.le_of_ble_eq_true rfl) (fun x C hr => ?_)
  suffices key : ∀ Q, Q = QV w x (fun τ => wUp (wUp σ 14 i 0 (lookT (σ.1 14 i 0) a b)) 14 i 1 (lookG (σ.1 14 i 1) a b) = τ) → G w x 4 Q 0 [(0, .ref (w.2.2.2.1 14 i)), (1, .int a), (2, .int b)] [] σ from key _ rfl
  intro Q hQ
  refine G.iconst (v := 1) C dX2_look_0 (by decide) ?_
  refine G.iload_n C 1 dX2_look_1 rfl rfl ?_
  refine G.ishl C dX2_look_2 ?_
  refine G.topi (fun x3_3 ex3_3 => ?_)
  refine G.istore_n (L1 := [(3, .int x3_3), (0, .ref (w.2.2.2.1 14 i)), (1, .int a), (2, .int b)]) C dX2_look_3 rfl (by decide) rfl ?_
  refine G.aload_n C 1 dX2_look_4 rfl rfl ?_
  refine G.iload_n C 3 dX2_look_5 rfl rfl ?_
  refine G.iconst (v := 1) C dX2_look_6 (by decide) ?_
  refine G.icmp_ne (tgt := 19) C dX2_look_7 (by decide) (fun c_7 => ?_) (fun c_7 => ?_)
  · refine G.aload_n C 1 dX2_look_19 rfl rfl ?_
    refine G.get (g := 14) (i := i) C 0 none dX2_look_20 hi rfl rfl uX_X2 (by decide) uf_RX2_9 rfl rfl ?_
    refine G.iload_n C 0 dX2_look_23 rfl rfl ?_
    refine G.iconst (v := -1) C dX2_look_24 (by decide) ?_
    refine G.ixor C dX2_look_25 ?_
    refine G.iand C dX2_look_26 ?_
    refine G.put (g := 14) (i := i) C 0 none dX2_look_27 hi rfl rfl uX_X2 tyX2 tyX2_ok nmX2 (by decide) uf_RX2_9 rfl rfl (by decide +kernel) (Nat.le_of_ble_eq_true rfl) w_up_14_0 ?_
    refine G.aload_n C 1 dX2_look_30 rfl rfl ?_
    refine G.iload_n C 3 dX2_look_31 rfl rfl ?_
    refine G.iconst (v := 2) C dX2_look_32 (by decide) ?_
    refine G.icmp_ne (tgt := 45) C dX2_look_33 (by decide) (fun c_33 => ?_) (fun c_33 => ?_)
    · refine G.aload_n C 1 dX2_look_45 rfl rfl ?_
      refine G.get (g := 14) (i := i) C 1 none dX2_look_46 hi rfl rfl uX_X2 (by decide) uf_RX2_15 rfl rfl ?_
      refine G.iload_n C 0 dX2_look_49 rfl rfl ?_
      refine G.iconst (v := -1) C dX2_look_50 (by decide) ?_
      refine G.ixor C dX2_look_51 ?_
      refine G.iand C dX2_look_52 ?_
      refine G.put (g := 14) (i := i) C 1 none dX2_look_53 hi rfl rfl uX_X2 tyX2 tyX2_ok nmX2 (by decide) uf_RX2_15 rfl rfl (by decide +kernel) (Nat.le_of_ble_eq_true rfl) w_up_14_1 ?_
      subst hQ
      exact G.vret C hr dX2_look_56 (by
          subst ex3_3
          first | (simp [lookT, lookG, c_7, c_33, wUp_ne]; done) | exact absurd (c_7.symm.trans c_33) (by decide))
    · refine G.aload_n C 1 dX2_look_36 rfl rfl ?_
      refine G.get (g := 14) (i := i) C 1 none dX2_look_37 hi rfl rfl uX_X2 (by decide) uf_RX2_15 rfl rfl ?_
      refine G.iload_n C 0 dX2_look_40 rfl rfl ?_
      refine G.ior C dX2_look_41 ?_
      refine G.goto (tgt := 53) C dX2_look_42 (by decide) ?_
      refine G.put (g := 14) (i := i) C 1 none dX2_look_53 hi rfl rfl uX_X2 tyX2 tyX2_ok nmX2 (by decide) uf_RX2_15 rfl rfl (by decide +kernel) (Nat.le_of_ble_eq_true rfl) w_up_14_1 ?_
      subst hQ
      exact G.vret C hr dX2_look_56 (by
          subst ex3_3
          first | (simp [lookT, lookG, c_7, c_33, wUp_ne]; done) | exact absurd (c_7.symm.trans c_33) (by decide))
  · refine G.aload_n C 1 dX2_look_10 rfl rfl ?_
    refine G.get (g := 14) (i := i) C 0 none dX2_look_11 hi rfl rfl uX_X2 (by decide) uf_RX2_9 rfl rfl ?_
    refine G.iload_n C 0 dX2_look_14 rfl rfl ?_
    refine G.ior C dX2_look_15 ?_
    refine G.goto (tgt := 27) C dX2_look_16 (by decide) ?_
    refine G.put (g := 14) (i := i) C 0 none dX2_look_27 hi rfl rfl uX_X2 tyX2 tyX2_ok nmX2 (by decide) uf_RX2_9 rfl rfl (by decide +kernel) (Nat.le_of_ble_eq_true rfl) w_up_14_0 ?_
    refine G.aload_n C 1 dX2_look_30 rfl rfl ?_
    refine G.iload_n C 3 dX2_look_31 rfl rfl ?_
    refine G.iconst (v := 2) C dX2_look_32 (by decide) ?_
    refine G.icmp_ne (tgt := 45) C dX2_look_33 (by decide) (fun c_33 => ?_) (fun c_33 => ?_)
    · refine G.aload_n C 1 dX2_look_45 rfl rfl ?_
      refine G.get (g := 14) (i := i) C 1 none dX2_look_46 hi rfl rfl uX_X2 (by decide) uf_RX2_15 rfl rfl ?_
      refine G.iload_n C 0 dX2_look_49 rfl rfl ?_
      refine G.iconst (v := -1) C dX2_look_50 (by decide) ?_
      refine G.ixor C dX2_look_51 ?_
      refine G.iand C dX2_look_52 ?_
      refine G.put (g := 14) (i := i) C 1 none dX2_look_53 hi rfl rfl uX_X2 tyX2 tyX2_ok nmX2 (by decide) uf_RX2_15 rfl rfl (by decide +kernel) (Nat.le_of_ble_eq_true rfl) w_up_14_1 ?_
      subst hQ
      exact G.vret C hr dX2_look_56 (by
          subst ex3_3
          first | (simp [lookT, lookG, c_7, c_33, wUp_ne]; done) | exact absurd (c_7.symm.trans c_33) (by decide))
    · refine G.aload_n C 1 dX2_look_36 rfl rfl ?_
      refine G.get (g := 14) (i := i) C 1 none dX2_look_37 hi rfl rfl uX_X2 (by decide) uf_RX2_15 rfl rfl ?_
      refine G.iload_n C 0 dX2_look_40 rfl rfl ?_
      refine G.ior C dX2_look_41 ?_
      refine G.goto (tgt := 53) C dX2_look_42 (by decide) ?_
      refine G.put (g := 14) (i := i) C 1 none dX2_look_53 hi rfl rfl uX_X2 tyX2 tyX2_ok nmX2 (by decide) uf_RX2_15 rfl rfl (by decide +kernel) (Nat.le_of_ble_eq_true rfl) w_up_14_1 ?_
      subst hQ
      exact G.vret C hr dX2_look_56 (by
          subst ex3_3
          first | (simp [lookT, lookG, c_7, c_33, wUp_ne]; done) | exact absurd (c_7.symm.trans c_33) (by decide))
set_option maxHeartbeats 4000000 in
set_option maxRecDepth 100000 in
theorem ok_X0_addMap {w : wD} (hw : wOK w) (σ : wSt) (a b : Int32) {c : Nat} (hc : σ.1 2 0 4 = nI c) (hc8 : c ≤ 8) : MI w yX0_addMap cX0_addMap 3 (some .int) 0 0 [.ref (w.2.2.2.1 2 0), .int a, .int b] σ (fun r τ => (8 ≤ c ∧ σ = τ ∧ r = -3) ∨ (c < 8 ∧ wUp (wUp (wUp σ 12 0 c a) 13 0 c b) 2 0 4 (nI (c + 1)) = τ ∧ r = nI c)) := by
  refine MI.of hw (by decide +kernel) (Nat.le_of_ble_eq_true rfl) (fun x C hr => ?_)
  suffices key : ∀ Q, Q = QI w x (fun r τ => (8 ≤ c ∧ σ = τ ∧ r = -3) ∨ (c < 8 ∧ wUp (wUp (wUp σ 12 0 c a) 13 0 c b) 2 0 4 (nI (c + 1)) = τ ∧ r = nI c)) → G w x 3 Q 0 [(0, .ref (w.2.2.2.1 2 0)), (1, .int a), (2, .int b)] [] σ from key _ rfl
  intro Q hQ
  refine G.aload_n C 0 dX0_addMap_0 rfl rfl ?_
  refine G.get (g := 2) (i := 0) C 4 none dX0_addMap_1 (by decide) rfl rfl uX_X0 (by decide) uf_RX0_25 rfl rfl ?_
  refine G.bipush (v := 8) C dX0_addMap_4 (by decide) ?_
  refine G.icmp_lt (tgt := 12) C dX0_addMap_6 (by decide) (fun c_6 => ?_) (fun c_6 => ?_)
  · have hh9 : c < 8 := by
      rw [hc] at c_6
      exact (nI_ltI (by omega) (by decide)).mp c_6
    refine G.aload_n C 0 dX0_addMap_12 rfl rfl ?_
    refine G.get (g := 2) (i := 0) C 2 none dX0_addMap_13 (by decide) rfl rfl uX_X0 (by decide) uf_RX0_18 rfl rfl ?_
    refine G.aload_n C 0 dX0_addMap_16 rfl rfl ?_
    refine G.get (g := 2) (i := 0) C 4 none dX0_addMap_17 (by decide) rfl rfl uX_X0 (by decide) uf_RX0_25 rfl rfl ?_
    refine G.iload_n C 1 dX0_addMap_20 rfl rfl ?_
    have hin_21 : vp_in (σ.1 2 0 4) 8 := by
      rw [hc]; exact vp_in_nI (by omega) (by decide)
    refine G.iast (g := 12) (i := 0) (n := 8) C dX0_addMap_21 (by decide) rfl hin_21 w_ast_12 ?_
    refine G.aload_n C 0 dX0_addMap_22 rfl rfl ?_
    refine G.get (g := 2) (i := 0) C 3 none dX0_addMap_23 (by decide) rfl rfl uX_X0 (by decide) uf_RX0_22 rfl rfl ?_
    refine G.aload_n C 0 dX0_addMap_26 rfl rfl ?_
    refine G.get (g := 2) (i := 0) C 4 none dX0_addMap_27 (by decide) rfl rfl uX_X0 (by decide) uf_RX0_25 rfl rfl ?_
    refine G.iload_n C 2 dX0_addMap_30 rfl rfl ?_
    have hin_31 : vp_in ((wUp σ 12 0 (σ.1 2 0 4).toNatClampNeg a).1 2 0 4) 8 := by
      rw [wUp_ng (by decide), hc]; exact vp_in_nI (by omega) (by decide)
    refine G.iast (g := 13) (i := 0) (n := 8) C dX0_addMap_31 (by decide) rfl hin_31 w_ast_13 ?_
    refine G.aload_n C 0 dX0_addMap_32 rfl rfl ?_
    refine G.dup C dX0_addMap_33 rfl ?_
    refine G.get (g := 2) (i := 0) C 4 none dX0_addMap_34 (by decide) rfl rfl uX_X0 (by decide) uf_RX0_25 rfl rfl ?_
    refine G.dup_x1 C dX0_addMap_37 rfl rfl ?_
    refine G.iconst (v := 1) C dX0_addMap_38 (by decide) ?_
    refine G.iadd C dX0_addMap_39 ?_
    refine G.put (g := 2) (i := 0) C 4 none dX0_addMap_40 (by decide) rfl rfl uX_X0 tyX0 tyX0_ok nmX0 (by decide) uf_RX0_25 rfl rfl (by decide +kernel) (Nat.le_of_ble_eq_true rfl) w_up_2_4 ?_
    subst hQ
    exact G.iret C hr dX0_addMap_43 (by
        refine Or.inr ⟨hh9, ?_, ?_⟩
        · simp only [wUp_ng (show 2 ≠ 12 by decide), wUp_ng (show 2 ≠ 13 by decide), hc, nI_clamp (show c < 2 ^ 31 by omega), nI_1]
        · simp only [wUp_ng (show 2 ≠ 12 by decide), wUp_ng (show 2 ≠ 13 by decide), hc])
  · have hh9 : 8 ≤ c := by
      rw [hc] at c_6
      rcases Nat.lt_or_ge c 8 with q | q
      · exact absurd (nI_lt q (by decide)) c_6
      · exact q
    refine G.bipush (v := -3) C dX0_addMap_9 (by decide) ?_
    subst hQ
    exact G.iret C hr dX0_addMap_11 (by
        exact Or.inl ⟨hh9, rfl, rfl⟩)
set_option maxHeartbeats 4000000 in
set_option maxRecDepth 100000 in
theorem ok_X0_mayComeFrom {w : wD} (hw : wOK w) (σ : wSt) (a b : Int32) {c : Nat} (hc : σ.1 2 0 4 = nI c) (hc8 : c ≤ 8) : MI w yX0_mayComeFrom cX0_mayComeFrom 3 (some .boolean) 1 21 [.ref (w.2.2.2.1 2 0), .int a, .int b] σ (fun r τ => σ = τ ∧ r = wb (mayU (σ.1 12 0) (σ.1 2 0 4) a b)) := by
  refine MI.of hw (by decide +kernel) (Nat.le_of_ble_eq_true rfl) (fun x C hr => ?_)
  suffices key : ∀ Q, Q = QI w x (fun r τ => σ = τ ∧ r = wb (mayU (σ.1 12 0) (σ.1 2 0 4) a b)) → G w x 3 Q 0 [(0, .ref (w.2.2.2.1 2 0)), (1, .int a), (2, .int b)] [] σ from key _ rfl
  intro Q hQ
  refine G.aload_n C 0 dX0_mayComeFrom_0 rfl rfl ?_
  refine G.iload_n C 1 dX0_mayComeFrom_1 rfl rfl ?_
  have hM_0 := ok_X0_hasMap hw σ a
  refine G.callV C (g := 2) (i := 0) none hM_0 dX0_mayComeFrom_2 (by decide) rfl rfl rfl uv_X0_hasMap ul_RX0_28 rfl rfl (by decide) (Nat.le_of_ble_eq_true rfl) (fun r_2 τ_2 h_2 => ?_)
  obtain ⟨h_2, e_2⟩ := h_2; subst h_2
  refine G.if_ne (tgt := 10) C dX0_mayComeFrom_5 (by decide) (fun c_5 => ?_) (fun c_5 => ?_)
  · have b_2 := wb_1 e_2 c_5
    refine G.iload_n C 2 dX0_mayComeFrom_10 rfl rfl ?_
    refine G.bipush (v := -9) C dX0_mayComeFrom_11 (by decide) ?_
    refine G.icmp_eq (tgt := 39) C dX0_mayComeFrom_13 (by decide) (fun c_13 => ?_) (fun c_13 => ?_)
    · refine G.iconst (v := 1) C dX0_mayComeFrom_39 (by decide) ?_
      refine G.goto (tgt := 44) C dX0_mayComeFrom_40 (by decide) ?_
      subst hQ
      exact G.zret C hr (by rfl) dX0_mayComeFrom_44 (by
          exact ⟨rfl, (wb_t ⟨b_2, Or.inl c_13⟩).symm⟩)
    · refine G.aload_n C 0 dX0_mayComeFrom_16 rfl rfl ?_
      refine G.iload_n C 2 dX0_mayComeFrom_17 rfl rfl ?_
      have hM_1 := ok_X0_hasMap hw σ b
      refine G.callV C (g := 2) (i := 0) none hM_1 dX0_mayComeFrom_18 (by decide) rfl rfl rfl uv_X0_hasMap ul_RX0_28 rfl rfl (by decide) (Nat.le_of_ble_eq_true rfl) (fun r_18 τ_18 h_18 => ?_)
      obtain ⟨h_18, e_18⟩ := h_18; subst h_18
      refine G.if_eq (tgt := 43) C dX0_mayComeFrom_21 (by decide) (fun c_21 => ?_) (fun c_21 => ?_)
      · have b_18 := wb_0 e_18 c_21
        refine G.iconst (v := 0) C dX0_mayComeFrom_43 (by decide) ?_
        subst hQ
        exact G.zret C hr (by rfl) dX0_mayComeFrom_44 (by
            exact ⟨rfl, (wb_f (fun h => h.2.elim c_13 (fun q => b_18 q.1))).symm⟩)
      · have b_18 := wb_1 e_18 c_21
        refine G.aload_n C 0 dX0_mayComeFrom_24 rfl rfl ?_
        refine G.get (g := 2) (i := 0) C 2 none dX0_mayComeFrom_25 (by decide) rfl rfl uX_X0 (by decide) uf_RX0_18 rfl rfl ?_
        refine G.iload_n C 2 dX0_mayComeFrom_28 rfl rfl ?_
        have hin_29 : vp_in b 8 := by
          exact vp_ofc b_18 hc hc8 (by decide)
        refine G.iald (g := 12) (i := 0) (n := 8) C dX0_mayComeFrom_29 (by decide) rfl hin_29 ?_
        refine G.aload_n C 0 dX0_mayComeFrom_30 rfl rfl ?_
        refine G.get (g := 2) (i := 0) C 2 none dX0_mayComeFrom_31 (by decide) rfl rfl uX_X0 (by decide) uf_RX0_18 rfl rfl ?_
        refine G.iload_n C 1 dX0_mayComeFrom_34 rfl rfl ?_
        have hin_35 : vp_in a 8 := by
          exact vp_ofc b_2 hc hc8 (by decide)
        refine G.iald (g := 12) (i := 0) (n := 8) C dX0_mayComeFrom_35 (by decide) rfl hin_35 ?_
        refine G.icmp_ge (tgt := 43) C dX0_mayComeFrom_36 (by decide) (fun c_36 => ?_) (fun c_36 => ?_)
        · refine G.iconst (v := 0) C dX0_mayComeFrom_43 (by decide) ?_
          subst hQ
          exact G.zret C hr (by rfl) dX0_mayComeFrom_44 (by
              exact ⟨rfl, (wb_f (fun h => h.2.elim c_13 (fun q => Int32.not_lt.mpr c_36 q.2))).symm⟩)
        · refine G.iconst (v := 1) C dX0_mayComeFrom_39 (by decide) ?_
          refine G.goto (tgt := 44) C dX0_mayComeFrom_40 (by decide) ?_
          subst hQ
          exact G.zret C hr (by rfl) dX0_mayComeFrom_44 (by
              exact ⟨rfl, (wb_t ⟨b_2, Or.inr ⟨b_18, Int32.not_le.mp c_36⟩⟩).symm⟩)
  · have b_2 := wb_0 e_2 c_5
    refine G.iconst (v := 0) C dX0_mayComeFrom_8 (by decide) ?_
    subst hQ
    exact G.zret C hr (by rfl) dX0_mayComeFrom_9 (by
        exact ⟨rfl, (wb_f (fun h => b_2 h.1)).symm⟩)
set_option maxHeartbeats 4000000 in
set_option maxRecDepth 100000 in
theorem ok_X0_costOf {w : wD} (hw : wOK w) (σ : wSt) (a b : Int32) {c : Nat} (hc : σ.1 2 0 4 = nI c) (hc8 : c ≤ 8) (hE : ∀ k, k < c → rng12 (σ.1 13 0 k)) (ha : inN (σ.1 2 0 4) a) : MI w yX0_costOf cX0_costOf 5 (some .int) 1 21 [.ref (w.2.2.2.1 2 0), .int a, .int b] σ (fun r τ => σ = τ ∧ r = costU (σ.1 13 0) (σ.1 2 0 0) (σ.1 2 0 1) (σ.1 2 0 4) a b) := by
  refine MI.of hw (by decide +kernel) (Nat.le_of_ble_eq_true rfl) (fun x C hr => ?_)
  suffices key : ∀ Q, Q = QI w x (fun r τ => σ = τ ∧ r = costU (σ.1 13 0) (σ.1 2 0 0) (σ.1 2 0 1) (σ.1 2 0 4) a b) → G w x 5 Q 0 [(0, .ref (w.2.2.2.1 2 0)), (1, .int a), (2, .int b)] [] σ from key _ rfl
  intro Q hQ
  refine G.aload_n C 0 dX0_costOf_0 rfl rfl ?_
  refine G.iload_n C 2 dX0_costOf_1 rfl rfl ?_
  have hM_0 := ok_X0_hasMap hw σ b
  refine G.callV C (g := 2) (i := 0) none hM_0 dX0_costOf_2 (by decide) rfl rfl rfl uv_X0_hasMap ul_RX0_28 rfl rfl (by decide) (Nat.le_of_ble_eq_true rfl) (fun r_2 τ_2 h_2 => ?_)
  obtain ⟨h_2, e_2⟩ := h_2; subst h_2
  refine G.if_ne (tgt := 23) C dX0_costOf_5 (by decide) (fun c_5 => ?_) (fun c_5 => ?_)
  · have b_2 := wb_1 e_2 c_5
    refine G.aload_n C 0 dX0_costOf_23 rfl rfl ?_
    refine G.get (g := 2) (i := 0) C 3 none dX0_costOf_24 (by decide) rfl rfl uX_X0 (by decide) uf_RX0_22 rfl rfl ?_
    refine G.iload_n C 1 dX0_costOf_27 rfl rfl ?_
    have hin_28 : vp_in a 8 := by
      exact vp_ofc ha hc hc8 (by decide)
    refine G.iald (g := 13) (i := 0) (n := 8) C dX0_costOf_28 (by decide) rfl hin_28 ?_
    refine G.aload_n C 0 dX0_costOf_29 rfl rfl ?_
    refine G.get (g := 2) (i := 0) C 3 none dX0_costOf_30 (by decide) rfl rfl uX_X0 (by decide) uf_RX0_22 rfl rfl ?_
    refine G.iload_n C 2 dX0_costOf_33 rfl rfl ?_
    have hin_34 : vp_in b 8 := by
      exact vp_ofc b_2 hc hc8 (by decide)
    refine G.iald (g := 13) (i := 0) (n := 8) C dX0_costOf_34 (by decide) rfl hin_34 ?_
    refine G.iconst (v := -1) C dX0_costOf_35 (by decide) ?_
    refine G.ixor C dX0_costOf_36 ?_
    refine G.iand C dX0_costOf_37 ?_
    have hM_1 := ok_J6_bitCount_0f7a4 hw σ ((σ.1 13 0 a.toNatClampNeg) &&& ((σ.1 13 0 b.toNatClampNeg) ^^^ (-1))) (rng_and _ (hE _ (vp_ofl (hc ▸ ha) (by omega))))
    refine G.callS C none hM_1 dX0_costOf_38 us_J6_bitCount_0f7a4 ul_RX0_32 rfl rfl (by decide) (Nat.le_of_ble_eq_true rfl) (fun r_38 τ_38 h_38 => ?_)
    obtain ⟨h_38, e_38⟩ := h_38; subst h_38
    refine G.istore_n (L1 := [(3, .int r_38), (0, .ref (w.2.2.2.1 2 0)), (1, .int a), (2, .int b)]) C dX0_costOf_41 rfl (by decide) rfl ?_
    refine G.aload_n C 1 dX0_costOf_42 rfl rfl ?_
    refine G.get (g := 2) (i := 0) C 3 none dX0_costOf_43 (by decide) rfl rfl uX_X0 (by decide) uf_RX0_22 rfl rfl ?_
    refine G.iload_n C 3 dX0_costOf_46 rfl rfl ?_
    have hin_47 : vp_in b 8 := by
      exact vp_ofc b_2 hc hc8 (by decide)
    refine G.iald (g := 13) (i := 0) (n := 8) C dX0_costOf_47 (by decide) rfl hin_47 ?_
    refine G.aload_n C 1 dX0_costOf_48 rfl rfl ?_
    refine G.get (g := 2) (i := 0) C 3 none dX0_costOf_49 (by decide) rfl rfl uX_X0 (by decide) uf_RX0_22 rfl rfl ?_
    refine G.iload_n C 2 dX0_costOf_52 rfl rfl ?_
    have hin_53 : vp_in a 8 := by
      exact vp_ofc ha hc hc8 (by decide)
    refine G.iald (g := 13) (i := 0) (n := 8) C dX0_costOf_53 (by decide) rfl hin_53 ?_
    refine G.iconst (v := -1) C dX0_costOf_54 (by decide) ?_
    refine G.ixor C dX0_costOf_55 ?_
    refine G.iand C dX0_costOf_56 ?_
    have hM_2 := ok_J6_bitCount_0f7a4 hw σ ((σ.1 13 0 b.toNatClampNeg) &&& ((σ.1 13 0 a.toNatClampNeg) ^^^ (-1))) (rng_and _ (hE _ (vp_ofl (hc ▸ b_2) (by omega))))
    refine G.callS C none hM_2 dX0_costOf_57 us_J6_bitCount_0f7a4 ul_RX0_32 rfl rfl (by decide) (Nat.le_of_ble_eq_true rfl) (fun r_57 τ_57 h_57 => ?_)
    obtain ⟨h_57, e_57⟩ := h_57; subst h_57
    refine G.istore (L1 := [(4, .int r_57), (3, .int r_38), (0, .ref (w.2.2.2.1 2 0)), (1, .int a), (2, .int b)]) C dX0_costOf_60 (by decide) rfl ?_
    refine G.iload_n C 1 dX0_costOf_62 rfl rfl ?_
    refine G.iload C 0 dX0_costOf_63 rfl ?_
    refine G.aload_n C 2 dX0_costOf_65 rfl rfl ?_
    refine G.get (g := 2) (i := 0) C 0 none dX0_costOf_66 (by decide) rfl rfl uX_X0 (by decide) uf_RX0_9 rfl rfl ?_
    refine G.imul C dX0_costOf_69 ?_
    refine G.iadd C dX0_costOf_70 ?_
    subst hQ
    exact G.iret C hr dX0_costOf_71 (by
        subst_vars
        exact ⟨rfl, (if_pos b_2).symm⟩)
  · have b_2 := wb_0 e_2 c_5
    refine G.aload_n C 0 dX0_costOf_8 rfl rfl ?_
    refine G.get (g := 2) (i := 0) C 3 none dX0_costOf_9 (by decide) rfl rfl uX_X0 (by decide) uf_RX0_22 rfl rfl ?_
    refine G.iload_n C 1 dX0_costOf_12 rfl rfl ?_
    have hin_13 : vp_in a 8 := by
      exact vp_ofc ha hc hc8 (by decide)
    refine G.iald (g := 13) (i := 0) (n := 8) C dX0_costOf_13 (by decide) rfl hin_13 ?_
    have hM_3 := ok_J6_bitCount_0f7a4 hw σ (σ.1 13 0 a.toNatClampNeg) (hE _ (vp_ofl (hc ▸ ha) (by omega)))
    refine G.callS C none hM_3 dX0_costOf_14 us_J6_bitCount_0f7a4 ul_RX0_32 rfl rfl (by decide) (Nat.le_of_ble_eq_true rfl) (fun r_14 τ_14 h_14 => ?_)
    obtain ⟨h_14, e_14⟩ := h_14; subst h_14
    refine G.aload_n C 0 dX0_costOf_17 rfl rfl ?_
    refine G.get (g := 2) (i := 0) C 1 none dX0_costOf_18 (by decide) rfl rfl uX_X0 (by decide) uf_RX0_15 rfl rfl ?_
    refine G.iadd C dX0_costOf_21 ?_
    subst hQ
    exact G.iret C hr dX0_costOf_22 (by
        exact ⟨rfl, by rw [e_14]; exact (if_neg b_2).symm⟩)
set_option maxHeartbeats 4000000 in
set_option maxRecDepth 100000 in
theorem ok_X0_cheapest {w : wD} (hw : wOK w) (σ : wSt) (a : Int32) {c : Nat} (hc : σ.1 2 0 4 = nI c) (hc8 : c ≤ 8) (hE : ∀ k, k < c → rng12 (σ.1 13 0 k)) (ha : inN (σ.1 2 0 4) a) : MI w yX0_cheapest cX0_cheapest 5 (some .int) 2 45 [.ref (w.2.2.2.1 2 0), .int a] σ (fun r τ => σ = τ ∧ r = fromU (σ.1 12 0) (costU (σ.1 13 0) (σ.1 2 0 0) (σ.1 2 0 1) (σ.1 2 0 4) a) a.toNatClampNeg c) := by
  refine MI.of hw (by decide +kernel) (Nat.le_of_ble_eq_true rfl) (fun x C hr => ?_)
  suffices key : ∀ Q, Q = QI w x (fun r τ => σ = τ ∧ r = fromU (σ.1 12 0) (costU (σ.1 13 0) (σ.1 2 0 0) (σ.1 2 0 1) (σ.1 2 0 4) a) a.toNatClampNeg c) → G w x 5 Q 0 [(0, .ref (w.2.2.2.1 2 0)), (1, .int a)] [] σ from key _ rfl
  intro Q hQ
  refine G.bipush (v := -9) C dX0_cheapest_0 (by decide) ?_
  refine G.istore_n (L1 := [(2, .int (-9)), (0, .ref (w.2.2.2.1 2 0)), (1, .int a)]) C dX0_cheapest_2 rfl (by decide) rfl ?_
  refine G.aload_n C 1 dX0_cheapest_3 rfl rfl ?_
  refine G.iload_n C 2 dX0_cheapest_4 rfl rfl ?_
  refine G.bipush (v := -9) C dX0_cheapest_5 (by decide) ?_
  have hM_0 := ok_X0_costOf hw σ a (-9) hc hc8 hE ha
  refine G.callV C (g := 2) (i := 0) none hM_0 dX0_cheapest_7 (by decide) rfl rfl rfl uv_X0_costOf ul_RX0_38 rfl rfl (by decide) (Nat.le_of_ble_eq_true rfl) (fun r_7 τ_7 h_7 => ?_)
  obtain ⟨h_7, e_7⟩ := h_7; subst h_7
  refine G.istore_n (L1 := [(3, .int r_7), (2, .int (-9)), (0, .ref (w.2.2.2.1 2 0)), (1, .int a)]) C dX0_cheapest_10 rfl (by decide) rfl ?_
  refine G.iconst (v := 0) C dX0_cheapest_11 (by decide) ?_
  refine G.istore (L1 := [(4, .int 0), (3, .int r_7), (2, .int (-9)), (0, .ref (w.2.2.2.1 2 0)), (1, .int a)]) C dX0_cheapest_12 (by decide) rfl ?_
  have cut_14 : ∀ (m9 : Nat) (j : Nat) (x4 x3 x2 : Int32), j ≤ c → c < j + m9 → x4 = nI j → x3 = costU (σ.1 13 0) (σ.1 2 0 0) (σ.1 2 0 1) (σ.1 2 0 4) a (fromU (σ.1 12 0) (costU (σ.1 13 0) (σ.1 2 0 0) (σ.1 2 0 1) (σ.1 2 0 4) a) a.toNatClampNeg j) → x2 = fromU (σ.1 12 0) (costU (σ.1 13 0) (σ.1 2 0 0) (σ.1 2 0 1) (σ.1 2 0 4) a) a.toNatClampNeg j → G w x 5 Q 14 [(4, .int x4), (3, .int x3), (2, .int x2), (0, .ref (w.2.2.2.1 2 0)), (1, .int a)] [] σ := by
    intro m9
    induction m9 with
    | zero =>
      intro j x4 x3 x2 hj hm hx4 hx3 hx2
      exfalso
      omega
    | succ m9 ih =>
      intro j x4 x3 x2 hj hm hx4 hx3 hx2
      subst hx4
      subst hx3
      subst hx2
      refine G.iload C 0 dX0_cheapest_14 rfl ?_
      refine G.aload_n C 3 dX0_cheapest_16 rfl rfl ?_
      refine G.get (g := 2) (i := 0) C 4 none dX0_cheapest_17 (by decide) rfl rfl uX_X0 (by decide) uf_RX0_25 rfl rfl ?_
      refine G.icmp_ge (tgt := 61) C dX0_cheapest_20 (by decide) (fun c_20 => ?_) (fun c_20 => ?_)
      · have hjn : j = c := by
          rw [hc, nI_leI (by omega) (by omega)] at c_20; omega
        refine G.iload_n C 2 dX0_cheapest_61 rfl rfl ?_
        subst hQ
        exact G.iret C hr dX0_cheapest_62 (by
            rw [hjn]
            exact ⟨rfl, rfl⟩)
      · have hjn : j < c := by
          rw [hc, nI_leI (by omega) (by omega)] at c_20; omega
        refine G.aload_n C 3 dX0_cheapest_23 rfl rfl ?_
        refine G.iload_n C 4 dX0_cheapest_24 rfl rfl ?_
        refine G.iload C 0 dX0_cheapest_25 rfl ?_
        have hM_1 := ok_X0_mayComeFrom hw σ a (nI j) hc hc8
        refine G.callV C (g := 2) (i := 0) none hM_1 dX0_cheapest_27 (by decide) rfl rfl rfl uv_X0_mayComeFrom ul_RX0_42 rfl rfl (by decide) (Nat.le_of_ble_eq_true rfl) (fun r_27 τ_27 h_27 => ?_)
        obtain ⟨h_27, e_27⟩ := h_27; subst h_27
        refine G.if_eq (tgt := 55) C dX0_cheapest_30 (by decide) (fun c_30 => ?_) (fun c_30 => ?_)
        · have b_27 := wb_0 e_27 c_30
          have hy9 : ¬ σ.1 12 0 j < σ.1 12 0 a.toNatClampNeg := fun q => b_27 ⟨ha, Or.inr ⟨hc ▸ inN_nI hjn (by omega), by rw [nI_clamp (show j < 2 ^ 31 by omega)]; exact q⟩⟩
          obtain ⟨x4_55, ex4_55⟩ : ∃ z : Int32, z = (nI j) + 1 := ⟨_, rfl⟩
          refine G.iinc (v := x4_55) (L1 := [(4, .int x4_55), (3, .int (costU (σ.1 13 0) (σ.1 2 0 0) (σ.1 2 0 1) (σ.1 2 0 4) a (fromU (σ.1 12 0) (costU (σ.1 13 0) (σ.1 2 0 0) (σ.1 2 0 1) (σ.1 2 0 4) a) a.toNatClampNeg j))), (2, .int (fromU (σ.1 12 0) (costU (σ.1 13 0) (σ.1 2 0 0) (σ.1 2 0 1) (σ.1 2 0 4) a) a.toNatClampNeg j)), (0, .ref (w.2.2.2.1 2 0)), (1, .int a)]) C 0 dX0_cheapest_55 rfl (by rw [ex4_55]; rfl) (by decide) rfl ?_
          refine G.goto (tgt := 14) C dX0_cheapest_58 (by decide) ?_
          refine ih  (j + 1) _ _ _ ?_ ?_ ?_ ?_ ?_
          · omega
          · omega
          · rw [ex4_55]; exact nI_1 j
          · rw [fromU_f (fun q => hy9 q.1)]
          · rw [fromU_f (fun q => hy9 q.1)]
        · have b_27 := wb_1 e_27 c_30
          have hy9 : σ.1 12 0 j < σ.1 12 0 a.toNatClampNeg := by
            have q := b_27.2
            rw [nI_clamp (show j < 2 ^ 31 by omega)] at q
            exact q.elim (fun q => absurd q (nI_ne9 (by omega))) (fun q => q.2)
          refine G.aload_n C 3 dX0_cheapest_33 rfl rfl ?_
          refine G.iload_n C 4 dX0_cheapest_34 rfl rfl ?_
          refine G.iload C 0 dX0_cheapest_35 rfl ?_
          have hM_2 := ok_X0_costOf hw σ a (nI j) hc hc8 hE ha
          refine G.callV C (g := 2) (i := 0) none hM_2 dX0_cheapest_37 (by decide) rfl rfl rfl uv_X0_costOf ul_RX0_38 rfl rfl (by decide) (Nat.le_of_ble_eq_true rfl) (fun r_37 τ_37 h_37 => ?_)
          obtain ⟨h_37, e_37⟩ := h_37; subst h_37
          refine G.iload_n C 1 dX0_cheapest_40 rfl rfl ?_
          refine G.icmp_ge (tgt := 55) C dX0_cheapest_41 (by decide) (fun c_41 => ?_) (fun c_41 => ?_)
          · obtain ⟨x4_55, ex4_55⟩ : ∃ z : Int32, z = (nI j) + 1 := ⟨_, rfl⟩
            refine G.iinc (v := x4_55) (L1 := [(4, .int x4_55), (3, .int (costU (σ.1 13 0) (σ.1 2 0 0) (σ.1 2 0 1) (σ.1 2 0 4) a (fromU (σ.1 12 0) (costU (σ.1 13 0) (σ.1 2 0 0) (σ.1 2 0 1) (σ.1 2 0 4) a) a.toNatClampNeg j))), (2, .int (fromU (σ.1 12 0) (costU (σ.1 13 0) (σ.1 2 0 0) (σ.1 2 0 1) (σ.1 2 0 4) a) a.toNatClampNeg j)), (0, .ref (w.2.2.2.1 2 0)), (1, .int a)]) C 0 dX0_cheapest_55 rfl (by rw [ex4_55]; rfl) (by decide) rfl ?_
            refine G.goto (tgt := 14) C dX0_cheapest_58 (by decide) ?_
            refine ih  (j + 1) _ _ _ ?_ ?_ ?_ ?_ ?_
            · omega
            · omega
            · rw [ex4_55]; exact nI_1 j
            · rw [fromU_f (fun q => Int32.not_lt.mpr c_41 (e_37 ▸ q.2))]
            · rw [fromU_f (fun q => Int32.not_lt.mpr c_41 (e_37 ▸ q.2))]
          · refine G.iload C 0 dX0_cheapest_44 rfl ?_
            refine G.topi (fun x2_46 ex2_46 => ?_)
            refine G.istore_n (L1 := [(2, .int x2_46), (4, .int (nI j)), (3, .int (costU (σ.1 13 0) (σ.1 2 0 0) (σ.1 2 0 1) (σ.1 2 0 4) a (fromU (σ.1 12 0) (costU (σ.1 13 0) (σ.1 2 0 0) (σ.1 2 0 1) (σ.1 2 0 4) a) a.toNatClampNeg j))), (0, .ref (w.2.2.2.1 2 0)), (1, .int a)]) C dX0_cheapest_46 rfl (by decide) rfl ?_
            refine G.aload_n C 3 dX0_cheapest_47 rfl rfl ?_
            refine G.iload_n C 4 dX0_cheapest_48 rfl rfl ?_
            refine G.iload C 1 dX0_cheapest_49 rfl ?_
            have hM_3 := ok_X0_costOf hw σ a (nI j) hc hc8 hE ha
            refine G.callV C (g := 2) (i := 0) none hM_3 dX0_cheapest_51 (by decide) rfl rfl rfl uv_X0_costOf ul_RX0_38 rfl rfl (by decide) (Nat.le_of_ble_eq_true rfl) (fun r_51 τ_51 h_51 => ?_)
            obtain ⟨h_51, e_51⟩ := h_51; subst h_51
            refine G.istore_n (L1 := [(3, .int r_51), (2, .int x2_46), (4, .int (nI j)), (0, .ref (w.2.2.2.1 2 0)), (1, .int a)]) C dX0_cheapest_54 rfl (by decide) rfl ?_
            obtain ⟨x4_55, ex4_55⟩ : ∃ z : Int32, z = (nI j) + 1 := ⟨_, rfl⟩
            refine G.iinc (v := x4_55) (L1 := [(4, .int x4_55), (3, .int r_51), (2, .int x2_46), (0, .ref (w.2.2.2.1 2 0)), (1, .int a)]) C 2 dX0_cheapest_55 rfl (by rw [ex4_55]; rfl) (by decide) rfl ?_
            refine G.goto (tgt := 14) C dX0_cheapest_58 (by decide) ?_
            refine ih  (j + 1) _ _ _ ?_ ?_ ?_ ?_ ?_
            · omega
            · omega
            · rw [ex4_55]; exact nI_1 j
            · rw [e_51, fromU_t ⟨hy9, e_37 ▸ Int32.not_le.mp c_41⟩]
            · rw [ex2_46, fromU_t ⟨hy9, e_37 ▸ Int32.not_le.mp c_41⟩]
  refine cut_14 (c + 1) 0 _ _ _ ?_ ?_ ?_ ?_ ?_
  · omega
  · omega
  · rfl
  · exact e_7
  · rfl
set_option maxHeartbeats 4000000 in
set_option maxRecDepth 100000 in
theorem ok_X0_rivalCount {w : wD} (hw : wOK w) (σ : wSt) (a : Int32) {c : Nat} (hc : σ.1 2 0 4 = nI c) (hc8 : c ≤ 8) (hE : ∀ k, k < c → rng12 (σ.1 13 0 k)) (ha : inN (σ.1 2 0 4) a) : MI w yX0_rivalCount cX0_rivalCount 6 (some .int) 3 69 [.ref (w.2.2.2.1 2 0), .int a] σ (fun r τ => σ = τ ∧ r = rivU (σ.1 12 0) (costU (σ.1 13 0) (σ.1 2 0 0) (σ.1 2 0 1) (σ.1 2 0 4) a) a.toNatClampNeg (fromU (σ.1 12 0) (costU (σ.1 13 0) (σ.1 2 0 0) (σ.1 2 0 1) (σ.1 2 0 4) a) a.toNatClampNeg c) (costU (σ.1 13 0) (σ.1 2 0 0) (σ.1 2 0 1) (σ.1 2 0 4) a (fromU (σ.1 12 0) (costU (σ.1 13 0) (σ.1 2 0 0) (σ.1 2 0 1) (σ.1 2 0 4) a) a.toNatClampNeg c)) c) := by
  refine MI.of hw (by decide +kernel) (Nat.le_of_ble_eq_true rfl) (fun x C hr => ?_)
  suffices key : ∀ Q, Q = QI w x (fun r τ => σ = τ ∧ r = rivU (σ.1 12 0) (costU (σ.1 13 0) (σ.1 2 0 0) (σ.1 2 0 1) (σ.1 2 0 4) a) a.toNatClampNeg (fromU (σ.1 12 0) (costU (σ.1 13 0) (σ.1 2 0 0) (σ.1 2 0 1) (σ.1 2 0 4) a) a.toNatClampNeg c) (costU (σ.1 13 0) (σ.1 2 0 0) (σ.1 2 0 1) (σ.1 2 0 4) a (fromU (σ.1 12 0) (costU (σ.1 13 0) (σ.1 2 0 0) (σ.1 2 0 1) (σ.1 2 0 4) a) a.toNatClampNeg c)) c) → G w x 6 Q 0 [(0, .ref (w.2.2.2.1 2 0)), (1, .int a)] [] σ from key _ rfl
  intro Q hQ
  refine G.aload_n C 0 dX0_rivalCount_0 rfl rfl ?_
  refine G.iload_n C 1 dX0_rivalCount_1 rfl rfl ?_
  have hM_0 := ok_X0_cheapest hw σ a hc hc8 hE ha
  refine G.callV C (g := 2) (i := 0) none hM_0 dX0_rivalCount_2 (by decide) rfl rfl rfl uv_X0_cheapest ul_RX0_46 rfl rfl (by decide) (Nat.le_of_ble_eq_true rfl) (fun r_2 τ_2 h_2 => ?_)
  obtain ⟨h_2, e_2⟩ := h_2; subst h_2
  refine G.istore_n (L1 := [(2, .int r_2), (0, .ref (w.2.2.2.1 2 0)), (1, .int a)]) C dX0_rivalCount_5 rfl (by decide) rfl ?_
  refine G.aload_n C 1 dX0_rivalCount_6 rfl rfl ?_
  refine G.iload_n C 2 dX0_rivalCount_7 rfl rfl ?_
  refine G.iload_n C 0 dX0_rivalCount_8 rfl rfl ?_
  have hM_1 := ok_X0_costOf hw σ a r_2 hc hc8 hE ha
  refine G.callV C (g := 2) (i := 0) none hM_1 dX0_rivalCount_9 (by decide) rfl rfl rfl uv_X0_costOf ul_RX0_38 rfl rfl (by decide) (Nat.le_of_ble_eq_true rfl) (fun r_9 τ_9 h_9 => ?_)
  obtain ⟨h_9, e_9⟩ := h_9; subst h_9
  refine G.istore_n (L1 := [(3, .int r_9), (2, .int r_2), (0, .ref (w.2.2.2.1 2 0)), (1, .int a)]) C dX0_rivalCount_12 rfl (by decide) rfl ?_
  refine G.iconst (v := 0) C dX0_rivalCount_13 (by decide) ?_
  refine G.istore (L1 := [(4, .int 0), (3, .int r_9), (2, .int r_2), (0, .ref (w.2.2.2.1 2 0)), (1, .int a)]) C dX0_rivalCount_14 (by decide) rfl ?_
  refine G.iconst (v := 0) C dX0_rivalCount_16 (by decide) ?_
  refine G.istore (L1 := [(5, .int 0), (4, .int 0), (3, .int r_9), (2, .int r_2), (0, .ref (w.2.2.2.1 2 0)), (1, .int a)]) C dX0_rivalCount_17 (by decide) rfl ?_
  have cut_19 : ∀ (m9 : Nat) (j : Nat) (x5 x4 : Int32), j ≤ c → c < j + m9 → x5 = nI j → x4 = rivU (σ.1 12 0) (costU (σ.1 13 0) (σ.1 2 0 0) (σ.1 2 0 1) (σ.1 2 0 4) a) a.toNatClampNeg r_2 r_9 j → G w x 6 Q 19 [(5, .int x5), (4, .int x4), (3, .int r_9), (2, .int r_2), (0, .ref (w.2.2.2.1 2 0)), (1, .int a)] [] σ := by
    intro m9
    induction m9 with
    | zero =>
      intro j x5 x4 hj hm hx5 hx4
      exfalso
      omega
    | succ m9 ih =>
      intro j x5 x4 hj hm hx5 hx4
      subst hx5
      subst hx4
      refine G.iload C 0 dX0_rivalCount_19 rfl ?_
      refine G.aload_n C 4 dX0_rivalCount_21 rfl rfl ?_
      refine G.get (g := 2) (i := 0) C 4 none dX0_rivalCount_22 (by decide) rfl rfl uX_X0 (by decide) uf_RX0_25 rfl rfl ?_
      refine G.icmp_ge (tgt := 64) C dX0_rivalCount_25 (by decide) (fun c_25 => ?_) (fun c_25 => ?_)
      · have hjn : j = c := by
          rw [hc, nI_leI (by omega) (by omega)] at c_25; omega
        refine G.iload C 1 dX0_rivalCount_64 rfl ?_
        subst hQ
        exact G.iret C hr dX0_rivalCount_66 (by
            rw [hjn, e_9, e_2]
            exact ⟨rfl, rfl⟩)
      · have hjn : j < c := by
          rw [hc, nI_leI (by omega) (by omega)] at c_25; omega
        refine G.iload C 0 dX0_rivalCount_28 rfl ?_
        refine G.iload_n C 3 dX0_rivalCount_30 rfl rfl ?_
        refine G.icmp_eq (tgt := 58) C dX0_rivalCount_31 (by decide) (fun c_31 => ?_) (fun c_31 => ?_)
        · obtain ⟨x5_58, ex5_58⟩ : ∃ z : Int32, z = (nI j) + 1 := ⟨_, rfl⟩
          refine G.iinc (v := x5_58) (L1 := [(5, .int x5_58), (4, .int (rivU (σ.1 12 0) (costU (σ.1 13 0) (σ.1 2 0 0) (σ.1 2 0 1) (σ.1 2 0 4) a) a.toNatClampNeg r_2 r_9 j)), (3, .int r_9), (2, .int r_2), (0, .ref (w.2.2.2.1 2 0)), (1, .int a)]) C 0 dX0_rivalCount_58 rfl (by rw [ex5_58]; rfl) (by decide) rfl ?_
          refine G.goto (tgt := 19) C dX0_rivalCount_61 (by decide) ?_
          refine ih  (j + 1) _ _ ?_ ?_ ?_ ?_
          · omega
          · omega
          · rw [ex5_58]; exact nI_1 j
          · rw [rivU_f (fun q => q.1 c_31)]
        · refine G.aload_n C 4 dX0_rivalCount_34 rfl rfl ?_
          refine G.iload_n C 5 dX0_rivalCount_35 rfl rfl ?_
          refine G.iload C 0 dX0_rivalCount_36 rfl ?_
          have hM_2 := ok_X0_mayComeFrom hw σ a (nI j) hc hc8
          refine G.callV C (g := 2) (i := 0) none hM_2 dX0_rivalCount_38 (by decide) rfl rfl rfl uv_X0_mayComeFrom ul_RX0_42 rfl rfl (by decide) (Nat.le_of_ble_eq_true rfl) (fun r_38 τ_38 h_38 => ?_)
          obtain ⟨h_38, e_38⟩ := h_38; subst h_38
          refine G.if_eq (tgt := 58) C dX0_rivalCount_41 (by decide) (fun c_41 => ?_) (fun c_41 => ?_)
          · have b_38 := wb_0 e_38 c_41
            have hy9 : ¬ σ.1 12 0 j < σ.1 12 0 a.toNatClampNeg := fun q => b_38 ⟨ha, Or.inr ⟨hc ▸ inN_nI hjn (by omega), by rw [nI_clamp (show j < 2 ^ 31 by omega)]; exact q⟩⟩
            obtain ⟨x5_58, ex5_58⟩ : ∃ z : Int32, z = (nI j) + 1 := ⟨_, rfl⟩
            refine G.iinc (v := x5_58) (L1 := [(5, .int x5_58), (4, .int (rivU (σ.1 12 0) (costU (σ.1 13 0) (σ.1 2 0 0) (σ.1 2 0 1) (σ.1 2 0 4) a) a.toNatClampNeg r_2 r_9 j)), (3, .int r_9), (2, .int r_2), (0, .ref (w.2.2.2.1 2 0)), (1, .int a)]) C 0 dX0_rivalCount_58 rfl (by rw [ex5_58]; rfl) (by decide) rfl ?_
            refine G.goto (tgt := 19) C dX0_rivalCount_61 (by decide) ?_
            refine ih  (j + 1) _ _ ?_ ?_ ?_ ?_
            · omega
            · omega
            · rw [ex5_58]; exact nI_1 j
            · rw [rivU_f (fun q => hy9 q.2.1)]
          · have b_38 := wb_1 e_38 c_41
            have hy9 : σ.1 12 0 j < σ.1 12 0 a.toNatClampNeg := by
              have q := b_38.2
              rw [nI_clamp (show j < 2 ^ 31 by omega)] at q
              exact q.elim (fun q => absurd q (nI_ne9 (by omega))) (fun q => q.2)
            refine G.aload_n C 4 dX0_rivalCount_44 rfl rfl ?_
            refine G.iload_n C 5 dX0_rivalCount_45 rfl rfl ?_
            refine G.iload C 0 dX0_rivalCount_46 rfl ?_
            have hM_3 := ok_X0_costOf hw σ a (nI j) hc hc8 hE ha
            refine G.callV C (g := 2) (i := 0) none hM_3 dX0_rivalCount_48 (by decide) rfl rfl rfl uv_X0_costOf ul_RX0_38 rfl rfl (by decide) (Nat.le_of_ble_eq_true rfl) (fun r_48 τ_48 h_48 => ?_)
            obtain ⟨h_48, e_48⟩ := h_48; subst h_48
            refine G.iload_n C 2 dX0_rivalCount_51 rfl rfl ?_
            refine G.icmp_ne (tgt := 58) C dX0_rivalCount_52 (by decide) (fun c_52 => ?_) (fun c_52 => ?_)
            · obtain ⟨x5_58, ex5_58⟩ : ∃ z : Int32, z = (nI j) + 1 := ⟨_, rfl⟩
              refine G.iinc (v := x5_58) (L1 := [(5, .int x5_58), (4, .int (rivU (σ.1 12 0) (costU (σ.1 13 0) (σ.1 2 0 0) (σ.1 2 0 1) (σ.1 2 0 4) a) a.toNatClampNeg r_2 r_9 j)), (3, .int r_9), (2, .int r_2), (0, .ref (w.2.2.2.1 2 0)), (1, .int a)]) C 0 dX0_rivalCount_58 rfl (by rw [ex5_58]; rfl) (by decide) rfl ?_
              refine G.goto (tgt := 19) C dX0_rivalCount_61 (by decide) ?_
              refine ih  (j + 1) _ _ ?_ ?_ ?_ ?_
              · omega
              · omega
              · rw [ex5_58]; exact nI_1 j
              · rw [rivU_f (fun q => c_52 (e_48 ▸ q.2.2))]
            · obtain ⟨x4_55, ex4_55⟩ : ∃ z : Int32, z = (rivU (σ.1 12 0) (costU (σ.1 13 0) (σ.1 2 0 0) (σ.1 2 0 1) (σ.1 2 0 4) a) a.toNatClampNeg r_2 r_9 j) + 1 := ⟨_, rfl⟩
              refine G.iinc (v := x4_55) (L1 := [(4, .int x4_55), (5, .int (nI j)), (3, .int r_9), (2, .int r_2), (0, .ref (w.2.2.2.1 2 0)), (1, .int a)]) C 1 dX0_rivalCount_55 rfl (by rw [ex4_55]; rfl) (by decide) rfl ?_
              obtain ⟨x5_58, ex5_58⟩ : ∃ z : Int32, z = (nI j) + 1 := ⟨_, rfl⟩
              refine G.iinc (v := x5_58) (L1 := [(5, .int x5_58), (4, .int x4_55), (3, .int r_9), (2, .int r_2), (0, .ref (w.2.2.2.1 2 0)), (1, .int a)]) C 1 dX0_rivalCount_58 rfl (by rw [ex5_58]; rfl) (by decide) rfl ?_
              refine G.goto (tgt := 19) C dX0_rivalCount_61 (by decide) ?_
              refine ih  (j + 1) _ _ ?_ ?_ ?_ ?_
              · omega
              · omega
              · rw [ex5_58]; exact nI_1 j
              · rw [ex4_55, rivU_t ⟨c_31, hy9, e_48 ▸ c_52⟩]
  refine cut_19 (c + 1) 0 _ _ ?_ ?_ ?_ ?_
  · omega
  · omega
  · rfl
  · rfl
end
section
set_option maxHeartbeats 4000000 in
set_option maxRecDepth 100000 in
theorem ok_X1_bestShift {w : wD} (hw : wOK w) (σ : wSt) (i j : Nat) (hi : i < wN 15) (hj9 : j < wN 18) {h b : Nat} (hh : σ.1 15 i 1 = nI h) (hh6 : h ≤ 6) (hb : σ.1 18 j 1 = nI b) (hb6 : b ≤ 6) : MI w yX1_bestShift cX1_bestShift 7 (some .int) 3 68 [.ref (w.2.2.2.1 15 i), .ref (w.2.2.2.1 18 j)] σ (fun r τ => σ = τ ∧ r = shU (fun q => fitU (σ.1 16 i) (σ.1 19 j) b q h) 20) := by
  refine MI.of hw (by decide +kernel) (Nat.le_of_ble_eq_true rfl) (fun x C hr => ?_)
  suffices key : ∀ Q, Q = QI w x (fun r τ => σ = τ ∧ r = shU (fun q => fitU (σ.1 16 i) (σ.1 19 j) b q h) 20) → G w x 7 Q 0 [(0, .ref (w.2.2.2.1 15 i)), (1, .ref (w.2.2.2.1 18 j))] [] σ from key _ rfl
  intro Q hQ
  refine G.iconst (v := 0) C dX1_bestShift_0 (by decide) ?_
  refine G.istore_n (L1 := [(2, .int 0), (0, .ref (w.2.2.2.1 15 i)), (1, .ref (w.2.2.2.1 18 j))]) C dX1_bestShift_1 rfl (by decide) rfl ?_
  refine G.aload_n C 1 dX1_bestShift_2 rfl rfl ?_
  refine G.aload_n C 2 dX1_bestShift_3 rfl rfl ?_
  refine G.iconst (v := 0) C dX1_bestShift_4 (by decide) ?_
  have hM_0 := ok_X1_fitting hw σ i j 0 hi hj9 hh hh6 hb hb6
  refine G.callV C (g := 15) (i := i) none hM_0 dX1_bestShift_5 hi rfl rfl rfl uv_X1_fitting ul_RX1_33 rfl rfl (by decide) (Nat.le_of_ble_eq_true rfl) (fun r_5 τ_5 h_5 => ?_)
  obtain ⟨h_5, e_5⟩ := h_5; subst h_5
  refine G.istore_n (L1 := [(3, .int r_5), (2, .int 0), (0, .ref (w.2.2.2.1 15 i)), (1, .ref (w.2.2.2.1 18 j))]) C dX1_bestShift_8 rfl (by decide) rfl ?_
  refine G.iconst (v := 1) C dX1_bestShift_9 (by decide) ?_
  refine G.istore (L1 := [(4, .int 1), (3, .int r_5), (2, .int 0), (0, .ref (w.2.2.2.1 15 i)), (1, .ref (w.2.2.2.1 18 j))]) C dX1_bestShift_10 (by decide) rfl ?_
  have cut_12 : ∀ (m9 : Nat) (far : Nat) (x4 x3 x2 : Int32), far ≤ 20 → 20 < far + m9 → x4 = nI (far + 1) → x3 = (fun q => fitU (σ.1 16 i) (σ.1 19 j) b q h) (shU (fun q => fitU (σ.1 16 i) (σ.1 19 j) b q h) far) → x2 = shU (fun q => fitU (σ.1 16 i) (σ.1 19 j) b q h) far → G w x 7 Q 12 [(4, .int x4), (3, .int x3), (2, .int x2), (0, .ref (w.2.2.2.1 15 i)), (1, .ref (w.2.2.2.1 18 j))] [] σ := by
    intro m9
    induction m9 with
    | zero =>
      intro far x4 x3 x2 hk hm hx4 hx3 hx2
      exfalso
      omega
    | succ m9 ih =>
      intro far x4 x3 x2 hk hm hx4 hx3 hx2
      subst hx4
      subst hx3
      subst hx2
      refine G.iload C 0 dX1_bestShift_12 rfl ?_
      refine G.bipush (v := 20) C dX1_bestShift_14 (by decide) ?_
      refine G.icmp_gt (tgt := 70) C dX1_bestShift_16 (by decide) (fun c_16 => ?_) (fun c_16 => ?_)
      · have h20 : far = 20 := by
          rw [show (20 : Int32) = nI 20 from rfl, nI_ltI (by decide) (by omega)] at c_16; omega
        refine G.iload_n C 2 dX1_bestShift_70 rfl rfl ?_
        subst hQ
        exact G.iret C hr dX1_bestShift_71 (by
            rw [h20]
            exact ⟨rfl, rfl⟩)
      · have h20 : far < 20 := by
          rw [show (20 : Int32) = nI 20 from rfl, nI_ltI (by decide) (by omega)] at c_16; omega
        refine G.iload C 0 dX1_bestShift_19 rfl ?_
        refine G.ineg C dX1_bestShift_21 ?_
        refine G.topi (fun x5_22 ex5_22 => ?_)
        refine G.istore (L1 := [(5, .int x5_22), (4, .int (nI (far + 1))), (3, .int ((fun q => fitU (σ.1 16 i) (σ.1 19 j) b q h) (shU (fun q => fitU (σ.1 16 i) (σ.1 19 j) b q h) far))), (2, .int (shU (fun q => fitU (σ.1 16 i) (σ.1 19 j) b q h) far)), (0, .ref (w.2.2.2.1 15 i)), (1, .ref (w.2.2.2.1 18 j))]) C dX1_bestShift_22 (by decide) rfl ?_
        subst ex5_22
        refine G.iload C 0 dX1_bestShift_24 rfl ?_
        refine G.iload C 1 dX1_bestShift_26 rfl ?_
        refine G.icmp_gt (tgt := 64) C dX1_bestShift_28 (by decide) (fun c_28 => ?_) (fun c_28 => ?_)
        · exact absurd c_28 (w_shift1 far (by omega))
        · refine G.aload_n C 4 dX1_bestShift_31 rfl rfl ?_
          refine G.aload_n C 5 dX1_bestShift_32 rfl rfl ?_
          refine G.iload C 0 dX1_bestShift_33 rfl ?_
          have hM_1 := ok_X1_fitting hw σ i j (-nI (far + 1)) hi hj9 hh hh6 hb hb6
          refine G.callV C (g := 15) (i := i) none hM_1 dX1_bestShift_35 hi rfl rfl rfl uv_X1_fitting ul_RX1_33 rfl rfl (by decide) (Nat.le_of_ble_eq_true rfl) (fun r_35 τ_35 h_35 => ?_)
          obtain ⟨h_35, e_35⟩ := h_35; subst h_35
          refine G.istore (L1 := [(6, .int r_35), (5, .int (-nI (far + 1))), (4, .int (nI (far + 1))), (3, .int ((fun q => fitU (σ.1 16 i) (σ.1 19 j) b q h) (shU (fun q => fitU (σ.1 16 i) (σ.1 19 j) b q h) far))), (2, .int (shU (fun q => fitU (σ.1 16 i) (σ.1 19 j) b q h) far)), (0, .ref (w.2.2.2.1 15 i)), (1, .ref (w.2.2.2.1 18 j))]) C dX1_bestShift_38 (by decide) rfl ?_
          refine G.iload C 0 dX1_bestShift_40 rfl ?_
          refine G.iload_n C 3 dX1_bestShift_42 rfl rfl ?_
          refine G.icmp_le (tgt := 52) C dX1_bestShift_43 (by decide) (fun c_43 => ?_) (fun c_43 => ?_)
          · refine G.iload C 1 dX1_bestShift_52 rfl ?_
            refine G.iconst (v := 2) C dX1_bestShift_54 (by decide) ?_
            refine G.iload C 2 dX1_bestShift_55 rfl ?_
            refine G.imul C dX1_bestShift_57 ?_
            refine G.iadd C dX1_bestShift_58 ?_
            refine G.topi (fun x5_59 ex5_59 => ?_)
            refine G.istore (L1 := [(5, .int x5_59), (6, .int r_35), (4, .int (nI (far + 1))), (3, .int ((fun q => fitU (σ.1 16 i) (σ.1 19 j) b q h) (shU (fun q => fitU (σ.1 16 i) (σ.1 19 j) b q h) far))), (2, .int (shU (fun q => fitU (σ.1 16 i) (σ.1 19 j) b q h) far)), (0, .ref (w.2.2.2.1 15 i)), (1, .ref (w.2.2.2.1 18 j))]) C dX1_bestShift_59 (by decide) rfl ?_
            refine G.goto (tgt := 24) C dX1_bestShift_61 (by decide) ?_
            have e9 : x5_59 = nI (far + 1) := by
              rw [ex5_59]; exact w_shift2 far (by omega)
            subst e9
            refine G.iload C 0 dX1_bestShift_24 rfl ?_
            refine G.iload C 2 dX1_bestShift_26 rfl ?_
            refine G.icmp_gt (tgt := 64) C dX1_bestShift_28 (by decide) (fun c_28v2 => ?_) (fun c_28v2 => ?_)
            · exact absurd c_28v2 (Int32.not_lt.mpr (Int32.le_refl _))
            · refine G.aload_n C 5 dX1_bestShift_31 rfl rfl ?_
              refine G.aload_n C 6 dX1_bestShift_32 rfl rfl ?_
              refine G.iload C 0 dX1_bestShift_33 rfl ?_
              have hM_2 := ok_X1_fitting hw σ i j (nI (far + 1)) hi hj9 hh hh6 hb hb6
              refine G.callV C (g := 15) (i := i) none hM_2 dX1_bestShift_35 hi rfl rfl rfl uv_X1_fitting ul_RX1_33 rfl rfl (by decide) (Nat.le_of_ble_eq_true rfl) (fun r_35v2 τ_35v2 h_35v2 => ?_)
              obtain ⟨h_35v2, e_35v2⟩ := h_35v2; subst h_35v2
              refine G.istore (L1 := [(6, .int r_35v2), (5, .int (nI (far + 1))), (4, .int (nI (far + 1))), (3, .int ((fun q => fitU (σ.1 16 i) (σ.1 19 j) b q h) (shU (fun q => fitU (σ.1 16 i) (σ.1 19 j) b q h) far))), (2, .int (shU (fun q => fitU (σ.1 16 i) (σ.1 19 j) b q h) far)), (0, .ref (w.2.2.2.1 15 i)), (1, .ref (w.2.2.2.1 18 j))]) C dX1_bestShift_38 (by decide) rfl ?_
              refine G.iload C 0 dX1_bestShift_40 rfl ?_
              refine G.iload_n C 3 dX1_bestShift_42 rfl rfl ?_
              refine G.icmp_le (tgt := 52) C dX1_bestShift_43 (by decide) (fun c_43v2 => ?_) (fun c_43v2 => ?_)
              · refine G.iload C 1 dX1_bestShift_52 rfl ?_
                refine G.iconst (v := 2) C dX1_bestShift_54 (by decide) ?_
                refine G.iload C 2 dX1_bestShift_55 rfl ?_
                refine G.imul C dX1_bestShift_57 ?_
                refine G.iadd C dX1_bestShift_58 ?_
                refine G.topi (fun x5_59v2 ex5_59v2 => ?_)
                refine G.istore (L1 := [(5, .int x5_59v2), (6, .int r_35v2), (4, .int (nI (far + 1))), (3, .int ((fun q => fitU (σ.1 16 i) (σ.1 19 j) b q h) (shU (fun q => fitU (σ.1 16 i) (σ.1 19 j) b q h) far))), (2, .int (shU (fun q => fitU (σ.1 16 i) (σ.1 19 j) b q h) far)), (0, .ref (w.2.2.2.1 15 i)), (1, .ref (w.2.2.2.1 18 j))]) C dX1_bestShift_59 (by decide) rfl ?_
                refine G.goto (tgt := 24) C dX1_bestShift_61 (by decide) ?_
                have e9 : x5_59v2 = nI (far + 1) + 2 * nI (far + 1) := ex5_59v2
                subst e9
                refine G.iload C 0 dX1_bestShift_24 rfl ?_
                refine G.iload C 2 dX1_bestShift_26 rfl ?_
                refine G.icmp_gt (tgt := 64) C dX1_bestShift_28 (by decide) (fun c_28v3 => ?_) (fun c_28v3 => ?_)
                · obtain ⟨x4_64, ex4_64⟩ : ∃ z : Int32, z = (nI (far + 1)) + 1 := ⟨_, rfl⟩
                  refine G.iinc (v := x4_64) (L1 := [(4, .int x4_64), (5, .int (nI (far + 1) + 2 * nI (far + 1))), (6, .int r_35v2), (3, .int ((fun q => fitU (σ.1 16 i) (σ.1 19 j) b q h) (shU (fun q => fitU (σ.1 16 i) (σ.1 19 j) b q h) far))), (2, .int (shU (fun q => fitU (σ.1 16 i) (σ.1 19 j) b q h) far)), (0, .ref (w.2.2.2.1 15 i)), (1, .ref (w.2.2.2.1 18 j))]) C 2 dX1_bestShift_64 rfl (by rw [ex4_64]; rfl) (by decide) rfl ?_
                  refine G.goto (tgt := 12) C dX1_bestShift_67 (by decide) ?_
                  refine G.sub (L1 := [(4, .int x4_64), (3, .int ((fun q => fitU (σ.1 16 i) (σ.1 19 j) b q h) (shU (fun q => fitU (σ.1 16 i) (σ.1 19 j) b q h) far))), (2, .int (shU (fun q => fitU (σ.1 16 i) (σ.1 19 j) b q h) far)), (0, .ref (w.2.2.2.1 15 i)), (1, .ref (w.2.2.2.1 18 j))]) [0, 3, 4, 5, 6] rfl ?_
                  refine ih  (far + 1) _ _ _ ?_ ?_ ?_ ?_ ?_
                  · omega
                  · omega
                  · rw [ex4_64]; exact nI_1 (far + 1)
                  · rw [e_35] at c_43
                    rw [e_35v2] at c_43v2
                    have q1 : shS (fun q => fitU (σ.1 16 i) (σ.1 19 j) b q h) (-nI (far + 1)) (shU (fun q => fitU (σ.1 16 i) (σ.1 19 j) b q h) far) = shU (fun q => fitU (σ.1 16 i) (σ.1 19 j) b q h) far := shS_le c_43
                    have q2 : shS (fun q => fitU (σ.1 16 i) (σ.1 19 j) b q h) (nI (far + 1)) (shU (fun q => fitU (σ.1 16 i) (σ.1 19 j) b q h) far) = shU (fun q => fitU (σ.1 16 i) (σ.1 19 j) b q h) far := shS_le c_43v2
                    simp only [shU]
                    rw [q1, q2]
                    try first | exact e_35v2 | exact e_35 | rfl
                  · rw [e_35] at c_43
                    rw [e_35v2] at c_43v2
                    have q1 : shS (fun q => fitU (σ.1 16 i) (σ.1 19 j) b q h) (-nI (far + 1)) (shU (fun q => fitU (σ.1 16 i) (σ.1 19 j) b q h) far) = shU (fun q => fitU (σ.1 16 i) (σ.1 19 j) b q h) far := shS_le c_43
                    have q2 : shS (fun q => fitU (σ.1 16 i) (σ.1 19 j) b q h) (nI (far + 1)) (shU (fun q => fitU (σ.1 16 i) (σ.1 19 j) b q h) far) = shU (fun q => fitU (σ.1 16 i) (σ.1 19 j) b q h) far := shS_le c_43v2
                    simp only [shU]
                    rw [q1, q2]
                    try first | assumption | rfl
                · exact absurd (w_shift3 far (by omega)) c_28v3
              · refine G.iload C 0 dX1_bestShift_46 rfl ?_
                refine G.istore_n (L1 := [(3, .int r_35v2), (6, .int r_35v2), (5, .int (nI (far + 1))), (4, .int (nI (far + 1))), (2, .int (shU (fun q => fitU (σ.1 16 i) (σ.1 19 j) b q h) far)), (0, .ref (w.2.2.2.1 15 i)), (1, .ref (w.2.2.2.1 18 j))]) C dX1_bestShift_48 rfl (by decide) rfl ?_
                refine G.iload C 2 dX1_bestShift_49 rfl ?_
                refine G.topi (fun x2_51 ex2_51 => ?_)
                refine G.istore_n (L1 := [(2, .int x2_51), (3, .int r_35v2), (6, .int r_35v2), (5, .int (nI (far + 1))), (4, .int (nI (far + 1))), (0, .ref (w.2.2.2.1 15 i)), (1, .ref (w.2.2.2.1 18 j))]) C dX1_bestShift_51 rfl (by decide) rfl ?_
                refine G.iload C 3 dX1_bestShift_52 rfl ?_
                refine G.iconst (v := 2) C dX1_bestShift_54 (by decide) ?_
                refine G.iload C 4 dX1_bestShift_55 rfl ?_
                refine G.imul C dX1_bestShift_57 ?_
                refine G.iadd C dX1_bestShift_58 ?_
                refine G.topi (fun x5_59v2 ex5_59v2 => ?_)
                refine G.istore (L1 := [(5, .int x5_59v2), (2, .int x2_51), (3, .int r_35v2), (6, .int r_35v2), (4, .int (nI (far + 1))), (0, .ref (w.2.2.2.1 15 i)), (1, .ref (w.2.2.2.1 18 j))]) C dX1_bestShift_59 (by decide) rfl ?_
                refine G.goto (tgt := 24) C dX1_bestShift_61 (by decide) ?_
                have e9 : x5_59v2 = nI (far + 1) + 2 * nI (far + 1) := ex5_59v2
                subst e9
                refine G.iload C 0 dX1_bestShift_24 rfl ?_
                refine G.iload C 4 dX1_bestShift_26 rfl ?_
                refine G.icmp_gt (tgt := 64) C dX1_bestShift_28 (by decide) (fun c_28v3 => ?_) (fun c_28v3 => ?_)
                · obtain ⟨x4_64, ex4_64⟩ : ∃ z : Int32, z = (nI (far + 1)) + 1 := ⟨_, rfl⟩
                  refine G.iinc (v := x4_64) (L1 := [(4, .int x4_64), (5, .int (nI (far + 1) + 2 * nI (far + 1))), (2, .int x2_51), (3, .int r_35v2), (6, .int r_35v2), (0, .ref (w.2.2.2.1 15 i)), (1, .ref (w.2.2.2.1 18 j))]) C 4 dX1_bestShift_64 rfl (by rw [ex4_64]; rfl) (by decide) rfl ?_
                  refine G.goto (tgt := 12) C dX1_bestShift_67 (by decide) ?_
                  refine G.sub (L1 := [(4, .int x4_64), (3, .int r_35v2), (2, .int x2_51), (0, .ref (w.2.2.2.1 15 i)), (1, .ref (w.2.2.2.1 18 j))]) [0, 3, 2, 5, 6] rfl ?_
                  refine ih  (far + 1) _ _ _ ?_ ?_ ?_ ?_ ?_
                  · omega
                  · omega
                  · rw [ex4_64]; exact nI_1 (far + 1)
                  · rw [e_35] at c_43
                    rw [e_35v2] at c_43v2
                    have q1 : shS (fun q => fitU (σ.1 16 i) (σ.1 19 j) b q h) (-nI (far + 1)) (shU (fun q => fitU (σ.1 16 i) (σ.1 19 j) b q h) far) = shU (fun q => fitU (σ.1 16 i) (σ.1 19 j) b q h) far := shS_le c_43
                    have q2 : shS (fun q => fitU (σ.1 16 i) (σ.1 19 j) b q h) (nI (far + 1)) (shU (fun q => fitU (σ.1 16 i) (σ.1 19 j) b q h) far) = nI (far + 1) := shS_gt c_43v2
                    simp only [shU]
                    rw [q1, q2]
                    try first | exact e_35v2 | exact e_35 | rfl
                  · rw [e_35] at c_43
                    rw [e_35v2] at c_43v2
                    have q1 : shS (fun q => fitU (σ.1 16 i) (σ.1 19 j) b q h) (-nI (far + 1)) (shU (fun q => fitU (σ.1 16 i) (σ.1 19 j) b q h) far) = shU (fun q => fitU (σ.1 16 i) (σ.1 19 j) b q h) far := shS_le c_43
                    have q2 : shS (fun q => fitU (σ.1 16 i) (σ.1 19 j) b q h) (nI (far + 1)) (shU (fun q => fitU (σ.1 16 i) (σ.1 19 j) b q h) far) = nI (far + 1) := shS_gt c_43v2
                    simp only [shU]
                    rw [q1, q2]
                    try first | assumption | rfl
                · exact absurd (w_shift3 far (by omega)) c_28v3
          · refine G.iload C 0 dX1_bestShift_46 rfl ?_
            refine G.istore_n (L1 := [(3, .int r_35), (6, .int r_35), (5, .int (-nI (far + 1))), (4, .int (nI (far + 1))), (2, .int (shU (fun q => fitU (σ.1 16 i) (σ.1 19 j) b q h) far)), (0, .ref (w.2.2.2.1 15 i)), (1, .ref (w.2.2.2.1 18 j))]) C dX1_bestShift_48 rfl (by decide) rfl ?_
            refine G.iload C 2 dX1_bestShift_49 rfl ?_
            refine G.topi (fun x2_51 ex2_51 => ?_)
            refine G.istore_n (L1 := [(2, .int x2_51), (3, .int r_35), (6, .int r_35), (5, .int (-nI (far + 1))), (4, .int (nI (far + 1))), (0, .ref (w.2.2.2.1 15 i)), (1, .ref (w.2.2.2.1 18 j))]) C dX1_bestShift_51 rfl (by decide) rfl ?_
            refine G.iload C 3 dX1_bestShift_52 rfl ?_
            refine G.iconst (v := 2) C dX1_bestShift_54 (by decide) ?_
            refine G.iload C 4 dX1_bestShift_55 rfl ?_
            refine G.imul C dX1_bestShift_57 ?_
            refine G.iadd C dX1_bestShift_58 ?_
            refine G.topi (fun x5_59 ex5_59 => ?_)
            refine G.istore (L1 := [(5, .int x5_59), (2, .int x2_51), (3, .int r_35), (6, .int r_35), (4, .int (nI (far + 1))), (0, .ref (w.2.2.2.1 15 i)), (1, .ref (w.2.2.2.1 18 j))]) C dX1_bestShift_59 (by decide) rfl ?_
            refine G.goto (tgt := 24) C dX1_bestShift_61 (by decide) ?_
            have e9 : x5_59 = nI (far + 1) := by
              rw [ex5_59]; exact w_shift2 far (by omega)
            subst e9
            refine G.iload C 0 dX1_bestShift_24 rfl ?_
            refine G.iload C 4 dX1_bestShift_26 rfl ?_
            refine G.icmp_gt (tgt := 64) C dX1_bestShift_28 (by decide) (fun c_28v2 => ?_) (fun c_28v2 => ?_)
            · exact absurd c_28v2 (Int32.not_lt.mpr (Int32.le_refl _))
            · refine G.aload_n C 5 dX1_bestShift_31 rfl rfl ?_
              refine G.aload_n C 6 dX1_bestShift_32 rfl rfl ?_
              refine G.iload C 0 dX1_bestShift_33 rfl ?_
              have hM_3 := ok_X1_fitting hw σ i j (nI (far + 1)) hi hj9 hh hh6 hb hb6
              refine G.callV C (g := 15) (i := i) none hM_3 dX1_bestShift_35 hi rfl rfl rfl uv_X1_fitting ul_RX1_33 rfl rfl (by decide) (Nat.le_of_ble_eq_true rfl) (fun r_35v2 τ_35v2 h_35v2 => ?_)
              obtain ⟨h_35v2, e_35v2⟩ := h_35v2; subst h_35v2
              refine G.istore (L1 := [(6, .int r_35v2), (5, .int (nI (far + 1))), (2, .int x2_51), (3, .int r_35), (4, .int (nI (far + 1))), (0, .ref (w.2.2.2.1 15 i)), (1, .ref (w.2.2.2.1 18 j))]) C dX1_bestShift_38 (by decide) rfl ?_
              refine G.iload C 0 dX1_bestShift_40 rfl ?_
              refine G.iload_n C 3 dX1_bestShift_42 rfl rfl ?_
              refine G.icmp_le (tgt := 52) C dX1_bestShift_43 (by decide) (fun c_43v2 => ?_) (fun c_43v2 => ?_)
              · refine G.iload C 1 dX1_bestShift_52 rfl ?_
                refine G.iconst (v := 2) C dX1_bestShift_54 (by decide) ?_
                refine G.iload C 4 dX1_bestShift_55 rfl ?_
                refine G.imul C dX1_bestShift_57 ?_
                refine G.iadd C dX1_bestShift_58 ?_
                refine G.topi (fun x5_59v2 ex5_59v2 => ?_)
                refine G.istore (L1 := [(5, .int x5_59v2), (6, .int r_35v2), (2, .int x2_51), (3, .int r_35), (4, .int (nI (far + 1))), (0, .ref (w.2.2.2.1 15 i)), (1, .ref (w.2.2.2.1 18 j))]) C dX1_bestShift_59 (by decide) rfl ?_
                refine G.goto (tgt := 24) C dX1_bestShift_61 (by decide) ?_
                have e9 : x5_59v2 = nI (far + 1) + 2 * nI (far + 1) := ex5_59v2
                subst e9
                refine G.iload C 0 dX1_bestShift_24 rfl ?_
                refine G.iload C 4 dX1_bestShift_26 rfl ?_
                refine G.icmp_gt (tgt := 64) C dX1_bestShift_28 (by decide) (fun c_28v3 => ?_) (fun c_28v3 => ?_)
                · obtain ⟨x4_64, ex4_64⟩ : ∃ z : Int32, z = (nI (far + 1)) + 1 := ⟨_, rfl⟩
                  refine G.iinc (v := x4_64) (L1 := [(4, .int x4_64), (5, .int (nI (far + 1) + 2 * nI (far + 1))), (6, .int r_35v2), (2, .int x2_51), (3, .int r_35), (0, .ref (w.2.2.2.1 15 i)), (1, .ref (w.2.2.2.1 18 j))]) C 4 dX1_bestShift_64 rfl (by rw [ex4_64]; rfl) (by decide) rfl ?_
                  refine G.goto (tgt := 12) C dX1_bestShift_67 (by decide) ?_
                  refine G.sub (L1 := [(4, .int x4_64), (3, .int r_35), (2, .int x2_51), (0, .ref (w.2.2.2.1 15 i)), (1, .ref (w.2.2.2.1 18 j))]) [0, 4, 3, 5, 6] rfl ?_
                  refine ih  (far + 1) _ _ _ ?_ ?_ ?_ ?_ ?_
                  · omega
                  · omega
                  · rw [ex4_64]; exact nI_1 (far + 1)
                  · rw [e_35] at c_43
                    rw [e_35v2] at c_43v2
                    rw [e_35] at c_43v2
                    have q1 : shS (fun q => fitU (σ.1 16 i) (σ.1 19 j) b q h) (-nI (far + 1)) (shU (fun q => fitU (σ.1 16 i) (σ.1 19 j) b q h) far) = -nI (far + 1) := shS_gt c_43
                    have q2 : shS (fun q => fitU (σ.1 16 i) (σ.1 19 j) b q h) (nI (far + 1)) (-nI (far + 1)) = -nI (far + 1) := shS_le c_43v2
                    simp only [shU]
                    rw [q1, q2]
                    try first | exact e_35v2 | exact e_35 | rfl
                  · rw [e_35] at c_43
                    rw [e_35v2] at c_43v2
                    rw [e_35] at c_43v2
                    have q1 : shS (fun q => fitU (σ.1 16 i) (σ.1 19 j) b q h) (-nI (far + 1)) (shU (fun q => fitU (σ.1 16 i) (σ.1 19 j) b q h) far) = -nI (far + 1) := shS_gt c_43
                    have q2 : shS (fun q => fitU (σ.1 16 i) (σ.1 19 j) b q h) (nI (far + 1)) (-nI (far + 1)) = -nI (far + 1) := shS_le c_43v2
                    simp only [shU]
                    rw [q1, q2]
                    try first | assumption | rfl
                · exact absurd (w_shift3 far (by omega)) c_28v3
              · refine G.iload C 0 dX1_bestShift_46 rfl ?_
                refine G.istore_n (L1 := [(3, .int r_35v2), (6, .int r_35v2), (5, .int (nI (far + 1))), (2, .int x2_51), (4, .int (nI (far + 1))), (0, .ref (w.2.2.2.1 15 i)), (1, .ref (w.2.2.2.1 18 j))]) C dX1_bestShift_48 rfl (by decide) rfl ?_
                refine G.iload C 2 dX1_bestShift_49 rfl ?_
                refine G.topi (fun x2_51v2 ex2_51v2 => ?_)
                refine G.istore_n (L1 := [(2, .int x2_51v2), (3, .int r_35v2), (6, .int r_35v2), (5, .int (nI (far + 1))), (4, .int (nI (far + 1))), (0, .ref (w.2.2.2.1 15 i)), (1, .ref (w.2.2.2.1 18 j))]) C dX1_bestShift_51 rfl (by decide) rfl ?_
                refine G.iload C 3 dX1_bestShift_52 rfl ?_
                refine G.iconst (v := 2) C dX1_bestShift_54 (by decide) ?_
                refine G.iload C 4 dX1_bestShift_55 rfl ?_
                refine G.imul C dX1_bestShift_57 ?_
                refine G.iadd C dX1_bestShift_58 ?_
                refine G.topi (fun x5_59v2 ex5_59v2 => ?_)
                refine G.istore (L1 := [(5, .int x5_59v2), (2, .int x2_51v2), (3, .int r_35v2), (6, .int r_35v2), (4, .int (nI (far + 1))), (0, .ref (w.2.2.2.1 15 i)), (1, .ref (w.2.2.2.1 18 j))]) C dX1_bestShift_59 (by decide) rfl ?_
                refine G.goto (tgt := 24) C dX1_bestShift_61 (by decide) ?_
                have e9 : x5_59v2 = nI (far + 1) + 2 * nI (far + 1) := ex5_59v2
                subst e9
                refine G.iload C 0 dX1_bestShift_24 rfl ?_
                refine G.iload C 4 dX1_bestShift_26 rfl ?_
                refine G.icmp_gt (tgt := 64) C dX1_bestShift_28 (by decide) (fun c_28v3 => ?_) (fun c_28v3 => ?_)
                · obtain ⟨x4_64, ex4_64⟩ : ∃ z : Int32, z = (nI (far + 1)) + 1 := ⟨_, rfl⟩
                  refine G.iinc (v := x4_64) (L1 := [(4, .int x4_64), (5, .int (nI (far + 1) + 2 * nI (far + 1))), (2, .int x2_51v2), (3, .int r_35v2), (6, .int r_35v2), (0, .ref (w.2.2.2.1 15 i)), (1, .ref (w.2.2.2.1 18 j))]) C 4 dX1_bestShift_64 rfl (by rw [ex4_64]; rfl) (by decide) rfl ?_
                  refine G.goto (tgt := 12) C dX1_bestShift_67 (by decide) ?_
                  refine G.sub (L1 := [(4, .int x4_64), (3, .int r_35v2), (2, .int x2_51v2), (0, .ref (w.2.2.2.1 15 i)), (1, .ref (w.2.2.2.1 18 j))]) [0, 3, 2, 5, 6] rfl ?_
                  refine ih  (far + 1) _ _ _ ?_ ?_ ?_ ?_ ?_
                  · omega
                  · omega
                  · rw [ex4_64]; exact nI_1 (far + 1)
                  · rw [e_35] at c_43
                    rw [e_35v2] at c_43v2
                    rw [e_35] at c_43v2
                    have q1 : shS (fun q => fitU (σ.1 16 i) (σ.1 19 j) b q h) (-nI (far + 1)) (shU (fun q => fitU (σ.1 16 i) (σ.1 19 j) b q h) far) = -nI (far + 1) := shS_gt c_43
                    have q2 : shS (fun q => fitU (σ.1 16 i) (σ.1 19 j) b q h) (nI (far + 1)) (-nI (far + 1)) = nI (far + 1) := shS_gt c_43v2
                    simp only [shU]
                    rw [q1, q2]
                    try first | exact e_35v2 | exact e_35 | rfl
                  · rw [e_35] at c_43
                    rw [e_35v2] at c_43v2
                    rw [e_35] at c_43v2
                    have q1 : shS (fun q => fitU (σ.1 16 i) (σ.1 19 j) b q h) (-nI (far + 1)) (shU (fun q => fitU (σ.1 16 i) (σ.1 19 j) b q h) far) = -nI (far + 1) := shS_gt c_43
                    have q2 : shS (fun q => fitU (σ.1 16 i) (σ.1 19 j) b q h) (nI (far + 1)) (-nI (far + 1)) = nI (far + 1) := shS_gt c_43v2
                    simp only [shU]
                    rw [q1, q2]
                    try first | assumption | rfl
                · exact absurd (w_shift3 far (by omega)) c_28v3
  refine cut_12 21 0 _ _ _ ?_ ?_ ?_ ?_ ?_
  · omega
  · omega
  · rfl
  · exact e_5
  · rfl
set_option maxHeartbeats 4000000 in
set_option maxRecDepth 100000 in
theorem ok_X1_mostFitting {w : wD} (hw : wOK w) (σ : wSt) (i j : Nat) (hi : i < wN 15) (hj9 : j < wN 18) {h b : Nat} (hh : σ.1 15 i 1 = nI h) (hh6 : h ≤ 6) (hb : σ.1 18 j 1 = nI b) (hb6 : b ≤ 6) : MI w yX1_mostFitting cX1_mostFitting 2 (some .int) 4 94 [.ref (w.2.2.2.1 15 i), .ref (w.2.2.2.1 18 j)] σ (fun r τ => σ = τ ∧ r = mostU (fun q => fitU (σ.1 16 i) (σ.1 19 j) b q h)) := by
  refine MI.of hw (by decide +kernel) (Nat.le_of_ble_eq_true rfl) (fun x C hr => ?_)
  suffices key : ∀ Q, Q = QI w x (fun r τ => σ = τ ∧ r = mostU (fun q => fitU (σ.1 16 i) (σ.1 19 j) b q h)) → G w x 2 Q 0 [(0, .ref (w.2.2.2.1 15 i)), (1, .ref (w.2.2.2.1 18 j))] [] σ from key _ rfl
  intro Q hQ
  refine G.aload_n C 0 dX1_mostFitting_0 rfl rfl ?_
  refine G.aload_n C 1 dX1_mostFitting_1 rfl rfl ?_
  refine G.aload_n C 0 dX1_mostFitting_2 rfl rfl ?_
  refine G.aload_n C 1 dX1_mostFitting_3 rfl rfl ?_
  have hM_0 := ok_X1_bestShift hw σ i j hi hj9 hh hh6 hb hb6
  refine G.callV C (g := 15) (i := i) none hM_0 dX1_mostFitting_4 hi rfl rfl rfl uv_X1_bestShift ul_RX1_29 rfl rfl (by decide) (Nat.le_of_ble_eq_true rfl) (fun r_4 τ_4 h_4 => ?_)
  obtain ⟨h_4, e_4⟩ := h_4; subst h_4
  have hM_1 := ok_X1_fitting hw σ i j r_4 hi hj9 hh hh6 hb hb6
  refine G.callV C (g := 15) (i := i) none hM_1 dX1_mostFitting_7 hi rfl rfl rfl uv_X1_fitting ul_RX1_33 rfl rfl (by decide) (Nat.le_of_ble_eq_true rfl) (fun r_7 τ_7 h_7 => ?_)
  obtain ⟨h_7, e_7⟩ := h_7; subst h_7
  subst hQ
  exact G.iret C hr dX1_mostFitting_10 (by
      subst e_4
      exact ⟨rfl, e_7⟩)
set_option maxHeartbeats 4000000 in
set_option maxRecDepth 100000 in
theorem ok_X0_hasItFrom {w : wD} (hw : wOK w) (σ : wSt) (a b d : Int32) {c : Nat} (hc : σ.1 2 0 4 = nI c) (hc8 : c ≤ 8) (hE : ∀ k, k < c → rng12 (σ.1 13 0 k)) : MI w yX0_hasItFrom cX0_hasItFrom 6 (some .boolean) 3 69 [.ref (w.2.2.2.1 2 0), .int a, .int b, .int d] σ (fun r τ => σ = τ ∧ r = wb (chU (σ.1 13 0) (fun q => fromU (σ.1 12 0) (costU (σ.1 13 0) (σ.1 2 0 0) (σ.1 2 0 1) (σ.1 2 0 4) q) q.toNatClampNeg c) (σ.1 2 0 4) b d 8 a = true)) := by
  refine MI.of hw (by decide +kernel) (Nat.le_of_ble_eq_true rfl) (fun x C hr => ?_)
  suffices key : ∀ Q, Q = QI w x (fun r τ => σ = τ ∧ r = wb (chU (σ.1 13 0) (fun q => fromU (σ.1 12 0) (costU (σ.1 13 0) (σ.1 2 0 0) (σ.1 2 0 1) (σ.1 2 0 4) q) q.toNatClampNeg c) (σ.1 2 0 4) b d 8 a = true)) → G w x 6 Q 0 [(0, .ref (w.2.2.2.1 2 0)), (1, .int a), (2, .int b), (3, .int d)] [] σ from key _ rfl
  intro Q hQ
  refine G.iload_n C 1 dX0_hasItFrom_0 rfl rfl ?_
  refine G.istore (L1 := [(4, .int a), (0, .ref (w.2.2.2.1 2 0)), (1, .int a), (2, .int b), (3, .int d)]) C dX0_hasItFrom_1 (by decide) rfl ?_
  refine G.iconst (v := 0) C dX0_hasItFrom_3 (by decide) ?_
  refine G.istore (L1 := [(5, .int 0), (4, .int a), (0, .ref (w.2.2.2.1 2 0)), (1, .int a), (2, .int b), (3, .int d)]) C dX0_hasItFrom_4 (by decide) rfl ?_
  have cut_6 : ∀ (m9 : Nat) (j : Nat) (on : Int32) (x5 : Int32), j ≤ 8 → 8 < j + m9 → chU (σ.1 13 0) (fun q => fromU (σ.1 12 0) (costU (σ.1 13 0) (σ.1 2 0 0) (σ.1 2 0 1) (σ.1 2 0 4) q) q.toNatClampNeg c) (σ.1 2 0 4) b d (8 - j) on = chU (σ.1 13 0) (fun q => fromU (σ.1 12 0) (costU (σ.1 13 0) (σ.1 2 0 0) (σ.1 2 0 1) (σ.1 2 0 4) q) q.toNatClampNeg c) (σ.1 2 0 4) b d 8 a → x5 = nI j → G w x 6 Q 6 [(5, .int x5), (4, .int on), (0, .ref (w.2.2.2.1 2 0)), (1, .int a), (2, .int b), (3, .int d)] [] σ := by
    intro m9
    induction m9 with
    | zero =>
      intro j on x5 hj hm hch hx5
      exfalso
      omega
    | succ m9 ih =>
      intro j on x5 hj hm hch hx5
      subst hx5
      refine G.iload C 0 dX0_hasItFrom_6 rfl ?_
      refine G.bipush (v := 8) C dX0_hasItFrom_8 (by decide) ?_
      refine G.icmp_ge (tgt := 60) C dX0_hasItFrom_10 (by decide) (fun c_10 => ?_) (fun c_10 => ?_)
      · have hj8 : j = 8 := by
          rw [show (8 : Int32) = nI 8 from rfl, nI_leI (by decide) (by omega)] at c_10; omega
        refine G.iconst (v := 0) C dX0_hasItFrom_60 (by decide) ?_
        subst hQ
        exact G.zret C hr (by rfl) dX0_hasItFrom_61 (by
            refine ⟨rfl, (wb_f ?_).symm⟩
            rw [← hch, hj8]
            exact Bool.false_ne_true)
      · have hj8 : j < 8 := by
          rw [show (8 : Int32) = nI 8 from rfl, nI_leI (by decide) (by omega)] at c_10; omega
        obtain ⟨k9, hk9⟩ : ∃ k9, 8 - j = k9 + 1 := ⟨7 - j, by omega⟩
        rw [hk9] at hch
        refine G.aload_n C 2 dX0_hasItFrom_13 rfl rfl ?_
        refine G.iload C 1 dX0_hasItFrom_14 rfl ?_
        have hM_0 := ok_X0_hasMap hw σ on
        refine G.callV C (g := 2) (i := 0) none hM_0 dX0_hasItFrom_16 (by decide) rfl rfl rfl uv_X0_hasMap ul_RX0_28 rfl rfl (by decide) (Nat.le_of_ble_eq_true rfl) (fun r_16 τ_16 h_16 => ?_)
        obtain ⟨h_16, e_16⟩ := h_16; subst h_16
        refine G.if_eq (tgt := 36) C dX0_hasItFrom_19 (by decide) (fun c_19 => ?_) (fun c_19 => ?_)
        · have b_16 := wb_0 e_16 c_19
          refine G.iconst (v := 0) C dX0_hasItFrom_36 (by decide) ?_
          subst hQ
          exact G.zret C hr (by rfl) dX0_hasItFrom_37 (by
              refine ⟨rfl, (wb_f ?_).symm⟩
              rw [← hch]
              simp only [chU]
              rw [if_pos b_16]
              decide)
        · have b_16 := wb_1 e_16 c_19
          refine G.aload_n C 2 dX0_hasItFrom_22 rfl rfl ?_
          refine G.get (g := 2) (i := 0) C 3 none dX0_hasItFrom_23 (by decide) rfl rfl uX_X0 (by decide) uf_RX0_22 rfl rfl ?_
          refine G.iload C 1 dX0_hasItFrom_26 rfl ?_
          have hin_28 : vp_in on 8 := by
            exact vp_ofc b_16 hc hc8 (by decide)
          refine G.iald (g := 13) (i := 0) (n := 8) C dX0_hasItFrom_28 (by decide) rfl hin_28 ?_
          refine G.iload_n C 5 dX0_hasItFrom_29 rfl rfl ?_
          have hM_1 := ok_X5_has hw σ (σ.1 13 0 on.toNatClampNeg) d
          refine G.callS C (some "PlateRoom") hM_1 dX0_hasItFrom_30 us_X5_has unm_RX0_53 rfl rfl (by decide) (Nat.le_of_ble_eq_true rfl) (fun r_30 τ_30 h_30 => ?_)
          obtain ⟨h_30, e_30⟩ := h_30; subst h_30
          refine G.if_ne (tgt := 38) C dX0_hasItFrom_33 (by decide) (fun c_33 => ?_) (fun c_33 => ?_)
          · have b_30 := wb_1 e_30 c_33
            refine G.iload C 1 dX0_hasItFrom_38 rfl ?_
            refine G.iload_n C 4 dX0_hasItFrom_40 rfl rfl ?_
            refine G.icmp_ne (tgt := 46) C dX0_hasItFrom_41 (by decide) (fun c_41 => ?_) (fun c_41 => ?_)
            · refine G.aload_n C 2 dX0_hasItFrom_46 rfl rfl ?_
              refine G.iload C 1 dX0_hasItFrom_47 rfl ?_
              have hM_2 := ok_X0_cheapest hw σ on hc hc8 hE b_16
              refine G.callV C (g := 2) (i := 0) none hM_2 dX0_hasItFrom_49 (by decide) rfl rfl rfl uv_X0_cheapest ul_RX0_46 rfl rfl (by decide) (Nat.le_of_ble_eq_true rfl) (fun r_49 τ_49 h_49 => ?_)
              obtain ⟨h_49, e_49⟩ := h_49; subst h_49
              refine G.istore (L1 := [(4, .int r_49), (5, .int (nI j)), (0, .ref (w.2.2.2.1 2 0)), (1, .int a), (2, .int b), (3, .int d)]) C dX0_hasItFrom_52 (by decide) rfl ?_
              obtain ⟨x5_54, ex5_54⟩ : ∃ z : Int32, z = (nI j) + 1 := ⟨_, rfl⟩
              refine G.iinc (v := x5_54) (L1 := [(5, .int x5_54), (4, .int r_49), (0, .ref (w.2.2.2.1 2 0)), (1, .int a), (2, .int b), (3, .int d)]) C 1 dX0_hasItFrom_54 rfl (by rw [ex5_54]; rfl) (by decide) rfl ?_
              refine G.goto (tgt := 6) C dX0_hasItFrom_57 (by decide) ?_
              refine ih  (j + 1) _ _ ?_ ?_ ?_ ?_
              · omega
              · omega
              · rw [← hch, show 8 - (j + 1) = k9 by omega]
                simp only [chU]
                rw [if_neg (fun q => q b_16), if_neg (fun q => q b_30), if_neg c_41, e_49]
              · rw [ex5_54]; exact nI_1 j
            · refine G.iconst (v := 1) C dX0_hasItFrom_44 (by decide) ?_
              subst hQ
              exact G.zret C hr (by rfl) dX0_hasItFrom_45 (by
                  refine ⟨rfl, (wb_t ?_).symm⟩
                  rw [← hch]
                  simp only [chU]
                  rw [if_neg (fun q => q b_16), if_neg (fun q => q b_30), if_pos c_41])
          · have b_30 := wb_0 e_30 c_33
            refine G.iconst (v := 0) C dX0_hasItFrom_36 (by decide) ?_
            subst hQ
            exact G.zret C hr (by rfl) dX0_hasItFrom_37 (by
                refine ⟨rfl, (wb_f ?_).symm⟩
                rw [← hch]
                simp only [chU]
                rw [if_neg (fun q => q b_16), if_pos b_30]
                decide)
  refine cut_6 9 0 _ _ ?_ ?_ ?_ ?_
  · omega
  · omega
  · rfl
  · rfl
set_option maxHeartbeats 4000000 in
set_option maxRecDepth 100000 in
theorem ok_X0_lifeOf {w : wD} (hw : wOK w) (σ : wSt) (a b : Int32) {c : Nat} (hc : σ.1 2 0 4 = nI c) (hc8 : c ≤ 8) (hE : ∀ k, k < c → rng12 (σ.1 13 0 k)) : MI w yX0_lifeOf cX0_lifeOf 5 (some .int) 4 94 [.ref (w.2.2.2.1 2 0), .int a, .int b] σ (fun r τ => σ = τ ∧ r = lifeU (fun q => chU (σ.1 13 0) (fun q => fromU (σ.1 12 0) (costU (σ.1 13 0) (σ.1 2 0 0) (σ.1 2 0 1) (σ.1 2 0 4) q) q.toNatClampNeg c) (σ.1 2 0 4) a b 8 q) c) := by
  refine MI.of hw (by decide +kernel) (Nat.le_of_ble_eq_true rfl) (fun x C hr => ?_)
  suffices key : ∀ Q, Q = QI w x (fun r τ => σ = τ ∧ r = lifeU (fun q => chU (σ.1 13 0) (fun q => fromU (σ.1 12 0) (costU (σ.1 13 0) (σ.1 2 0 0) (σ.1 2 0 1) (σ.1 2 0 4) q) q.toNatClampNeg c) (σ.1 2 0 4) a b 8 q) c) → G w x 5 Q 0 [(0, .ref (w.2.2.2.1 2 0)), (1, .int a), (2, .int b)] [] σ from key _ rfl
  intro Q hQ
  refine G.iconst (v := 0) C dX0_lifeOf_0 (by decide) ?_
  refine G.istore_n (L1 := [(3, .int 0), (0, .ref (w.2.2.2.1 2 0)), (1, .int a), (2, .int b)]) C dX0_lifeOf_1 rfl (by decide) rfl ?_
  refine G.iconst (v := 0) C dX0_lifeOf_2 (by decide) ?_
  refine G.istore (L1 := [(4, .int 0), (3, .int 0), (0, .ref (w.2.2.2.1 2 0)), (1, .int a), (2, .int b)]) C dX0_lifeOf_3 (by decide) rfl ?_
  have cut_5 : ∀ (m9 : Nat) (j : Nat) (x4 x3 : Int32), j ≤ c → c < j + m9 → x4 = nI j → x3 = lifeU (fun q => chU (σ.1 13 0) (fun q => fromU (σ.1 12 0) (costU (σ.1 13 0) (σ.1 2 0 0) (σ.1 2 0 1) (σ.1 2 0 4) q) q.toNatClampNeg c) (σ.1 2 0 4) a b 8 q) j → G w x 5 Q 5 [(4, .int x4), (3, .int x3), (0, .ref (w.2.2.2.1 2 0)), (1, .int a), (2, .int b)] [] σ := by
    intro m9
    induction m9 with
    | zero =>
      intro j x4 x3 hj hm hx4 hx3
      exfalso
      omega
    | succ m9 ih =>
      intro j x4 x3 hj hm hx4 hx3
      subst hx4
      subst hx3
      refine G.iload C 0 dX0_lifeOf_5 rfl ?_
      refine G.aload_n C 2 dX0_lifeOf_7 rfl rfl ?_
      refine G.get (g := 2) (i := 0) C 4 none dX0_lifeOf_8 (by decide) rfl rfl uX_X0 (by decide) uf_RX0_25 rfl rfl ?_
      refine G.icmp_ge (tgt := 34) C dX0_lifeOf_11 (by decide) (fun c_11 => ?_) (fun c_11 => ?_)
      · have hjn : j = c := by
          rw [hc, nI_leI (by omega) (by omega)] at c_11; omega
        refine G.iload_n C 1 dX0_lifeOf_34 rfl rfl ?_
        subst hQ
        exact G.iret C hr dX0_lifeOf_35 (by
            rw [hjn]
            exact ⟨rfl, rfl⟩)
      · have hjn : j < c := by
          rw [hc, nI_leI (by omega) (by omega)] at c_11; omega
        refine G.aload_n C 2 dX0_lifeOf_14 rfl rfl ?_
        refine G.iload C 0 dX0_lifeOf_15 rfl ?_
        refine G.iload_n C 3 dX0_lifeOf_17 rfl rfl ?_
        refine G.iload_n C 4 dX0_lifeOf_18 rfl rfl ?_
        have hM_0 := ok_X0_hasItFrom hw σ (nI j) a b hc hc8 hE
        refine G.callV C (g := 2) (i := 0) none hM_0 dX0_lifeOf_19 (by decide) rfl rfl rfl uv_X0_hasItFrom ul_RX0_49 rfl rfl (by decide) (Nat.le_of_ble_eq_true rfl) (fun r_19 τ_19 h_19 => ?_)
        obtain ⟨h_19, e_19⟩ := h_19; subst h_19
        refine G.if_eq (tgt := 28) C dX0_lifeOf_22 (by decide) (fun c_22 => ?_) (fun c_22 => ?_)
        · have b_19 := wb_0 e_19 c_22
          obtain ⟨x4_28, ex4_28⟩ : ∃ z : Int32, z = (nI j) + 1 := ⟨_, rfl⟩
          refine G.iinc (v := x4_28) (L1 := [(4, .int x4_28), (3, .int (lifeU (fun q => chU (σ.1 13 0) (fun q => fromU (σ.1 12 0) (costU (σ.1 13 0) (σ.1 2 0 0) (σ.1 2 0 1) (σ.1 2 0 4) q) q.toNatClampNeg c) (σ.1 2 0 4) a b 8 q) j)), (0, .ref (w.2.2.2.1 2 0)), (1, .int a), (2, .int b)]) C 0 dX0_lifeOf_28 rfl (by rw [ex4_28]; rfl) (by decide) rfl ?_
          refine G.goto (tgt := 5) C dX0_lifeOf_31 (by decide) ?_
          refine ih  (j + 1) _ _ ?_ ?_ ?_ ?_
          · omega
          · omega
          · rw [ex4_28]; exact nI_1 j
          · rw [lifeU_f b_19]
        · have b_19 := wb_1 e_19 c_22
          obtain ⟨x3_25, ex3_25⟩ : ∃ z : Int32, z = (lifeU (fun q => chU (σ.1 13 0) (fun q => fromU (σ.1 12 0) (costU (σ.1 13 0) (σ.1 2 0 0) (σ.1 2 0 1) (σ.1 2 0 4) q) q.toNatClampNeg c) (σ.1 2 0 4) a b 8 q) j) + 1 := ⟨_, rfl⟩
          refine G.iinc (v := x3_25) (L1 := [(3, .int x3_25), (4, .int (nI j)), (0, .ref (w.2.2.2.1 2 0)), (1, .int a), (2, .int b)]) C 1 dX0_lifeOf_25 rfl (by rw [ex3_25]; rfl) (by decide) rfl ?_
          obtain ⟨x4_28, ex4_28⟩ : ∃ z : Int32, z = (nI j) + 1 := ⟨_, rfl⟩
          refine G.iinc (v := x4_28) (L1 := [(4, .int x4_28), (3, .int x3_25), (0, .ref (w.2.2.2.1 2 0)), (1, .int a), (2, .int b)]) C 1 dX0_lifeOf_28 rfl (by rw [ex4_28]; rfl) (by decide) rfl ?_
          refine G.goto (tgt := 5) C dX0_lifeOf_31 (by decide) ?_
          refine ih  (j + 1) _ _ ?_ ?_ ?_ ?_
          · omega
          · omega
          · rw [ex4_28]; exact nI_1 j
          · rw [ex3_25, lifeU_t b_19]
  refine cut_5 (c + 1) 0 _ _ ?_ ?_ ?_ ?_
  · omega
  · omega
  · rfl
  · rfl
end
section
/-! PART 03.d: more words for contracts -/
abbrev okY (a : Int32) : Prop := 1500 ≤ a ∧ a ≤ 1900
abbrev okYY (a b : Int32) : Prop := okY a ∧ okY b ∧ a ≤ b
abbrev okLeaf (a b c d : Int32) : Prop := rng12 a ∧ rng12 b ∧ a &&& b = 0 ∧ (0 ≤ c ∧ c ≤ 1000) ∧ 0 ≤ d ∧ d ≤ 2
theorem w_lt3 {d : Int32} (h : d < 3) : d ≤ 2 := by
  rw [Int32.lt_iff_toInt_lt] at h
  rw [Int32.le_iff_toInt_le]
  have e1 : (3 : Int32).toInt = 3 := rfl
  have e2 : (2 : Int32).toInt = 2 := rfl
  omega
theorem w_le2 {d : Int32} (h : d ≤ 2) : d < 3 := by
  rw [Int32.le_iff_toInt_le] at h
  rw [Int32.lt_iff_toInt_lt]
  have e1 : (3 : Int32).toInt = 3 := rfl
  have e2 : (2 : Int32).toInt = 2 := rfl
  omega
theorem w_out {u k : Int32} (h : u.toInt < 0 ∨ k.toInt < u.toInt) (h0 : 0 ≤ u) (h1 : u ≤ k) : False := by
  rw [Int32.le_iff_toInt_le] at h0 h1
  have e : (0 : Int32).toInt = 0 := rfl
  omega
/-- the greatest that a charge may be -/
def mostC (a : Int32) : Int32 := if a = 0 then 9 else if a = 1 then 9 else if a = 2 then 50 else if a = 3 then 9 else if a = 4 then 20 else -1
theorem mostC_out {a : Int32} (h : a < 0 ∨ 4 < a) : mostC a = -1 := by
  have h0 : ¬ a = 0 := fun e => by subst e; exact absurd h (by decide)
  have h1 : ¬ a = 1 := fun e => by subst e; exact absurd h (by decide)
  have h2 : ¬ a = 2 := fun e => by subst e; exact absurd h (by decide)
  have h3 : ¬ a = 3 := fun e => by subst e; exact absurd h (by decide)
  have h4 : ¬ a = 4 := fun e => by subst e; exact absurd h (by decide)
  simp [mostC, h0, h1, h2, h3, h4]
theorem mostC_out2 {a : Int32} (h : a.toInt < 0 ∨ 4 < a.toInt) : mostC a = -1 := mostC_out (by rw [Int32.lt_iff_toInt_lt, Int32.lt_iff_toInt_lt]; exact h)
theorem mostC_in {a b : Int32} (h : 0 ≤ b) (h2 : b ≤ mostC a) : 0 ≤ a ∧ a ≤ 4 := by
  refine Classical.byContradiction fun q => ?_
  have h3 : a < 0 ∨ 4 < a := by
    rcases Classical.em (a < 0) with z | z
    · exact Or.inl z
    · exact Or.inr (Int32.not_le.mp fun z2 => q ⟨Int32.not_lt.mp z, z2⟩)
  rw [mostC_out h3] at h2
  exact absurd (Int32.le_trans h h2) (by decide)
theorem wUpL_ov {s : wSt} {j : Nat} {a b : Int64} : wUpL (wUpL s j a) j b = wUpL s j b := by
  refine Prod.ext rfl ?_
  funext k
  simp only [wUpL]
  split <;> rfl
end
section
set_option maxHeartbeats 4000000 in
set_option maxRecDepth 100000 in
theorem ok_X5_areYears {w : wD} (hw : wOK w) (σ : wSt) (a b : Int32)  : MI w yX5_areYears cX5_areYears 2 (some .boolean) 1 20 [.int a, .int b] σ (fun r τ => σ = τ ∧ r = wb (okYY a b)) := by
  refine MI.of hw (by decide +kernel) (Nat.le_of_ble_eq_true rfl) (fun x C hr => ?_)
  suffices key : ∀ Q, Q = QI w x (fun r τ => σ = τ ∧ r = wb (okYY a b)) → G w x 2 Q 0 [(0, .int a), (1, .int b)] [] σ from key _ rfl
  intro Q hQ
  refine G.iload_n C 0 dX5_areYears_0 rfl rfl ?_
  have hM_0 := ok_X5_isYear hw σ a
  refine G.callS C none hM_0 dX5_areYears_1 us_X5_isYear ul_RX5_136 rfl rfl (by decide) (Nat.le_of_ble_eq_true rfl) (fun r_1 τ_1 h_1 => ?_)
  obtain ⟨h_1, e_1⟩ := h_1; subst h_1
  refine G.if_eq (tgt := 23) C dX5_areYears_4 (by decide) (fun c_4 => ?_) (fun c_4 => ?_)
  · have b_1 := wb_0 e_1 c_4
    refine G.iconst (v := 0) C dX5_areYears_23 (by decide) ?_
    subst hQ
    exact G.zret C hr (by rfl) dX5_areYears_24 (by
        exact ⟨rfl, (wb_f (fun q => b_1 q.1)).symm⟩)
  · have b_1 := wb_1 e_1 c_4
    refine G.iload_n C 1 dX5_areYears_7 rfl rfl ?_
    have hM_1 := ok_X5_isYear hw σ b
    refine G.callS C none hM_1 dX5_areYears_8 us_X5_isYear ul_RX5_136 rfl rfl (by decide) (Nat.le_of_ble_eq_true rfl) (fun r_8 τ_8 h_8 => ?_)
    obtain ⟨h_8, e_8⟩ := h_8; subst h_8
    refine G.if_eq (tgt := 23) C dX5_areYears_11 (by decide) (fun c_11 => ?_) (fun c_11 => ?_)
    · have b_8 := wb_0 e_8 c_11
      refine G.iconst (v := 0) C dX5_areYears_23 (by decide) ?_
      subst hQ
      exact G.zret C hr (by rfl) dX5_areYears_24 (by
          exact ⟨rfl, (wb_f (fun q => b_8 q.2.1)).symm⟩)
    · have b_8 := wb_1 e_8 c_11
      refine G.iload_n C 0 dX5_areYears_14 rfl rfl ?_
      refine G.iload_n C 1 dX5_areYears_15 rfl rfl ?_
      refine G.icmp_gt (tgt := 23) C dX5_areYears_16 (by decide) (fun c_16 => ?_) (fun c_16 => ?_)
      · refine G.iconst (v := 0) C dX5_areYears_23 (by decide) ?_
        subst hQ
        exact G.zret C hr (by rfl) dX5_areYears_24 (by
            exact ⟨rfl, (wb_f (fun q => Int32.not_le.mpr c_16 q.2.2)).symm⟩)
      · refine G.iconst (v := 1) C dX5_areYears_19 (by decide) ?_
        refine G.goto (tgt := 24) C dX5_areYears_20 (by decide) ?_
        subst hQ
        exact G.zret C hr (by rfl) dX5_areYears_24 (by
            exact ⟨rfl, (wb_t ⟨b_1, b_8, Int32.not_lt.mp c_16⟩).symm⟩)
set_option maxHeartbeats 4000000 in
set_option maxRecDepth 100000 in
theorem ok_X3_addState {w : wD} (hw : wOK w) (σ : wSt) (a b c : Int32) {n : Nat} (hn : σ.1 1 0 5 = nI n) (h6 : n ≤ 6) : MI w yX3_addState cX3_addState 4 (some .int) 1 22 [.ref (w.2.2.2.1 1 0), .int a, .int b, .int c] σ (fun r τ => (6 ≤ n ∧ σ = τ ∧ r = -3) ∨ (n < 6 ∧ wUp (wUp (wUp (wUp σ 6 0 n a) 11 n 0 b) 11 n 1 c) 1 0 5 (nI (n + 1)) = τ ∧ r = nI n)) := by
  refine MI.of hw (by decide +kernel) (Nat.le_of_ble_eq_true rfl) (fun x C hr => ?_)
  suffices key : ∀ Q, Q = QI w x (fun r τ => (6 ≤ n ∧ σ = τ ∧ r = -3) ∨ (n < 6 ∧ wUp (wUp (wUp (wUp σ 6 0 n a) 11 n 0 b) 11 n 1 c) 1 0 5 (nI (n + 1)) = τ ∧ r = nI n)) → G w x 4 Q 0 [(0, .ref (w.2.2.2.1 1 0)), (1, .int a), (2, .int b), (3, .int c)] [] σ from key _ rfl
  intro Q hQ
  refine G.aload_n C 0 dX3_addState_0 rfl rfl ?_
  refine G.get (g := 1) (i := 0) C 5 none dX3_addState_1 (by decide) rfl rfl uX_X3 (by decide) uf_RX3_31 rfl rfl ?_
  refine G.bipush (v := 6) C dX3_addState_4 (by decide) ?_
  refine G.icmp_lt (tgt := 12) C dX3_addState_6 (by decide) (fun c_6 => ?_) (fun c_6 => ?_)
  · have hh9 : n < 6 := by
      rw [hn] at c_6
      exact (nI_ltI (by omega) (by decide)).mp c_6
    refine G.aload_n C 0 dX3_addState_12 rfl rfl ?_
    refine G.get (g := 1) (i := 0) C 3 none dX3_addState_13 (by decide) rfl rfl uX_X3 (by decide) uf_RX3_21 rfl rfl ?_
    refine G.aload_n C 0 dX3_addState_16 rfl rfl ?_
    refine G.get (g := 1) (i := 0) C 5 none dX3_addState_17 (by decide) rfl rfl uX_X3 (by decide) uf_RX3_31 rfl rfl ?_
    refine G.iload_n C 1 dX3_addState_20 rfl rfl ?_
    have hin_21 : vp_in (σ.1 1 0 5) 6 := by
      rw [hn]; exact vp_in_nI (by omega) (by decide)
    refine G.iast (g := 6) (i := 0) (n := 6) C dX3_addState_21 (by decide) rfl hin_21 w_ast_6 ?_
    refine G.aload_n C 0 dX3_addState_22 rfl rfl ?_
    refine G.get (g := 1) (i := 0) C 4 none dX3_addState_23 (by decide) rfl rfl uX_X3 (by decide) uf_RX3_27 rfl rfl ?_
    refine G.aload_n C 0 dX3_addState_26 rfl rfl ?_
    refine G.get (g := 1) (i := 0) C 5 none dX3_addState_27 (by decide) rfl rfl uX_X3 (by decide) uf_RX3_31 rfl rfl ?_
    have hin_30 : vp_in ((wUp σ 6 0 (σ.1 1 0 5).toNatClampNeg a).1 1 0 5) 6 := by
      rw [wUp_ng (by decide), hn]; exact vp_in_nI (by omega) (by decide)
    refine G.aald (g := 7) (i := 0) (n := 6) (f := fun q => w.2.2.2.1 11 q) C 2 dX3_addState_30 (by decide) rfl rfl rfl hin_30 ?_
    refine G.iload_n C 2 dX3_addState_31 rfl rfl ?_
    refine G.iload_n C 3 dX3_addState_32 rfl rfl ?_
    have hM_0 := ok_X4_put_11 hw (wUp σ 6 0 (σ.1 1 0 5).toNatClampNeg a) (((wUp σ 6 0 (σ.1 1 0 5).toNatClampNeg a).1 1 0 5).toNatClampNeg) b c (vp_lt hin_30)
    refine G.callVv C (g := 11) (i := (((wUp σ 6 0 (σ.1 1 0 5).toNatClampNeg a).1 1 0 5).toNatClampNeg)) (some "PlateRoom") hM_0 dX3_addState_33 (vp_lt hin_30) rfl rfl rfl uv_X4_put unm_RX3_43 rfl rfl (by decide) (Nat.le_of_ble_eq_true rfl) (fun τ_33 h_33 => ?_)
    subst h_33
    refine G.aload_n C 0 dX3_addState_36 rfl rfl ?_
    refine G.dup C dX3_addState_37 rfl ?_
    refine G.get (g := 1) (i := 0) C 5 none dX3_addState_38 (by decide) rfl rfl uX_X3 (by decide) uf_RX3_31 rfl rfl ?_
    refine G.dup_x1 C dX3_addState_41 rfl rfl ?_
    refine G.iconst (v := 1) C dX3_addState_42 (by decide) ?_
    refine G.iadd C dX3_addState_43 ?_
    refine G.put (g := 1) (i := 0) C 5 none dX3_addState_44 (by decide) rfl rfl uX_X3 tyX3 tyX3_ok nmX3 (by decide) uf_RX3_31 rfl rfl (by decide +kernel) (Nat.le_of_ble_eq_true rfl) w_up_1_5 ?_
    subst hQ
    exact G.iret C hr dX3_addState_47 (by
        refine Or.inr ⟨hh9, ?_, ?_⟩
        · simp only [wUp_ng (show 1 ≠ 6 by decide), wUp_ng (show 1 ≠ 11 by decide), hn, nI_clamp (show n < 2 ^ 31 by omega), nI_1]
        · simp only [wUp_ng (show 1 ≠ 6 by decide), wUp_ng (show 1 ≠ 11 by decide), hn, nI_clamp (show n < 2 ^ 31 by omega), nI_1])
  · have hh9 : 6 ≤ n := by
      rw [hn] at c_6
      rcases Nat.lt_or_ge n 6 with q | q
      · exact absurd (nI_lt q (by decide)) c_6
      · exact q
    refine G.bipush (v := -3) C dX3_addState_9 (by decide) ?_
    subst hQ
    exact G.iret C hr dX3_addState_11 (by
        exact Or.inl ⟨hh9, rfl, rfl⟩)
set_option maxHeartbeats 4000000 in
set_option maxRecDepth 100000 in
theorem ok_X5_state {w : wD} (hw : wOK w) (σ : wSt) (a b c : Int32) {n : Nat} (hn : σ.1 1 0 5 = nI n) (h6 : n ≤ 6) : MI w yX5_state cX5_state 4 (some .int) 2 45 [.ref (w.2.2.2.1 0 0), .int a, .int b, .int c] σ (fun r τ => (¬ (rng12 a ∧ okYY b c) ∧ σ = τ ∧ r = -1) ∨ ((rng12 a ∧ okYY b c) ∧ ((6 ≤ n ∧ σ = τ ∧ r = -3) ∨ (n < 6 ∧ wUp (wUp (wUp (wUp σ 6 0 n a) 11 n 0 b) 11 n 1 c) 1 0 5 (nI (n + 1)) = τ ∧ r = nI n)))) := by
  refine MI.of hw (by decide +kernel) (Nat.le_of_ble_eq_true rfl) (fun x C hr => ?_)
  suffices key : ∀ Q, Q = QI w x (fun r τ => (¬ (rng12 a ∧ okYY b c) ∧ σ = τ ∧ r = -1) ∨ ((rng12 a ∧ okYY b c) ∧ ((6 ≤ n ∧ σ = τ ∧ r = -3) ∨ (n < 6 ∧ wUp (wUp (wUp (wUp σ 6 0 n a) 11 n 0 b) 11 n 1 c) 1 0 5 (nI (n + 1)) = τ ∧ r = nI n)))) → G w x 4 Q 0 [(0, .ref (w.2.2.2.1 0 0)), (1, .int a), (2, .int b), (3, .int c)] [] σ from key _ rfl
  intro Q hQ
  refine G.iload_n C 1 dX5_state_0 rfl rfl ?_
  have hM_0 := ok_X5_areLines hw σ a
  refine G.callS C none hM_0 dX5_state_1 us_X5_areLines ul_RX5_55 rfl rfl (by decide) (Nat.le_of_ble_eq_true rfl) (fun r_1 τ_1 h_1 => ?_)
  obtain ⟨h_1, e_1⟩ := h_1; subst h_1
  refine G.if_eq (tgt := 15) C dX5_state_4 (by decide) (fun c_4 => ?_) (fun c_4 => ?_)
  · have b_1 := wb_0 e_1 c_4
    refine G.iconst (v := -1) C dX5_state_15 (by decide) ?_
    subst hQ
    exact G.iret C hr dX5_state_16 (by
        refine Or.inl ⟨fun q => ?_, rfl, rfl⟩
        first | exact b_1 q.1 | exact b_9 q.2)
  · have b_1 := wb_1 e_1 c_4
    refine G.iload_n C 2 dX5_state_7 rfl rfl ?_
    refine G.iload_n C 3 dX5_state_8 rfl rfl ?_
    have hM_1 := ok_X5_areYears hw σ b c
    refine G.callS C none hM_1 dX5_state_9 us_X5_areYears ul_RX5_59 rfl rfl (by decide) (Nat.le_of_ble_eq_true rfl) (fun r_9 τ_9 h_9 => ?_)
    obtain ⟨h_9, e_9⟩ := h_9; subst h_9
    refine G.if_ne (tgt := 17) C dX5_state_12 (by decide) (fun c_12 => ?_) (fun c_12 => ?_)
    · have b_9 := wb_1 e_9 c_12
      refine G.aload_n C 0 dX5_state_17 rfl rfl ?_
      refine G.get (g := 0) (i := 0) C 0 none dX5_state_18 (by decide) rfl rfl uX_X5 (by decide) uf_RX5_10 rfl rfl ?_
      refine G.iload_n C 1 dX5_state_21 rfl rfl ?_
      refine G.iload_n C 2 dX5_state_22 rfl rfl ?_
      refine G.iload_n C 3 dX5_state_23 rfl rfl ?_
      have hM_2 := ok_X3_addState hw σ a b c hn h6
      refine G.callV C (g := 1) (i := 0) (some "PlateRoom") hM_2 dX5_state_24 (by decide) rfl rfl rfl uv_X3_addState unm_RX5_63 rfl rfl (by decide) (Nat.le_of_ble_eq_true rfl) (fun r_24 τ_24 h_24 => ?_)
      subst hQ
      exact G.iret C hr dX5_state_27 (by
          exact Or.inr ⟨⟨b_1, b_9⟩, h_24⟩)
    · have b_9 := wb_0 e_9 c_12
      refine G.iconst (v := -1) C dX5_state_15 (by decide) ?_
      subst hQ
      exact G.iret C hr dX5_state_16 (by
          refine Or.inl ⟨fun q => ?_, rfl, rfl⟩
          first | exact b_1 q.1 | exact b_9 q.2)
set_option maxHeartbeats 4000000 in
set_option maxRecDepth 100000 in
theorem ok_X5_about {w : wD} (hw : wOK w) (σ : wSt) (a b : Int32) {n : Nat} (hn : σ.1 1 0 5 = nI n) (h6 : n ≤ 6) : MI w yX5_about cX5_about 3 (some .int) 1 21 [.ref (w.2.2.2.1 0 0), .int a, .int b] σ (fun r τ => σ = τ ∧ ((¬ (inN (σ.1 1 0 5) a ∧ 0 ≤ b ∧ b ≤ 2) ∧ r = -1) ∨ ((inN (σ.1 1 0 5) a ∧ 0 ≤ b ∧ b ≤ 2) ∧ r = if b = 0 then σ.1 6 0 a.toNatClampNeg else if b = 1 then σ.1 11 a.toNatClampNeg 0 else σ.1 11 a.toNatClampNeg 1))) := by
  refine MI.of hw (by decide +kernel) (Nat.le_of_ble_eq_true rfl) (fun x C hr => ?_)
  suffices key : ∀ Q, Q = QI w x (fun r τ => σ = τ ∧ ((¬ (inN (σ.1 1 0 5) a ∧ 0 ≤ b ∧ b ≤ 2) ∧ r = -1) ∨ ((inN (σ.1 1 0 5) a ∧ 0 ≤ b ∧ b ≤ 2) ∧ r = if b = 0 then σ.1 6 0 a.toNatClampNeg else if b = 1 then σ.1 11 a.toNatClampNeg 0 else σ.1 11 a.toNatClampNeg 1))) → G w x 3 Q 0 [(0, .ref (w.2.2.2.1 0 0)), (1, .int a), (2, .int b)] [] σ from key _ rfl
  intro Q hQ
  refine G.aload_n C 0 dX5_about_0 rfl rfl ?_
  refine G.get (g := 0) (i := 0) C 0 none dX5_about_1 (by decide) rfl rfl uX_X5 (by decide) uf_RX5_10 rfl rfl ?_
  refine G.iload_n C 1 dX5_about_4 rfl rfl ?_
  have hM_0 := ok_X3_hasState hw σ a
  refine G.callV C (g := 1) (i := 0) (some "PlateRoom") hM_0 dX5_about_5 (by decide) rfl rfl rfl uv_X3_hasState unm_RX5_67 rfl rfl (by decide) (Nat.le_of_ble_eq_true rfl) (fun r_5 τ_5 h_5 => ?_)
  obtain ⟨h_5, e_5⟩ := h_5; subst h_5
  refine G.if_ne (tgt := 13) C dX5_about_8 (by decide) (fun c_8 => ?_) (fun c_8 => ?_)
  · have b_5 := wb_1 e_5 c_8
    refine G.iload_n C 2 dX5_about_13 rfl rfl ?_
    refine G.table C dX5_about_14 (fun j off hj hb ho => ?_) (by decide) (fun hj => ?_)
    · have hj9 : j < 3 := by have := (Array.getElem?_eq_some_iff.mp ho).1; simpa using this
      rcases (show j = 0 ∨ j = 1 ∨ j = 2 by omega) with rfl | rfl | rfl
      · cases ho
        refine ⟨40, by decide, ?_⟩
        have c_14 : b = 0 := w_ofInt (by simpa using hj)
        refine G.aload_n C 0 dX5_about_40 rfl rfl ?_
        refine G.get (g := 0) (i := 0) C 0 none dX5_about_41 (by decide) rfl rfl uX_X5 (by decide) uf_RX5_10 rfl rfl ?_
        refine G.get (g := 1) (i := 0) C 3 (some "PlateRoom") dX5_about_44 (by decide) rfl rfl uX_X3 (by decide) unf_RX5_70 rfl rfl ?_
        refine G.iload_n C 1 dX5_about_47 rfl rfl ?_
        have hin_48 : vp_in a 6 := by
          exact vp_ofc b_5 hn h6 (by decide)
        refine G.iald (g := 6) (i := 0) (n := 6) C dX5_about_48 (by decide) rfl hin_48 ?_
        subst hQ
        exact G.iret C hr dX5_about_49 (by
            subst c_14
            exact ⟨rfl, Or.inr ⟨⟨b_5, by decide, by decide⟩, rfl⟩⟩)
      · cases ho
        refine ⟨50, by decide, ?_⟩
        have c_14 : b = 1 := w_ofInt (by simpa using hj)
        refine G.aload_n C 0 dX5_about_50 rfl rfl ?_
        refine G.get (g := 0) (i := 0) C 0 none dX5_about_51 (by decide) rfl rfl uX_X5 (by decide) uf_RX5_10 rfl rfl ?_
        refine G.get (g := 1) (i := 0) C 4 (some "PlateRoom") dX5_about_54 (by decide) rfl rfl uX_X3 (by decide) unf_RX5_74 rfl rfl ?_
        refine G.iload_n C 1 dX5_about_57 rfl rfl ?_
        have hin_58 : vp_in a 6 := by
          exact vp_ofc b_5 hn h6 (by decide)
        refine G.aald (g := 7) (i := 0) (n := 6) (f := fun q => w.2.2.2.1 11 q) C 2 dX5_about_58 (by decide) rfl rfl rfl hin_58 ?_
        refine G.get (g := 11) (i := a.toNatClampNeg) C 0 (some "PlateRoom") dX5_about_59 (vp_lt hin_58) rfl rfl uX_X4 (by decide) unf_RX5_77 rfl rfl ?_
        subst hQ
        exact G.iret C hr dX5_about_62 (by
            subst c_14
            exact ⟨rfl, Or.inr ⟨⟨b_5, by decide, by decide⟩, rfl⟩⟩)
      · cases ho
        refine ⟨63, by decide, ?_⟩
        have c_14 : b = 2 := w_ofInt (by simpa using hj)
        refine G.aload_n C 0 dX5_about_63 rfl rfl ?_
        refine G.get (g := 0) (i := 0) C 0 none dX5_about_64 (by decide) rfl rfl uX_X5 (by decide) uf_RX5_10 rfl rfl ?_
        refine G.get (g := 1) (i := 0) C 4 (some "PlateRoom") dX5_about_67 (by decide) rfl rfl uX_X3 (by decide) unf_RX5_74 rfl rfl ?_
        refine G.iload_n C 1 dX5_about_70 rfl rfl ?_
        have hin_71 : vp_in a 6 := by
          exact vp_ofc b_5 hn h6 (by decide)
        refine G.aald (g := 7) (i := 0) (n := 6) (f := fun q => w.2.2.2.1 11 q) C 2 dX5_about_71 (by decide) rfl rfl rfl hin_71 ?_
        refine G.get (g := 11) (i := a.toNatClampNeg) C 1 (some "PlateRoom") dX5_about_72 (vp_lt hin_71) rfl rfl uX_X4 (by decide) unf_RX5_80 rfl rfl ?_
        subst hQ
        exact G.iret C hr dX5_about_75 (by
            subst c_14
            exact ⟨rfl, Or.inr ⟨⟨b_5, by decide, by decide⟩, rfl⟩⟩)
    · refine ⟨76, by decide, ?_⟩
      have c_14 := hj
      refine G.iconst (v := -1) C dX5_about_76 (by decide) ?_
      subst hQ
      exact G.iret C hr dX5_about_77 (by
          refine ⟨rfl, Or.inl ⟨fun q => ?_, rfl⟩⟩
          exact w_out (k := 2) c_14 q.2.1 q.2.2)
  · have b_5 := wb_0 e_5 c_8
    refine G.iconst (v := -1) C dX5_about_11 (by decide) ?_
    subst hQ
    exact G.iret C hr dX5_about_12 (by
        refine ⟨rfl, Or.inl ⟨fun q => ?_, rfl⟩⟩
        first | exact b_5 q.1)
set_option maxHeartbeats 4000000 in
set_option maxRecDepth 100000 in
theorem ok_X5_mostOfCharge {w : wD} (hw : wOK w) (σ : wSt) (a : Int32)  : MI w yX5_mostOfCharge cX5_mostOfCharge 1 (some .int) 0 0 [.int a] σ (fun r τ => σ = τ ∧ r = mostC a) := by
  refine MI.of hw (by decide +kernel) (Nat.le_of_ble_eq_true rfl) (fun x C hr => ?_)
  suffices key : ∀ Q, Q = QI w x (fun r τ => σ = τ ∧ r = mostC a) → G w x 1 Q 0 [(0, .int a)] [] σ from key _ rfl
  intro Q hQ
  refine G.iload_n C 0 dX5_mostOfCharge_0 rfl rfl ?_
  refine G.table C dX5_mostOfCharge_1 (fun j off hj hb ho => ?_) (by decide) (fun hj => ?_)
  · have hj9 : j < 5 := by have := (Array.getElem?_eq_some_iff.mp ho).1; simpa using this
    rcases (show j = 0 ∨ j = 1 ∨ j = 2 ∨ j = 3 ∨ j = 4 by omega) with rfl | rfl | rfl | rfl | rfl
    · cases ho
      refine ⟨36, by decide, ?_⟩
      have c_1 : a = 0 := w_ofInt (by simpa using hj)
      refine G.bipush (v := 9) C dX5_mostOfCharge_36 (by decide) ?_
      subst hQ
      exact G.iret C hr dX5_mostOfCharge_38 (by
          subst c_1
          exact ⟨rfl, rfl⟩)
    · cases ho
      refine ⟨36, by decide, ?_⟩
      have c_1 : a = 1 := w_ofInt (by simpa using hj)
      refine G.bipush (v := 9) C dX5_mostOfCharge_36 (by decide) ?_
      subst hQ
      exact G.iret C hr dX5_mostOfCharge_38 (by
          subst c_1
          exact ⟨rfl, rfl⟩)
    · cases ho
      refine ⟨39, by decide, ?_⟩
      have c_1 : a = 2 := w_ofInt (by simpa using hj)
      refine G.bipush (v := 50) C dX5_mostOfCharge_39 (by decide) ?_
      subst hQ
      exact G.iret C hr dX5_mostOfCharge_41 (by
          subst c_1
          exact ⟨rfl, rfl⟩)
    · cases ho
      refine ⟨36, by decide, ?_⟩
      have c_1 : a = 3 := w_ofInt (by simpa using hj)
      refine G.bipush (v := 9) C dX5_mostOfCharge_36 (by decide) ?_
      subst hQ
      exact G.iret C hr dX5_mostOfCharge_38 (by
          subst c_1
          exact ⟨rfl, rfl⟩)
    · cases ho
      refine ⟨42, by decide, ?_⟩
      have c_1 : a = 4 := w_ofInt (by simpa using hj)
      refine G.bipush (v := 20) C dX5_mostOfCharge_42 (by decide) ?_
      subst hQ
      exact G.iret C hr dX5_mostOfCharge_44 (by
          subst c_1
          exact ⟨rfl, rfl⟩)
  · refine ⟨45, by decide, ?_⟩
    have c_1 := hj
    refine G.iconst (v := -1) C dX5_mostOfCharge_45 (by decide) ?_
    subst hQ
    exact G.iret C hr dX5_mostOfCharge_46 (by
        exact ⟨rfl, (mostC_out2 c_1).symm⟩)
set_option maxHeartbeats 4000000 in
set_option maxRecDepth 100000 in
theorem ok_X5_chargeOf {w : wD} (hw : wOK w) (σ : wSt) (a : Int32) (hk0 : 0 ≤ a) (hk5 : a ≤ 4) : MI w yX5_chargeOf cX5_chargeOf 2 (some .int) 0 0 [.ref (w.2.2.2.1 0 0), .int a] σ (fun r τ => σ = τ ∧ r = if a = 0 then σ.1 1 0 0 else if a = 1 then σ.1 1 0 1 else if a = 2 then σ.1 1 0 2 else if a = 3 then σ.1 2 0 0 else σ.1 2 0 1) := by
  refine MI.of hw (by decide +kernel) (Nat.le_of_ble_eq_true rfl) (fun x C hr => ?_)
  suffices key : ∀ Q, Q = QI w x (fun r τ => σ = τ ∧ r = if a = 0 then σ.1 1 0 0 else if a = 1 then σ.1 1 0 1 else if a = 2 then σ.1 1 0 2 else if a = 3 then σ.1 2 0 0 else σ.1 2 0 1) → G w x 2 Q 0 [(0, .ref (w.2.2.2.1 0 0)), (1, .int a)] [] σ from key _ rfl
  intro Q hQ
  refine G.iload_n C 1 dX5_chargeOf_0 rfl rfl ?_
  refine G.table C dX5_chargeOf_1 (fun j off hj hb ho => ?_) (by decide) (fun hj => ?_)
  · have hj9 : j < 5 := by have := (Array.getElem?_eq_some_iff.mp ho).1; simpa using this
    rcases (show j = 0 ∨ j = 1 ∨ j = 2 ∨ j = 3 ∨ j = 4 by omega) with rfl | rfl | rfl | rfl | rfl
    · cases ho
      refine ⟨36, by decide, ?_⟩
      have c_1 : a = 0 := w_ofInt (by simpa using hj)
      refine G.aload_n C 0 dX5_chargeOf_36 rfl rfl ?_
      refine G.get (g := 0) (i := 0) C 0 none dX5_chargeOf_37 (by decide) rfl rfl uX_X5 (by decide) uf_RX5_10 rfl rfl ?_
      refine G.get (g := 1) (i := 0) C 0 (some "PlateRoom") dX5_chargeOf_40 (by decide) rfl rfl uX_X3 (by decide) unf_RX5_229 rfl rfl ?_
      subst hQ
      exact G.iret C hr dX5_chargeOf_43 (by
          subst c_1
          exact ⟨rfl, rfl⟩)
    · cases ho
      refine ⟨44, by decide, ?_⟩
      have c_1 : a = 1 := w_ofInt (by simpa using hj)
      refine G.aload_n C 0 dX5_chargeOf_44 rfl rfl ?_
      refine G.get (g := 0) (i := 0) C 0 none dX5_chargeOf_45 (by decide) rfl rfl uX_X5 (by decide) uf_RX5_10 rfl rfl ?_
      refine G.get (g := 1) (i := 0) C 1 (some "PlateRoom") dX5_chargeOf_48 (by decide) rfl rfl uX_X3 (by decide) unf_RX5_232 rfl rfl ?_
      subst hQ
      exact G.iret C hr dX5_chargeOf_51 (by
          subst c_1
          exact ⟨rfl, rfl⟩)
    · cases ho
      refine ⟨52, by decide, ?_⟩
      have c_1 : a = 2 := w_ofInt (by simpa using hj)
      refine G.aload_n C 0 dX5_chargeOf_52 rfl rfl ?_
      refine G.get (g := 0) (i := 0) C 0 none dX5_chargeOf_53 (by decide) rfl rfl uX_X5 (by decide) uf_RX5_10 rfl rfl ?_
      refine G.get (g := 1) (i := 0) C 2 (some "PlateRoom") dX5_chargeOf_56 (by decide) rfl rfl uX_X3 (by decide) unf_RX5_235 rfl rfl ?_
      subst hQ
      exact G.iret C hr dX5_chargeOf_59 (by
          subst c_1
          exact ⟨rfl, rfl⟩)
    · cases ho
      refine ⟨60, by decide, ?_⟩
      have c_1 : a = 3 := w_ofInt (by simpa using hj)
      refine G.aload_n C 0 dX5_chargeOf_60 rfl rfl ?_
      refine G.get (g := 0) (i := 0) C 1 none dX5_chargeOf_61 (by decide) rfl rfl uX_X5 (by decide) uf_RX5_19 rfl rfl ?_
      refine G.get (g := 2) (i := 0) C 0 (some "PlateRoom") dX5_chargeOf_64 (by decide) rfl rfl uX_X0 (by decide) unf_RX5_238 rfl rfl ?_
      subst hQ
      exact G.iret C hr dX5_chargeOf_67 (by
          subst c_1
          exact ⟨rfl, rfl⟩)
    · cases ho
      refine ⟨68, by decide, ?_⟩
      have c_1 : a = 4 := w_ofInt (by simpa using hj)
      refine G.aload_n C 0 dX5_chargeOf_68 rfl rfl ?_
      refine G.get (g := 0) (i := 0) C 1 none dX5_chargeOf_69 (by decide) rfl rfl uX_X5 (by decide) uf_RX5_19 rfl rfl ?_
      refine G.get (g := 2) (i := 0) C 1 (some "PlateRoom") dX5_chargeOf_72 (by decide) rfl rfl uX_X0 (by decide) unf_RX5_241 rfl rfl ?_
      subst hQ
      exact G.iret C hr dX5_chargeOf_75 (by
          subst c_1
          exact ⟨rfl, rfl⟩)
  · refine ⟨76, by decide, ?_⟩
    have c_1 := hj
    refine G.iconst (v := -1) C dX5_chargeOf_76 (by decide) ?_
    subst hQ
    exact G.iret C hr dX5_chargeOf_77 (by
        exact absurd hk5 (fun q => w_out (k := 4) c_1 hk0 q))
set_option maxHeartbeats 4000000 in
set_option maxRecDepth 100000 in
theorem ok_X5_putCharge {w : wD} (hw : wOK w) (σ : wSt) (a b : Int32) (hk0 : 0 ≤ a) (hk5 : a ≤ 4) : MV w yX5_putCharge cX5_putCharge 3 none 0 0 [.ref (w.2.2.2.1 0 0), .int a, .int b] σ (fun τ => (if a = 0 then wUp σ 1 0 0 b else if a = 1 then wUp σ 1 0 1 b else if a = 2 then wUp σ 1 0 2 b else if a = 3 then wUp σ 2 0 0 b else wUp σ 2 0 1 b) = τ) := by
  refine MV.of hw (by decide +kernel) (Nat.le_of_ble_eq_true rfl) (fun x C hr => ?_)
  suffices key : ∀ Q, Q = QV w x (fun τ => (if a = 0 then wUp σ 1 0 0 b else if a = 1 then wUp σ 1 0 1 b else if a = 2 then wUp σ 1 0 2 b else if a = 3 then wUp σ 2 0 0 b else wUp σ 2 0 1 b) = τ) → G w x 3 Q 0 [(0, .ref (w.2.2.2.1 0 0)), (1, .int a), (2, .int b)] [] σ from key _ rfl
  intro Q hQ
  refine G.iload_n C 1 dX5_putCharge_0 rfl rfl ?_
  refine G.table C dX5_putCharge_1 (fun j off hj hb ho => ?_) (by decide) (fun hj => ?_)
  · have hj9 : j < 5 := by have := (Array.getElem?_eq_some_iff.mp ho).1; simpa using this
    rcases (show j = 0 ∨ j = 1 ∨ j = 2 ∨ j = 3 ∨ j = 4 by omega) with rfl | rfl | rfl | rfl | rfl
    · cases ho
      refine ⟨36, by decide, ?_⟩
      have c_1 : a = 0 := w_ofInt (by simpa using hj)
      refine G.aload_n C 0 dX5_putCharge_36 rfl rfl ?_
      refine G.get (g := 0) (i := 0) C 0 none dX5_putCharge_37 (by decide) rfl rfl uX_X5 (by decide) uf_RX5_10 rfl rfl ?_
      refine G.iload_n C 2 dX5_putCharge_40 rfl rfl ?_
      refine G.put (g := 1) (i := 0) C 0 (some "PlateRoom") dX5_putCharge_41 (by decide) rfl rfl uX_X3 tyX3 tyX3_ok nmX3 (by decide) unf_RX5_229 rfl rfl (by decide +kernel) (Nat.le_of_ble_eq_true rfl) w_up_1_0 ?_
      refine G.goto (tgt := 91) C dX5_putCharge_44 (by decide) ?_
      subst hQ
      exact G.vret C hr dX5_putCharge_91 (by
          subst c_1
          exact rfl)
    · cases ho
      refine ⟨47, by decide, ?_⟩
      have c_1 : a = 1 := w_ofInt (by simpa using hj)
      refine G.aload_n C 0 dX5_putCharge_47 rfl rfl ?_
      refine G.get (g := 0) (i := 0) C 0 none dX5_putCharge_48 (by decide) rfl rfl uX_X5 (by decide) uf_RX5_10 rfl rfl ?_
      refine G.iload_n C 2 dX5_putCharge_51 rfl rfl ?_
      refine G.put (g := 1) (i := 0) C 1 (some "PlateRoom") dX5_putCharge_52 (by decide) rfl rfl uX_X3 tyX3 tyX3_ok nmX3 (by decide) unf_RX5_232 rfl rfl (by decide +kernel) (Nat.le_of_ble_eq_true rfl) w_up_1_1 ?_
      refine G.goto (tgt := 91) C dX5_putCharge_55 (by decide) ?_
      subst hQ
      exact G.vret C hr dX5_putCharge_91 (by
          subst c_1
          exact rfl)
    · cases ho
      refine ⟨58, by decide, ?_⟩
      have c_1 : a = 2 := w_ofInt (by simpa using hj)
      refine G.aload_n C 0 dX5_putCharge_58 rfl rfl ?_
      refine G.get (g := 0) (i := 0) C 0 none dX5_putCharge_59 (by decide) rfl rfl uX_X5 (by decide) uf_RX5_10 rfl rfl ?_
      refine G.iload_n C 2 dX5_putCharge_62 rfl rfl ?_
      refine G.put (g := 1) (i := 0) C 2 (some "PlateRoom") dX5_putCharge_63 (by decide) rfl rfl uX_X3 tyX3 tyX3_ok nmX3 (by decide) unf_RX5_235 rfl rfl (by decide +kernel) (Nat.le_of_ble_eq_true rfl) w_up_1_2 ?_
      refine G.goto (tgt := 91) C dX5_putCharge_66 (by decide) ?_
      subst hQ
      exact G.vret C hr dX5_putCharge_91 (by
          subst c_1
          exact rfl)
    · cases ho
      refine ⟨69, by decide, ?_⟩
      have c_1 : a = 3 := w_ofInt (by simpa using hj)
      refine G.aload_n C 0 dX5_putCharge_69 rfl rfl ?_
      refine G.get (g := 0) (i := 0) C 1 none dX5_putCharge_70 (by decide) rfl rfl uX_X5 (by decide) uf_RX5_19 rfl rfl ?_
      refine G.iload_n C 2 dX5_putCharge_73 rfl rfl ?_
      refine G.put (g := 2) (i := 0) C 0 (some "PlateRoom") dX5_putCharge_74 (by decide) rfl rfl uX_X0 tyX0 tyX0_ok nmX0 (by decide) unf_RX5_238 rfl rfl (by decide +kernel) (Nat.le_of_ble_eq_true rfl) w_up_2_0 ?_
      refine G.goto (tgt := 91) C dX5_putCharge_77 (by decide) ?_
      subst hQ
      exact G.vret C hr dX5_putCharge_91 (by
          subst c_1
          exact rfl)
    · cases ho
      refine ⟨80, by decide, ?_⟩
      have c_1 : a = 4 := w_ofInt (by simpa using hj)
      refine G.aload_n C 0 dX5_putCharge_80 rfl rfl ?_
      refine G.get (g := 0) (i := 0) C 1 none dX5_putCharge_81 (by decide) rfl rfl uX_X5 (by decide) uf_RX5_19 rfl rfl ?_
      refine G.iload_n C 2 dX5_putCharge_84 rfl rfl ?_
      refine G.put (g := 2) (i := 0) C 1 (some "PlateRoom") dX5_putCharge_85 (by decide) rfl rfl uX_X0 tyX0 tyX0_ok nmX0 (by decide) unf_RX5_241 rfl rfl (by decide +kernel) (Nat.le_of_ble_eq_true rfl) w_up_2_1 ?_
      refine G.goto (tgt := 91) C dX5_putCharge_88 (by decide) ?_
      subst hQ
      exact G.vret C hr dX5_putCharge_91 (by
          subst c_1
          exact rfl)
  · refine ⟨91, by decide, ?_⟩
    have c_1 := hj
    subst hQ
    exact G.vret C hr dX5_putCharge_91 (by
        exact absurd hk5 (fun q => w_out (k := 4) c_1 hk0 q))
set_option maxHeartbeats 4000000 in
set_option maxRecDepth 100000 in
theorem ok_X5_set {w : wD} (hw : wOK w) (σ : wSt) (a b : Int32)  : MI w yX5_set cX5_set 4 (some .int) 1 22 [.ref (w.2.2.2.1 0 0), .int a, .int b] σ (fun r τ => (¬ (0 ≤ b ∧ b ≤ mostC a) ∧ σ = τ ∧ r = -1) ∨ ((0 ≤ b ∧ b ≤ mostC a) ∧ (if a = 0 then wUp σ 1 0 0 b else if a = 1 then wUp σ 1 0 1 b else if a = 2 then wUp σ 1 0 2 b else if a = 3 then wUp σ 2 0 0 b else wUp σ 2 0 1 b) = τ ∧ r = if a = 0 then σ.1 1 0 0 else if a = 1 then σ.1 1 0 1 else if a = 2 then σ.1 1 0 2 else if a = 3 then σ.1 2 0 0 else σ.1 2 0 1)) := by
  refine MI.of hw (by decide +kernel) (Nat.le_of_ble_eq_true rfl) (fun x C hr => ?_)
  suffices key : ∀ Q, Q = QI w x (fun r τ => (¬ (0 ≤ b ∧ b ≤ mostC a) ∧ σ = τ ∧ r = -1) ∨ ((0 ≤ b ∧ b ≤ mostC a) ∧ (if a = 0 then wUp σ 1 0 0 b else if a = 1 then wUp σ 1 0 1 b else if a = 2 then wUp σ 1 0 2 b else if a = 3 then wUp σ 2 0 0 b else wUp σ 2 0 1 b) = τ ∧ r = if a = 0 then σ.1 1 0 0 else if a = 1 then σ.1 1 0 1 else if a = 2 then σ.1 1 0 2 else if a = 3 then σ.1 2 0 0 else σ.1 2 0 1)) → G w x 4 Q 0 [(0, .ref (w.2.2.2.1 0 0)), (1, .int a), (2, .int b)] [] σ from key _ rfl
  intro Q hQ
  refine G.iload_n C 2 dX5_set_0 rfl rfl ?_
  refine G.if_lt (tgt := 12) C dX5_set_1 (by decide) (fun c_1 => ?_) (fun c_1 => ?_)
  · refine G.iconst (v := -1) C dX5_set_12 (by decide) ?_
    subst hQ
    exact G.iret C hr dX5_set_13 (by
        refine Or.inl ⟨fun q => ?_, rfl, rfl⟩
        exact Int32.not_le.mpr c_1 q.1)
  · refine G.iload_n C 2 dX5_set_4 rfl rfl ?_
    refine G.iload_n C 1 dX5_set_5 rfl rfl ?_
    have hM_0 := ok_X5_mostOfCharge hw σ a
    refine G.callS C none hM_0 dX5_set_6 us_X5_mostOfCharge ul_RX5_83 rfl rfl (by decide) (Nat.le_of_ble_eq_true rfl) (fun r_6 τ_6 h_6 => ?_)
    obtain ⟨h_6, e_6⟩ := h_6; subst h_6
    refine G.icmp_le (tgt := 14) C dX5_set_9 (by decide) (fun c_9 => ?_) (fun c_9 => ?_)
    · rw [e_6] at c_9
      have hk9 := mostC_in (Int32.not_lt.mp c_1) c_9
      refine G.aload_n C 0 dX5_set_14 rfl rfl ?_
      refine G.iload_n C 1 dX5_set_15 rfl rfl ?_
      have hM_1 := ok_X5_chargeOf hw σ a hk9.1 hk9.2
      refine G.callV C (g := 0) (i := 0) none hM_1 dX5_set_16 (by decide) rfl rfl rfl uv_X5_chargeOf ul_RX5_87 rfl rfl (by decide) (Nat.le_of_ble_eq_true rfl) (fun r_16 τ_16 h_16 => ?_)
      obtain ⟨h_16, e_16⟩ := h_16; subst h_16
      refine G.istore_n (L1 := [(3, .int r_16), (0, .ref (w.2.2.2.1 0 0)), (1, .int a), (2, .int b)]) C dX5_set_19 rfl (by decide) rfl ?_
      refine G.aload_n C 1 dX5_set_20 rfl rfl ?_
      refine G.iload_n C 2 dX5_set_21 rfl rfl ?_
      refine G.iload_n C 3 dX5_set_22 rfl rfl ?_
      have hM_2 := ok_X5_putCharge hw σ a b hk9.1 hk9.2
      refine G.callVv C (g := 0) (i := 0) none hM_2 dX5_set_23 (by decide) rfl rfl rfl uv_X5_putCharge ul_RX5_90 rfl rfl (by decide) (Nat.le_of_ble_eq_true rfl) (fun τ_23 h_23 => ?_)
      subst h_23
      refine G.iload_n C 0 dX5_set_26 rfl rfl ?_
      subst hQ
      exact G.iret C hr dX5_set_27 (by
          exact Or.inr ⟨⟨Int32.not_lt.mp c_1, c_9⟩, rfl, e_16⟩)
    · refine G.iconst (v := -1) C dX5_set_12 (by decide) ?_
      subst hQ
      exact G.iret C hr dX5_set_13 (by
          refine Or.inl ⟨fun q => ?_, rfl, rfl⟩
          exact c_9 (e_6 ▸ q.2))
set_option maxHeartbeats 4000000 in
set_option maxRecDepth 100000 in
theorem ok_X5_leaf {w : wD} (hw : wOK w) (σ : wSt) (a b c d : Int32) {l : Nat} (hl : σ.1 0 0 3 = nI l) (hl20 : l ≤ 20) : MI w yX5_leaf cX5_leaf 5 (some .int) 1 24 [.ref (w.2.2.2.1 0 0), .int a, .int b, .int c, .int d] σ (fun r τ => (¬ okLeaf a b c d ∧ σ = τ ∧ r = -1) ∨ (okLeaf a b c d ∧ 20 ≤ l ∧ σ = τ ∧ r = -3) ∨ (okLeaf a b c d ∧ l < 20 ∧ wUp (wUp (wUp (wUp (wUp σ 14 l 0 a) 14 l 1 b) 14 l 2 c) 14 l 3 d) 0 0 3 (nI (l + 1)) = τ ∧ r = nI l)) := by
  refine MI.of hw (by decide +kernel) (Nat.le_of_ble_eq_true rfl) (fun x C hr => ?_)
  suffices key : ∀ Q, Q = QI w x (fun r τ => (¬ okLeaf a b c d ∧ σ = τ ∧ r = -1) ∨ (okLeaf a b c d ∧ 20 ≤ l ∧ σ = τ ∧ r = -3) ∨ (okLeaf a b c d ∧ l < 20 ∧ wUp (wUp (wUp (wUp (wUp σ 14 l 0 a) 14 l 1 b) 14 l 2 c) 14 l 3 d) 0 0 3 (nI (l + 1)) = τ ∧ r = nI l)) → G w x 5 Q 0 [(0, .ref (w.2.2.2.1 0 0)), (1, .int a), (2, .int b), (3, .int c), (4, .int d)] [] σ from key _ rfl
  intro Q hQ
  refine G.iload_n C 1 dX5_leaf_0 rfl rfl ?_
  have hM_0 := ok_X5_areLines hw σ a
  refine G.callS C none hM_0 dX5_leaf_1 us_X5_areLines ul_RX5_55 rfl rfl (by decide) (Nat.le_of_ble_eq_true rfl) (fun r_1 τ_1 h_1 => ?_)
  obtain ⟨h_1, e_1⟩ := h_1; subst h_1
  refine G.if_eq (tgt := 20) C dX5_leaf_4 (by decide) (fun c_4 => ?_) (fun c_4 => ?_)
  · have b_1 := wb_0 e_1 c_4
    refine G.iconst (v := -1) C dX5_leaf_20 (by decide) ?_
    subst hQ
    exact G.iret C hr dX5_leaf_21 (by
        refine Or.inl ⟨fun q => ?_, rfl, rfl⟩
        obtain ⟨q1, q2, q3, q4, q5⟩ := q
        exact b_1 q1)
  · have b_1 := wb_1 e_1 c_4
    refine G.iload_n C 2 dX5_leaf_7 rfl rfl ?_
    have hM_1 := ok_X5_areLines hw σ b
    refine G.callS C none hM_1 dX5_leaf_8 us_X5_areLines ul_RX5_55 rfl rfl (by decide) (Nat.le_of_ble_eq_true rfl) (fun r_8 τ_8 h_8 => ?_)
    obtain ⟨h_8, e_8⟩ := h_8; subst h_8
    refine G.if_eq (tgt := 20) C dX5_leaf_11 (by decide) (fun c_11 => ?_) (fun c_11 => ?_)
    · have b_8 := wb_0 e_8 c_11
      refine G.iconst (v := -1) C dX5_leaf_20 (by decide) ?_
      subst hQ
      exact G.iret C hr dX5_leaf_21 (by
          refine Or.inl ⟨fun q => ?_, rfl, rfl⟩
          obtain ⟨q1, q2, q3, q4, q5⟩ := q
          exact b_8 q2)
    · have b_8 := wb_1 e_8 c_11
      refine G.iload_n C 1 dX5_leaf_14 rfl rfl ?_
      refine G.iload_n C 2 dX5_leaf_15 rfl rfl ?_
      refine G.iand C dX5_leaf_16 ?_
      refine G.if_eq (tgt := 22) C dX5_leaf_17 (by decide) (fun c_17 => ?_) (fun c_17 => ?_)
      · have c_17b := c_17
        refine G.iload_n C 3 dX5_leaf_22 rfl rfl ?_
        refine G.if_lt (tgt := 44) C dX5_leaf_23 (by decide) (fun c_23 => ?_) (fun c_23 => ?_)
        · refine G.iconst (v := -1) C dX5_leaf_44 (by decide) ?_
          subst hQ
          exact G.iret C hr dX5_leaf_45 (by
              refine Or.inl ⟨fun q => ?_, rfl, rfl⟩
              obtain ⟨q1, q2, q3, q4, q5⟩ := q
              exact Int32.not_le.mpr c_23 q4.1)
        · refine G.iload_n C 3 dX5_leaf_26 rfl rfl ?_
          refine G.sipush (v := 1000) C dX5_leaf_27 (by decide) ?_
          refine G.icmp_gt (tgt := 44) C dX5_leaf_30 (by decide) (fun c_30 => ?_) (fun c_30 => ?_)
          · refine G.iconst (v := -1) C dX5_leaf_44 (by decide) ?_
            subst hQ
            exact G.iret C hr dX5_leaf_45 (by
                refine Or.inl ⟨fun q => ?_, rfl, rfl⟩
                obtain ⟨q1, q2, q3, q4, q5⟩ := q
                exact Int32.not_le.mpr c_30 q4.2)
          · refine G.iload C 4 dX5_leaf_33 rfl ?_
            refine G.if_lt (tgt := 44) C dX5_leaf_35 (by decide) (fun c_35 => ?_) (fun c_35 => ?_)
            · refine G.iconst (v := -1) C dX5_leaf_44 (by decide) ?_
              subst hQ
              exact G.iret C hr dX5_leaf_45 (by
                  refine Or.inl ⟨fun q => ?_, rfl, rfl⟩
                  obtain ⟨q1, q2, q3, q4, q5⟩ := q
                  exact Int32.not_le.mpr c_35 q5.1)
            · refine G.iload C 4 dX5_leaf_38 rfl ?_
              refine G.iconst (v := 3) C dX5_leaf_40 (by decide) ?_
              refine G.icmp_lt (tgt := 46) C dX5_leaf_41 (by decide) (fun c_41 => ?_) (fun c_41 => ?_)
              · have hok : okLeaf a b c d := ⟨b_1, b_8, c_17, ⟨Int32.not_lt.mp c_23, Int32.not_lt.mp c_30⟩, ⟨Int32.not_lt.mp c_35, w_lt3 c_41⟩⟩
                refine G.aload_n C 0 dX5_leaf_46 rfl rfl ?_
                refine G.get (g := 0) (i := 0) C 3 none dX5_leaf_47 (by decide) rfl rfl uX_X5 (by decide) uf_RX5_29 rfl rfl ?_
                refine G.bipush (v := 20) C dX5_leaf_50 (by decide) ?_
                refine G.icmp_lt (tgt := 58) C dX5_leaf_52 (by decide) (fun c_52 => ?_) (fun c_52 => ?_)
                · have hh9 : l < 20 := by
                    rw [hl] at c_52
                    exact (nI_ltI (by omega) (by decide)).mp c_52
                  refine G.aload_n C 0 dX5_leaf_58 rfl rfl ?_
                  refine G.get (g := 0) (i := 0) C 2 none dX5_leaf_59 (by decide) rfl rfl uX_X5 (by decide) uf_RX5_25 rfl rfl ?_
                  refine G.aload_n C 0 dX5_leaf_62 rfl rfl ?_
                  refine G.get (g := 0) (i := 0) C 3 none dX5_leaf_63 (by decide) rfl rfl uX_X5 (by decide) uf_RX5_29 rfl rfl ?_
                  have hin_66 : vp_in (σ.1 0 0 3) 20 := by
                    rw [hl]; exact vp_in_nI (by omega) (by decide)
                  refine G.aald (g := 3) (i := 0) (n := 20) (f := fun q => w.2.2.2.1 14 q) C 1 dX5_leaf_66 (by decide) rfl rfl rfl hin_66 ?_
                  refine G.iload_n C 1 dX5_leaf_67 rfl rfl ?_
                  refine G.iload_n C 2 dX5_leaf_68 rfl rfl ?_
                  refine G.iload_n C 3 dX5_leaf_69 rfl rfl ?_
                  refine G.iload C 4 dX5_leaf_70 rfl ?_
                  have hM_2 := ok_X2_strike hw σ ((σ.1 0 0 3).toNatClampNeg) a b c d (vp_lt hin_66)
                  refine G.callVv C (g := 14) (i := ((σ.1 0 0 3).toNatClampNeg)) (some "PlateRoom") hM_2 dX5_leaf_72 (vp_lt hin_66) rfl rfl rfl uv_X2_strike unm_RX5_107 rfl rfl (by decide) (Nat.le_of_ble_eq_true rfl) (fun τ_72 h_72 => ?_)
                  subst h_72
                  refine G.aload_n C 0 dX5_leaf_75 rfl rfl ?_
                  refine G.dup C dX5_leaf_76 rfl ?_
                  refine G.get (g := 0) (i := 0) C 3 none dX5_leaf_77 (by decide) rfl rfl uX_X5 (by decide) uf_RX5_29 rfl rfl ?_
                  refine G.dup_x1 C dX5_leaf_80 rfl rfl ?_
                  refine G.iconst (v := 1) C dX5_leaf_81 (by decide) ?_
                  refine G.iadd C dX5_leaf_82 ?_
                  refine G.put (g := 0) (i := 0) C 3 none dX5_leaf_83 (by decide) rfl rfl uX_X5 tyX5 tyX5_ok nmX5 (by decide) uf_RX5_29 rfl rfl (by decide +kernel) (Nat.le_of_ble_eq_true rfl) w_up_0_3 ?_
                  subst hQ
                  exact G.iret C hr dX5_leaf_86 (by
                      refine Or.inr (Or.inr ⟨hok, hh9, ?_, ?_⟩)
                      · simp only [wUp_ng (show 0 ≠ 14 by decide), hl, nI_clamp (show l < 2 ^ 31 by omega), nI_1]
                      · simp only [wUp_ng (show 0 ≠ 14 by decide), hl, nI_clamp (show l < 2 ^ 31 by omega), nI_1])
                · have hh9 : 20 ≤ l := by
                    rw [hl] at c_52
                    rcases Nat.lt_or_ge l 20 with q | q
                    · exact absurd (nI_lt q (by decide)) c_52
                    · exact q
                  refine G.bipush (v := -3) C dX5_leaf_55 (by decide) ?_
                  subst hQ
                  exact G.iret C hr dX5_leaf_57 (by
                      exact Or.inr (Or.inl ⟨hok, hh9, rfl, rfl⟩))
              · refine G.iconst (v := -1) C dX5_leaf_44 (by decide) ?_
                subst hQ
                exact G.iret C hr dX5_leaf_45 (by
                    refine Or.inl ⟨fun q => ?_, rfl, rfl⟩
                    obtain ⟨q1, q2, q3, q4, q5⟩ := q
                    exact c_41 (w_le2 q5.2))
      · refine G.iconst (v := -1) C dX5_leaf_20 (by decide) ?_
        subst hQ
        exact G.iret C hr dX5_leaf_21 (by
            refine Or.inl ⟨fun q => ?_, rfl, rfl⟩
            obtain ⟨q1, q2, q3, q4, q5⟩ := q
            exact c_17 q3)
set_option maxHeartbeats 4000000 in
set_option maxRecDepth 100000 in
theorem ok_X5_see {w : wD} (hw : wOK w) (σ : wSt) (a b c : Int32) {l : Nat} (hl : σ.1 0 0 3 = nI l) (hl20 : l ≤ 20) : MI w yX5_see cX5_see 5 (some .int) 2 42 [.ref (w.2.2.2.1 0 0), .int a, .int b, .int c] σ (fun r τ => (¬ (inN (σ.1 0 0 3) a ∧ (0 ≤ b ∧ b < 12) ∧ 0 ≤ c ∧ c ≤ 2) ∧ σ = τ ∧ r = -1) ∨ ((inN (σ.1 0 0 3) a ∧ (0 ≤ b ∧ b < 12) ∧ 0 ≤ c ∧ c ≤ 2) ∧ wUp (wUp σ 14 a.toNatClampNeg 0 (lookT (σ.1 14 a.toNatClampNeg 0) b c)) 14 a.toNatClampNeg 1 (lookG (σ.1 14 a.toNatClampNeg 1) b c) = τ ∧ r = lookF (σ.1 14 a.toNatClampNeg 0) (σ.1 14 a.toNatClampNeg 1) b)) := by
  refine MI.of hw (by decide +kernel) (Nat.le_of_ble_eq_true rfl) (fun x C hr => ?_)
  suffices key : ∀ Q, Q = QI w x (fun r τ => (¬ (inN (σ.1 0 0 3) a ∧ (0 ≤ b ∧ b < 12) ∧ 0 ≤ c ∧ c ≤ 2) ∧ σ = τ ∧ r = -1) ∨ ((inN (σ.1 0 0 3) a ∧ (0 ≤ b ∧ b < 12) ∧ 0 ≤ c ∧ c ≤ 2) ∧ wUp (wUp σ 14 a.toNatClampNeg 0 (lookT (σ.1 14 a.toNatClampNeg 0) b c)) 14 a.toNatClampNeg 1 (lookG (σ.1 14 a.toNatClampNeg 1) b c) = τ ∧ r = lookF (σ.1 14 a.toNatClampNeg 0) (σ.1 14 a.toNatClampNeg 1) b)) → G w x 5 Q 0 [(0, .ref (w.2.2.2.1 0 0)), (1, .int a), (2, .int b), (3, .int c)] [] σ from key _ rfl
  intro Q hQ
  refine G.aload_n C 0 dX5_see_0 rfl rfl ?_
  refine G.iload_n C 1 dX5_see_1 rfl rfl ?_
  have hM_0 := ok_X5_isLeaf hw σ a
  refine G.callV C (g := 0) (i := 0) none hM_0 dX5_see_2 (by decide) rfl rfl rfl uv_X5_isLeaf ul_RX5_111 rfl rfl (by decide) (Nat.le_of_ble_eq_true rfl) (fun r_2 τ_2 h_2 => ?_)
  obtain ⟨h_2, e_2⟩ := h_2; subst h_2
  refine G.if_eq (tgt := 24) C dX5_see_5 (by decide) (fun c_5 => ?_) (fun c_5 => ?_)
  · have b_2 := wb_0 e_2 c_5
    refine G.iconst (v := -1) C dX5_see_24 (by decide) ?_
    subst hQ
    exact G.iret C hr dX5_see_25 (by
        refine Or.inl ⟨fun q => ?_, rfl, rfl⟩
        first | exact b_2 q.1 | exact b_9 q.2.1 | exact Int32.not_le.mpr c_16 q.2.2.1 | exact c_21 q.2.2.2)
  · have b_2 := wb_1 e_2 c_5
    refine G.iload_n C 2 dX5_see_8 rfl rfl ?_
    have hM_1 := ok_X5_isLine hw σ b
    refine G.callS C none hM_1 dX5_see_9 us_X5_isLine ul_RX5_114 rfl rfl (by decide) (Nat.le_of_ble_eq_true rfl) (fun r_9 τ_9 h_9 => ?_)
    obtain ⟨h_9, e_9⟩ := h_9; subst h_9
    refine G.if_eq (tgt := 24) C dX5_see_12 (by decide) (fun c_12 => ?_) (fun c_12 => ?_)
    · have b_9 := wb_0 e_9 c_12
      refine G.iconst (v := -1) C dX5_see_24 (by decide) ?_
      subst hQ
      exact G.iret C hr dX5_see_25 (by
          refine Or.inl ⟨fun q => ?_, rfl, rfl⟩
          first | exact b_2 q.1 | exact b_9 q.2.1 | exact Int32.not_le.mpr c_16 q.2.2.1 | exact c_21 q.2.2.2)
    · have b_9 := wb_1 e_9 c_12
      refine G.iload_n C 3 dX5_see_15 rfl rfl ?_
      refine G.if_lt (tgt := 24) C dX5_see_16 (by decide) (fun c_16 => ?_) (fun c_16 => ?_)
      · refine G.iconst (v := -1) C dX5_see_24 (by decide) ?_
        subst hQ
        exact G.iret C hr dX5_see_25 (by
            refine Or.inl ⟨fun q => ?_, rfl, rfl⟩
            first | exact b_2 q.1 | exact b_9 q.2.1 | exact Int32.not_le.mpr c_16 q.2.2.1 | exact c_21 q.2.2.2)
      · refine G.iload_n C 3 dX5_see_19 rfl rfl ?_
        refine G.iconst (v := 2) C dX5_see_20 (by decide) ?_
        refine G.icmp_le (tgt := 26) C dX5_see_21 (by decide) (fun c_21 => ?_) (fun c_21 => ?_)
        · refine G.aload_n C 0 dX5_see_26 rfl rfl ?_
          refine G.get (g := 0) (i := 0) C 2 none dX5_see_27 (by decide) rfl rfl uX_X5 (by decide) uf_RX5_25 rfl rfl ?_
          refine G.iload_n C 1 dX5_see_30 rfl rfl ?_
          have hin_31 : vp_in a 20 := by
            exact vp_ofc b_2 hl hl20 (by decide)
          refine G.aald (g := 3) (i := 0) (n := 20) (f := fun q => w.2.2.2.1 14 q) C 1 dX5_see_31 (by decide) rfl rfl rfl hin_31 ?_
          refine G.iload_n C 2 dX5_see_32 rfl rfl ?_
          have hM_2 := ok_X2_lookOf hw σ a.toNatClampNeg b (vp_lt hin_31)
          refine G.callV C (g := 14) (i := a.toNatClampNeg) (some "PlateRoom") hM_2 dX5_see_33 (vp_lt hin_31) rfl rfl rfl uv_X2_lookOf unm_RX5_117 rfl rfl (by decide) (Nat.le_of_ble_eq_true rfl) (fun r_33 τ_33 h_33 => ?_)
          obtain ⟨h_33, e_33⟩ := h_33; subst h_33
          refine G.istore (L1 := [(4, .int r_33), (0, .ref (w.2.2.2.1 0 0)), (1, .int a), (2, .int b), (3, .int c)]) C dX5_see_36 (by decide) rfl ?_
          refine G.aload_n C 1 dX5_see_38 rfl rfl ?_
          refine G.get (g := 0) (i := 0) C 2 none dX5_see_39 (by decide) rfl rfl uX_X5 (by decide) uf_RX5_25 rfl rfl ?_
          refine G.iload_n C 2 dX5_see_42 rfl rfl ?_
          have hin_43 : vp_in a 20 := by
            exact vp_ofc b_2 hl hl20 (by decide)
          refine G.aald (g := 3) (i := 0) (n := 20) (f := fun q => w.2.2.2.1 14 q) C 1 dX5_see_43 (by decide) rfl rfl rfl hin_43 ?_
          refine G.iload_n C 3 dX5_see_44 rfl rfl ?_
          refine G.iload_n C 4 dX5_see_45 rfl rfl ?_
          have hM_3 := ok_X2_look hw σ a.toNatClampNeg b c (vp_lt hin_43)
          refine G.callVv C (g := 14) (i := a.toNatClampNeg) (some "PlateRoom") hM_3 dX5_see_46 (vp_lt hin_43) rfl rfl rfl uv_X2_look unm_RX5_120 rfl rfl (by decide) (Nat.le_of_ble_eq_true rfl) (fun τ_46 h_46 => ?_)
          subst h_46
          refine G.iload C 0 dX5_see_49 rfl ?_
          subst hQ
          exact G.iret C hr dX5_see_51 (by
              exact Or.inr ⟨⟨b_2, b_9, Int32.not_lt.mp c_16, c_21⟩, rfl, e_33⟩)
        · refine G.iconst (v := -1) C dX5_see_24 (by decide) ?_
          subst hQ
          exact G.iret C hr dX5_see_25 (by
              refine Or.inl ⟨fun q => ?_, rfl, rfl⟩
              first | exact b_2 q.1 | exact b_9 q.2.1 | exact Int32.not_le.mpr c_16 q.2.2.1 | exact c_21 q.2.2.2)
set_option maxHeartbeats 4000000 in
set_option maxRecDepth 100000 in
theorem ok_X5_candidatesOf {w : wD} (hw : wOK w) (σ : wSt) (i : Nat) (hi : i < wN 14) {n : Nat} (hn : σ.1 1 0 5 = nI n) (h6 : n ≤ 6) : MI w yX5_candidatesOf cX5_candidatesOf 2 (some .int) 1 24 [.ref (w.2.2.2.1 0 0), .ref (w.2.2.2.1 14 i)] σ (fun r τ => σ = τ ∧ r = candU (σ.1 6 0) (σ.1 14 i 0) (σ.1 14 i 1) n) := by
  refine MI.of hw (by decide +kernel) (Nat.le_of_ble_eq_true rfl) (fun x C hr => ?_)
  suffices key : ∀ Q, Q = QI w x (fun r τ => σ = τ ∧ r = candU (σ.1 6 0) (σ.1 14 i 0) (σ.1 14 i 1) n) → G w x 2 Q 0 [(0, .ref (w.2.2.2.1 0 0)), (1, .ref (w.2.2.2.1 14 i))] [] σ from key _ rfl
  intro Q hQ
  refine G.aload_n C 0 dX5_candidatesOf_0 rfl rfl ?_
  refine G.get (g := 0) (i := 0) C 0 none dX5_candidatesOf_1 (by decide) rfl rfl uX_X5 (by decide) uf_RX5_10 rfl rfl ?_
  refine G.aload_n C 1 dX5_candidatesOf_4 rfl rfl ?_
  refine G.get (g := 14) (i := i) C 0 (some "PlateRoom") dX5_candidatesOf_5 hi rfl rfl uX_X2 (by decide) unf_RX5_244 rfl rfl ?_
  refine G.aload_n C 1 dX5_candidatesOf_8 rfl rfl ?_
  refine G.get (g := 14) (i := i) C 1 (some "PlateRoom") dX5_candidatesOf_9 hi rfl rfl uX_X2 (by decide) unf_RX5_247 rfl rfl ?_
  have hM_0 := ok_X3_statesWith hw σ (σ.1 14 i 0) (σ.1 14 i 1) hn h6
  refine G.callV C (g := 1) (i := 0) (some "PlateRoom") hM_0 dX5_candidatesOf_12 (by decide) rfl rfl rfl uv_X3_statesWith unm_RX5_250 rfl rfl (by decide) (Nat.le_of_ble_eq_true rfl) (fun r_12 τ_12 h_12 => ?_)
  obtain ⟨h_12, e_12⟩ := h_12; subst h_12
  subst hQ
  exact G.iret C hr dX5_candidatesOf_15 (by
      exact ⟨rfl, e_12⟩)
set_option maxHeartbeats 4000000 in
set_option maxRecDepth 100000 in
theorem ok_X5_candidates {w : wD} (hw : wOK w) (σ : wSt) (a : Int32) {n : Nat} (hn : σ.1 1 0 5 = nI n) (h6 : n ≤ 6) {l : Nat} (hl : σ.1 0 0 3 = nI l) (hl20 : l ≤ 20) : MI w yX5_candidates cX5_candidates 2 (some .int) 2 45 [.ref (w.2.2.2.1 0 0), .int a] σ (fun r τ => σ = τ ∧ ((¬ inN (σ.1 0 0 3) a ∧ r = -1) ∨ (inN (σ.1 0 0 3) a ∧ r = candU (σ.1 6 0) (σ.1 14 a.toNatClampNeg 0) (σ.1 14 a.toNatClampNeg 1) n))) := by
  refine MI.of hw (by decide +kernel) (Nat.le_of_ble_eq_true rfl) (fun x C hr => ?_)
  suffices key : ∀ Q, Q = QI w x (fun r τ => σ = τ ∧ ((¬ inN (σ.1 0 0 3) a ∧ r = -1) ∨ (inN (σ.1 0 0 3) a ∧ r = candU (σ.1 6 0) (σ.1 14 a.toNatClampNeg 0) (σ.1 14 a.toNatClampNeg 1) n))) → G w x 2 Q 0 [(0, .ref (w.2.2.2.1 0 0)), (1, .int a)] [] σ from key _ rfl
  intro Q hQ
  refine G.aload_n C 0 dX5_candidates_0 rfl rfl ?_
  refine G.iload_n C 1 dX5_candidates_1 rfl rfl ?_
  have hM_0 := ok_X5_isLeaf hw σ a
  refine G.callV C (g := 0) (i := 0) none hM_0 dX5_candidates_2 (by decide) rfl rfl rfl uv_X5_isLeaf ul_RX5_111 rfl rfl (by decide) (Nat.le_of_ble_eq_true rfl) (fun r_2 τ_2 h_2 => ?_)
  obtain ⟨h_2, e_2⟩ := h_2; subst h_2
  refine G.if_ne (tgt := 10) C dX5_candidates_5 (by decide) (fun c_5 => ?_) (fun c_5 => ?_)
  · have b_2 := wb_1 e_2 c_5
    refine G.aload_n C 0 dX5_candidates_10 rfl rfl ?_
    refine G.aload_n C 0 dX5_candidates_11 rfl rfl ?_
    refine G.get (g := 0) (i := 0) C 2 none dX5_candidates_12 (by decide) rfl rfl uX_X5 (by decide) uf_RX5_25 rfl rfl ?_
    refine G.iload_n C 1 dX5_candidates_15 rfl rfl ?_
    have hin_16 : vp_in a 20 := by
      exact vp_ofc b_2 hl hl20 (by decide)
    refine G.aald (g := 3) (i := 0) (n := 20) (f := fun q => w.2.2.2.1 14 q) C 1 dX5_candidates_16 (by decide) rfl rfl rfl hin_16 ?_
    have hM_1 := ok_X5_candidatesOf hw σ a.toNatClampNeg (vp_lt hin_16) hn h6
    refine G.callV C (g := 0) (i := 0) none hM_1 dX5_candidates_17 (by decide) rfl rfl rfl uv_X5_candidatesOf ul_RX5_123 rfl rfl (by decide) (Nat.le_of_ble_eq_true rfl) (fun r_17 τ_17 h_17 => ?_)
    obtain ⟨h_17, e_17⟩ := h_17; subst h_17
    subst hQ
    exact G.iret C hr dX5_candidates_20 (by
        exact ⟨rfl, Or.inr ⟨b_2, e_17⟩⟩)
  · have b_2 := wb_0 e_2 c_5
    refine G.iconst (v := -1) C dX5_candidates_8 (by decide) ?_
    subst hQ
    exact G.iret C hr dX5_candidates_9 (by
        refine ⟨rfl, Or.inl ⟨fun q => ?_, rfl⟩⟩
        first | exact b_2 q)
set_option maxHeartbeats 4000000 in
set_option maxRecDepth 100000 in
theorem ok_X5_mould {w : wD} (hw : wOK w) (σ : wSt) (a b : Int32) {m : Nat} (hm0 : σ.1 0 0 5 = nI m) (hm8 : m ≤ 8) : MI w yX5_mould cX5_mould 3 (some .int) 2 41 [.ref (w.2.2.2.1 0 0), .int a, .int b] σ (fun r τ => (¬ okYY a b ∧ σ = τ ∧ r = -1) ∨ (okYY a b ∧ 8 ≤ m ∧ σ = τ ∧ r = -3) ∨ (okYY a b ∧ m < 8 ∧ wUp (wUp (wUp σ 17 m 0 a) 17 m 1 b) 0 0 5 (nI (m + 1)) = τ ∧ r = nI m)) := by
  refine MI.of hw (by decide +kernel) (Nat.le_of_ble_eq_true rfl) (fun x C hr => ?_)
  suffices key : ∀ Q, Q = QI w x (fun r τ => (¬ okYY a b ∧ σ = τ ∧ r = -1) ∨ (okYY a b ∧ 8 ≤ m ∧ σ = τ ∧ r = -3) ∨ (okYY a b ∧ m < 8 ∧ wUp (wUp (wUp σ 17 m 0 a) 17 m 1 b) 0 0 5 (nI (m + 1)) = τ ∧ r = nI m)) → G w x 3 Q 0 [(0, .ref (w.2.2.2.1 0 0)), (1, .int a), (2, .int b)] [] σ from key _ rfl
  intro Q hQ
  refine G.iload_n C 1 dX5_mould_0 rfl rfl ?_
  refine G.iload_n C 2 dX5_mould_1 rfl rfl ?_
  have hM_0 := ok_X5_areYears hw σ a b
  refine G.callS C none hM_0 dX5_mould_2 us_X5_areYears ul_RX5_59 rfl rfl (by decide) (Nat.le_of_ble_eq_true rfl) (fun r_2 τ_2 h_2 => ?_)
  obtain ⟨h_2, e_2⟩ := h_2; subst h_2
  refine G.if_ne (tgt := 10) C dX5_mould_5 (by decide) (fun c_5 => ?_) (fun c_5 => ?_)
  · have b_2 := wb_1 e_2 c_5
    refine G.aload_n C 0 dX5_mould_10 rfl rfl ?_
    refine G.get (g := 0) (i := 0) C 5 none dX5_mould_11 (by decide) rfl rfl uX_X5 (by decide) uf_RX5_39 rfl rfl ?_
    refine G.bipush (v := 8) C dX5_mould_14 (by decide) ?_
    refine G.icmp_lt (tgt := 22) C dX5_mould_16 (by decide) (fun c_16 => ?_) (fun c_16 => ?_)
    · have hh9 : m < 8 := by
        rw [hm0] at c_16
        exact (nI_ltI (by omega) (by decide)).mp c_16
      refine G.aload_n C 0 dX5_mould_22 rfl rfl ?_
      refine G.get (g := 0) (i := 0) C 4 none dX5_mould_23 (by decide) rfl rfl uX_X5 (by decide) uf_RX5_35 rfl rfl ?_
      refine G.aload_n C 0 dX5_mould_26 rfl rfl ?_
      refine G.get (g := 0) (i := 0) C 5 none dX5_mould_27 (by decide) rfl rfl uX_X5 (by decide) uf_RX5_39 rfl rfl ?_
      have hin_30 : vp_in (σ.1 0 0 5) 8 := by
        rw [hm0]; exact vp_in_nI (by omega) (by decide)
      refine G.aald (g := 4) (i := 0) (n := 8) (f := fun q => w.2.2.2.1 17 q) C 2 dX5_mould_30 (by decide) rfl rfl rfl hin_30 ?_
      refine G.iload_n C 1 dX5_mould_31 rfl rfl ?_
      refine G.iload_n C 2 dX5_mould_32 rfl rfl ?_
      have hM_1 := ok_X4_put_17 hw σ ((σ.1 0 0 5).toNatClampNeg) a b (vp_lt hin_30)
      refine G.callVv C (g := 17) (i := ((σ.1 0 0 5).toNatClampNeg)) (some "PlateRoom") hM_1 dX5_mould_33 (vp_lt hin_30) rfl rfl rfl uv_X4_put unm_RX5_127 rfl rfl (by decide) (Nat.le_of_ble_eq_true rfl) (fun τ_33 h_33 => ?_)
      subst h_33
      refine G.aload_n C 0 dX5_mould_36 rfl rfl ?_
      refine G.dup C dX5_mould_37 rfl ?_
      refine G.get (g := 0) (i := 0) C 5 none dX5_mould_38 (by decide) rfl rfl uX_X5 (by decide) uf_RX5_39 rfl rfl ?_
      refine G.dup_x1 C dX5_mould_41 rfl rfl ?_
      refine G.iconst (v := 1) C dX5_mould_42 (by decide) ?_
      refine G.iadd C dX5_mould_43 ?_
      refine G.put (g := 0) (i := 0) C 5 none dX5_mould_44 (by decide) rfl rfl uX_X5 tyX5 tyX5_ok nmX5 (by decide) uf_RX5_39 rfl rfl (by decide +kernel) (Nat.le_of_ble_eq_true rfl) w_up_0_5 ?_
      subst hQ
      exact G.iret C hr dX5_mould_47 (by
          refine Or.inr (Or.inr ⟨b_2, hh9, ?_, ?_⟩)
          · simp only [wUp_ng (show 0 ≠ 17 by decide), hm0, nI_clamp (show m < 2 ^ 31 by omega), nI_1]
          · simp only [wUp_ng (show 0 ≠ 17 by decide), hm0, nI_clamp (show m < 2 ^ 31 by omega), nI_1])
    · have hh9 : 8 ≤ m := by
        rw [hm0] at c_16
        rcases Nat.lt_or_ge m 8 with q | q
        · exact absurd (nI_lt q (by decide)) c_16
        · exact q
      refine G.bipush (v := -3) C dX5_mould_19 (by decide) ?_
      subst hQ
      exact G.iret C hr dX5_mould_21 (by
          exact Or.inr (Or.inl ⟨b_2, hh9, rfl, rfl⟩))
  · have b_2 := wb_0 e_2 c_5
    refine G.iconst (v := -1) C dX5_mould_8 (by decide) ?_
    subst hQ
    exact G.iret C hr dX5_mould_9 (by
        refine Or.inl ⟨fun q => ?_, rfl, rfl⟩
        first | exact b_2 q)
set_option maxHeartbeats 4000000 in
set_option maxRecDepth 100000 in
theorem ok_X5_paper {w : wD} (hw : wOK w) (σ : wSt) (a b : Int32) {l : Nat} (hl : σ.1 0 0 3 = nI l) (hl20 : l ≤ 20) : MI w yX5_paper cX5_paper 4 (some .int) 1 21 [.ref (w.2.2.2.1 0 0), .int a, .int b] σ (fun r τ => (¬ (inN (σ.1 0 0 3) a ∧ (b = -9 ∨ inN (σ.1 0 0 5) b)) ∧ σ = τ ∧ r = -2) ∨ ((inN (σ.1 0 0 3) a ∧ (b = -9 ∨ inN (σ.1 0 0 5) b)) ∧ wUp σ 14 a.toNatClampNeg 4 b = τ ∧ r = σ.1 14 a.toNatClampNeg 4)) := by
  refine MI.of hw (by decide +kernel) (Nat.le_of_ble_eq_true rfl) (fun x C hr => ?_)
  suffices key : ∀ Q, Q = QI w x (fun r τ => (¬ (inN (σ.1 0 0 3) a ∧ (b = -9 ∨ inN (σ.1 0 0 5) b)) ∧ σ = τ ∧ r = -2) ∨ ((inN (σ.1 0 0 3) a ∧ (b = -9 ∨ inN (σ.1 0 0 5) b)) ∧ wUp σ 14 a.toNatClampNeg 4 b = τ ∧ r = σ.1 14 a.toNatClampNeg 4)) → G w x 4 Q 0 [(0, .ref (w.2.2.2.1 0 0)), (1, .int a), (2, .int b)] [] σ from key _ rfl
  intro Q hQ
  refine G.aload_n C 0 dX5_paper_0 rfl rfl ?_
  refine G.iload_n C 1 dX5_paper_1 rfl rfl ?_
  have hM_0 := ok_X5_isLeaf hw σ a
  refine G.callV C (g := 0) (i := 0) none hM_0 dX5_paper_2 (by decide) rfl rfl rfl uv_X5_isLeaf ul_RX5_111 rfl rfl (by decide) (Nat.le_of_ble_eq_true rfl) (fun r_2 τ_2 h_2 => ?_)
  obtain ⟨h_2, e_2⟩ := h_2; subst h_2
  refine G.if_eq (tgt := 22) C dX5_paper_5 (by decide) (fun c_5 => ?_) (fun c_5 => ?_)
  · have b_2 := wb_0 e_2 c_5
    refine G.bipush (v := -2) C dX5_paper_22 (by decide) ?_
    subst hQ
    exact G.iret C hr dX5_paper_24 (by
        refine Or.inl ⟨fun q => ?_, rfl, rfl⟩
        first | exact b_2 q.1 | exact q.2.elim c_11 b_16)
  · have b_2 := wb_1 e_2 c_5
    refine G.iload_n C 2 dX5_paper_8 rfl rfl ?_
    refine G.bipush (v := -9) C dX5_paper_9 (by decide) ?_
    refine G.icmp_eq (tgt := 25) C dX5_paper_11 (by decide) (fun c_11 => ?_) (fun c_11 => ?_)
    · refine G.aload_n C 0 dX5_paper_25 rfl rfl ?_
      refine G.get (g := 0) (i := 0) C 2 none dX5_paper_26 (by decide) rfl rfl uX_X5 (by decide) uf_RX5_25 rfl rfl ?_
      refine G.iload_n C 1 dX5_paper_29 rfl rfl ?_
      have hin_30 : vp_in a 20 := by
        exact vp_ofc b_2 hl hl20 (by decide)
      refine G.aald (g := 3) (i := 0) (n := 20) (f := fun q => w.2.2.2.1 14 q) C 1 dX5_paper_30 (by decide) rfl rfl rfl hin_30 ?_
      refine G.get (g := 14) (i := a.toNatClampNeg) C 4 (some "PlateRoom") dX5_paper_31 (vp_lt hin_30) rfl rfl uX_X2 (by decide) unf_RX5_133 rfl rfl ?_
      refine G.topi (fun x3_34 ex3_34 => ?_)
      refine G.istore_n (L1 := [(3, .int x3_34), (0, .ref (w.2.2.2.1 0 0)), (1, .int a), (2, .int b)]) C dX5_paper_34 rfl (by decide) rfl ?_
      refine G.aload_n C 1 dX5_paper_35 rfl rfl ?_
      refine G.get (g := 0) (i := 0) C 2 none dX5_paper_36 (by decide) rfl rfl uX_X5 (by decide) uf_RX5_25 rfl rfl ?_
      refine G.iload_n C 2 dX5_paper_39 rfl rfl ?_
      have hin_40 : vp_in a 20 := by
        exact vp_ofc b_2 hl hl20 (by decide)
      refine G.aald (g := 3) (i := 0) (n := 20) (f := fun q => w.2.2.2.1 14 q) C 1 dX5_paper_40 (by decide) rfl rfl rfl hin_40 ?_
      refine G.iload_n C 3 dX5_paper_41 rfl rfl ?_
      refine G.put (g := 14) (i := a.toNatClampNeg) C 4 (some "PlateRoom") dX5_paper_42 (vp_lt hin_40) rfl rfl uX_X2 tyX2 tyX2_ok nmX2 (by decide) unf_RX5_133 rfl rfl (by decide +kernel) (Nat.le_of_ble_eq_true rfl) w_up_14_4 ?_
      refine G.iload_n C 0 dX5_paper_45 rfl rfl ?_
      subst hQ
      exact G.iret C hr dX5_paper_46 (by
          exact Or.inr ⟨⟨b_2, Or.inl c_11⟩, rfl, ex3_34⟩)
    · refine G.aload_n C 0 dX5_paper_14 rfl rfl ?_
      refine G.iload_n C 2 dX5_paper_15 rfl rfl ?_
      have hM_1 := ok_X5_isMould hw σ b
      refine G.callV C (g := 0) (i := 0) none hM_1 dX5_paper_16 (by decide) rfl rfl rfl uv_X5_isMould ul_RX5_130 rfl rfl (by decide) (Nat.le_of_ble_eq_true rfl) (fun r_16 τ_16 h_16 => ?_)
      obtain ⟨h_16, e_16⟩ := h_16; subst h_16
      refine G.if_ne (tgt := 25) C dX5_paper_19 (by decide) (fun c_19 => ?_) (fun c_19 => ?_)
      · have b_16 := wb_1 e_16 c_19
        refine G.aload_n C 0 dX5_paper_25 rfl rfl ?_
        refine G.get (g := 0) (i := 0) C 2 none dX5_paper_26 (by decide) rfl rfl uX_X5 (by decide) uf_RX5_25 rfl rfl ?_
        refine G.iload_n C 1 dX5_paper_29 rfl rfl ?_
        have hin_30 : vp_in a 20 := by
          exact vp_ofc b_2 hl hl20 (by decide)
        refine G.aald (g := 3) (i := 0) (n := 20) (f := fun q => w.2.2.2.1 14 q) C 1 dX5_paper_30 (by decide) rfl rfl rfl hin_30 ?_
        refine G.get (g := 14) (i := a.toNatClampNeg) C 4 (some "PlateRoom") dX5_paper_31 (vp_lt hin_30) rfl rfl uX_X2 (by decide) unf_RX5_133 rfl rfl ?_
        refine G.topi (fun x3_34 ex3_34 => ?_)
        refine G.istore_n (L1 := [(3, .int x3_34), (0, .ref (w.2.2.2.1 0 0)), (1, .int a), (2, .int b)]) C dX5_paper_34 rfl (by decide) rfl ?_
        refine G.aload_n C 1 dX5_paper_35 rfl rfl ?_
        refine G.get (g := 0) (i := 0) C 2 none dX5_paper_36 (by decide) rfl rfl uX_X5 (by decide) uf_RX5_25 rfl rfl ?_
        refine G.iload_n C 2 dX5_paper_39 rfl rfl ?_
        have hin_40 : vp_in a 20 := by
          exact vp_ofc b_2 hl hl20 (by decide)
        refine G.aald (g := 3) (i := 0) (n := 20) (f := fun q => w.2.2.2.1 14 q) C 1 dX5_paper_40 (by decide) rfl rfl rfl hin_40 ?_
        refine G.iload_n C 3 dX5_paper_41 rfl rfl ?_
        refine G.put (g := 14) (i := a.toNatClampNeg) C 4 (some "PlateRoom") dX5_paper_42 (vp_lt hin_40) rfl rfl uX_X2 tyX2 tyX2_ok nmX2 (by decide) unf_RX5_133 rfl rfl (by decide +kernel) (Nat.le_of_ble_eq_true rfl) w_up_14_4 ?_
        refine G.iload_n C 0 dX5_paper_45 rfl rfl ?_
        subst hQ
        exact G.iret C hr dX5_paper_46 (by
            exact Or.inr ⟨⟨b_2, Or.inr b_16⟩, rfl, ex3_34⟩)
      · have b_16 := wb_0 e_16 c_19
        refine G.bipush (v := -2) C dX5_paper_22 (by decide) ?_
        subst hQ
        exact G.iret C hr dX5_paper_24 (by
            refine Or.inl ⟨fun q => ?_, rfl, rfl⟩
            first | exact b_2 q.1 | exact q.2.elim c_11 b_16)
set_option maxHeartbeats 4000000 in
set_option maxRecDepth 100000 in
theorem ok_X5_imprint {w : wD} (hw : wOK w) (σ : wSt) (a b : Int32) {l : Nat} (hl : σ.1 0 0 3 = nI l) (hl20 : l ≤ 20) : MI w yX5_imprint cX5_imprint 4 (some .int) 1 21 [.ref (w.2.2.2.1 0 0), .int a, .int b] σ (fun r τ => (¬ (inN (σ.1 0 0 3) a ∧ (b = -9 ∨ okY b)) ∧ σ = τ ∧ r = -2) ∨ ((inN (σ.1 0 0 3) a ∧ (b = -9 ∨ okY b)) ∧ wUp σ 14 a.toNatClampNeg 5 b = τ ∧ r = σ.1 14 a.toNatClampNeg 5)) := by
  refine MI.of hw (by decide +kernel) (Nat.le_of_ble_eq_true rfl) (fun x C hr => ?_)
  suffices key : ∀ Q, Q = QI w x (fun r τ => (¬ (inN (σ.1 0 0 3) a ∧ (b = -9 ∨ okY b)) ∧ σ = τ ∧ r = -2) ∨ ((inN (σ.1 0 0 3) a ∧ (b = -9 ∨ okY b)) ∧ wUp σ 14 a.toNatClampNeg 5 b = τ ∧ r = σ.1 14 a.toNatClampNeg 5)) → G w x 4 Q 0 [(0, .ref (w.2.2.2.1 0 0)), (1, .int a), (2, .int b)] [] σ from key _ rfl
  intro Q hQ
  refine G.aload_n C 0 dX5_imprint_0 rfl rfl ?_
  refine G.iload_n C 1 dX5_imprint_1 rfl rfl ?_
  have hM_0 := ok_X5_isLeaf hw σ a
  refine G.callV C (g := 0) (i := 0) none hM_0 dX5_imprint_2 (by decide) rfl rfl rfl uv_X5_isLeaf ul_RX5_111 rfl rfl (by decide) (Nat.le_of_ble_eq_true rfl) (fun r_2 τ_2 h_2 => ?_)
  obtain ⟨h_2, e_2⟩ := h_2; subst h_2
  refine G.if_eq (tgt := 21) C dX5_imprint_5 (by decide) (fun c_5 => ?_) (fun c_5 => ?_)
  · have b_2 := wb_0 e_2 c_5
    refine G.bipush (v := -2) C dX5_imprint_21 (by decide) ?_
    subst hQ
    exact G.iret C hr dX5_imprint_23 (by
        refine Or.inl ⟨fun q => ?_, rfl, rfl⟩
        first | exact b_2 q.1 | exact q.2.elim c_11 b_15)
  · have b_2 := wb_1 e_2 c_5
    refine G.iload_n C 2 dX5_imprint_8 rfl rfl ?_
    refine G.bipush (v := -9) C dX5_imprint_9 (by decide) ?_
    refine G.icmp_eq (tgt := 24) C dX5_imprint_11 (by decide) (fun c_11 => ?_) (fun c_11 => ?_)
    · refine G.aload_n C 0 dX5_imprint_24 rfl rfl ?_
      refine G.get (g := 0) (i := 0) C 2 none dX5_imprint_25 (by decide) rfl rfl uX_X5 (by decide) uf_RX5_25 rfl rfl ?_
      refine G.iload_n C 1 dX5_imprint_28 rfl rfl ?_
      have hin_29 : vp_in a 20 := by
        exact vp_ofc b_2 hl hl20 (by decide)
      refine G.aald (g := 3) (i := 0) (n := 20) (f := fun q => w.2.2.2.1 14 q) C 1 dX5_imprint_29 (by decide) rfl rfl rfl hin_29 ?_
      refine G.get (g := 14) (i := a.toNatClampNeg) C 5 (some "PlateRoom") dX5_imprint_30 (vp_lt hin_29) rfl rfl uX_X2 (by decide) unf_RX5_139 rfl rfl ?_
      refine G.topi (fun x3_33 ex3_33 => ?_)
      refine G.istore_n (L1 := [(3, .int x3_33), (0, .ref (w.2.2.2.1 0 0)), (1, .int a), (2, .int b)]) C dX5_imprint_33 rfl (by decide) rfl ?_
      refine G.aload_n C 1 dX5_imprint_34 rfl rfl ?_
      refine G.get (g := 0) (i := 0) C 2 none dX5_imprint_35 (by decide) rfl rfl uX_X5 (by decide) uf_RX5_25 rfl rfl ?_
      refine G.iload_n C 2 dX5_imprint_38 rfl rfl ?_
      have hin_39 : vp_in a 20 := by
        exact vp_ofc b_2 hl hl20 (by decide)
      refine G.aald (g := 3) (i := 0) (n := 20) (f := fun q => w.2.2.2.1 14 q) C 1 dX5_imprint_39 (by decide) rfl rfl rfl hin_39 ?_
      refine G.iload_n C 3 dX5_imprint_40 rfl rfl ?_
      refine G.put (g := 14) (i := a.toNatClampNeg) C 5 (some "PlateRoom") dX5_imprint_41 (vp_lt hin_39) rfl rfl uX_X2 tyX2 tyX2_ok nmX2 (by decide) unf_RX5_139 rfl rfl (by decide +kernel) (Nat.le_of_ble_eq_true rfl) w_up_14_5 ?_
      refine G.iload_n C 0 dX5_imprint_44 rfl rfl ?_
      subst hQ
      exact G.iret C hr dX5_imprint_45 (by
          exact Or.inr ⟨⟨b_2, Or.inl c_11⟩, rfl, ex3_33⟩)
    · refine G.iload_n C 2 dX5_imprint_14 rfl rfl ?_
      have hM_1 := ok_X5_isYear hw σ b
      refine G.callS C none hM_1 dX5_imprint_15 us_X5_isYear ul_RX5_136 rfl rfl (by decide) (Nat.le_of_ble_eq_true rfl) (fun r_15 τ_15 h_15 => ?_)
      obtain ⟨h_15, e_15⟩ := h_15; subst h_15
      refine G.if_ne (tgt := 24) C dX5_imprint_18 (by decide) (fun c_18 => ?_) (fun c_18 => ?_)
      · have b_15 := wb_1 e_15 c_18
        refine G.aload_n C 0 dX5_imprint_24 rfl rfl ?_
        refine G.get (g := 0) (i := 0) C 2 none dX5_imprint_25 (by decide) rfl rfl uX_X5 (by decide) uf_RX5_25 rfl rfl ?_
        refine G.iload_n C 1 dX5_imprint_28 rfl rfl ?_
        have hin_29 : vp_in a 20 := by
          exact vp_ofc b_2 hl hl20 (by decide)
        refine G.aald (g := 3) (i := 0) (n := 20) (f := fun q => w.2.2.2.1 14 q) C 1 dX5_imprint_29 (by decide) rfl rfl rfl hin_29 ?_
        refine G.get (g := 14) (i := a.toNatClampNeg) C 5 (some "PlateRoom") dX5_imprint_30 (vp_lt hin_29) rfl rfl uX_X2 (by decide) unf_RX5_139 rfl rfl ?_
        refine G.topi (fun x3_33 ex3_33 => ?_)
        refine G.istore_n (L1 := [(3, .int x3_33), (0, .ref (w.2.2.2.1 0 0)), (1, .int a), (2, .int b)]) C dX5_imprint_33 rfl (by decide) rfl ?_
        refine G.aload_n C 1 dX5_imprint_34 rfl rfl ?_
        refine G.get (g := 0) (i := 0) C 2 none dX5_imprint_35 (by decide) rfl rfl uX_X5 (by decide) uf_RX5_25 rfl rfl ?_
        refine G.iload_n C 2 dX5_imprint_38 rfl rfl ?_
        have hin_39 : vp_in a 20 := by
          exact vp_ofc b_2 hl hl20 (by decide)
        refine G.aald (g := 3) (i := 0) (n := 20) (f := fun q => w.2.2.2.1 14 q) C 1 dX5_imprint_39 (by decide) rfl rfl rfl hin_39 ?_
        refine G.iload_n C 3 dX5_imprint_40 rfl rfl ?_
        refine G.put (g := 14) (i := a.toNatClampNeg) C 5 (some "PlateRoom") dX5_imprint_41 (vp_lt hin_39) rfl rfl uX_X2 tyX2 tyX2_ok nmX2 (by decide) unf_RX5_139 rfl rfl (by decide +kernel) (Nat.le_of_ble_eq_true rfl) w_up_14_5 ?_
        refine G.iload_n C 0 dX5_imprint_44 rfl rfl ?_
        subst hQ
        exact G.iret C hr dX5_imprint_45 (by
            exact Or.inr ⟨⟨b_2, Or.inr b_15⟩, rfl, ex3_33⟩)
      · have b_15 := wb_0 e_15 c_18
        refine G.bipush (v := -2) C dX5_imprint_21 (by decide) ?_
        subst hQ
        exact G.iret C hr dX5_imprint_23 (by
            refine Or.inl ⟨fun q => ?_, rfl, rfl⟩
            first | exact b_2 q.1 | exact q.2.elim c_11 b_15)
end
section
/-! PART 03.f: more words -/
theorem spU_t {fr to : Nat → Int32} {c e l : Int32} {k : Nat} (h : (c >>> (nI k &&& 31)) &&& 1 = 1) (h2 : jmax e (fr k) ≤ jmin l (to k)) : spU fr to c e l (k + 1) = (if (spU fr to c e l k).1 = -9 then jmax e (fr k) else jmin (spU fr to c e l k).1 (jmax e (fr k)), if (spU fr to c e l k).2 = -9 then jmin l (to k) else jmax (spU fr to c e l k).2 (jmin l (to k))) := if_pos ⟨h, h2⟩
theorem spU_f {fr to : Nat → Int32} {c e l : Int32} {k : Nat} (h : ¬ ((c >>> (nI k &&& 31)) &&& 1 = 1 ∧ jmax e (fr k) ≤ jmin l (to k))) : spU fr to c e l (k + 1) = spU fr to c e l k := if_neg h
theorem homeU_t {M : Nat → Int32} {k : Nat} (h : (homeU M k).2 < M k) : homeU M (k + 1) = (nI k, M k) := if_pos h
theorem homeU_f {M : Nat → Int32} {k : Nat} (h : ¬ (homeU M k).2 < M k) : homeU M (k + 1) = homeU M k := if_neg h
theorem chanceU_t {M : Nat → Int32} {l own : Int32} {k : Nat} (h : ¬ nI k = l ∧ own ≤ M k) : chanceU M l own (k + 1) = chanceU M l own k + 1 := if_pos h
theorem chanceU_f {M : Nat → Int32} {l own : Int32} {k : Nat} (h : ¬ (¬ nI k = l ∧ own ≤ M k)) : chanceU M l own (k + 1) = chanceU M l own k := if_neg h
end
section
set_option maxHeartbeats 4000000 in
set_option maxRecDepth 100000 in
theorem ok_X5_earliestByPaper {w : wD} (hw : wOK w) (σ : wSt) (i : Nat) (hi : i < wN 14) {m : Nat} (hm0 : σ.1 0 0 5 = nI m) (hm8 : m ≤ 8) : MI w yX5_earliestByPaper cX5_earliestByPaper 3 (some .int) 1 21 [.ref (w.2.2.2.1 0 0), .ref (w.2.2.2.1 14 i)] σ (fun r τ => σ = τ ∧ r = earlF (fun q => σ.1 17 q 0) (σ.1 0 0 5) (σ.1 14 i 4) (σ.1 14 i 5)) := by
  refine MI.of hw (by decide +kernel) (Nat.le_of_ble_eq_true rfl) (fun x C hr => ?_)
  suffices key : ∀ Q, Q = QI w x (fun r τ => σ = τ ∧ r = earlF (fun q => σ.1 17 q 0) (σ.1 0 0 5) (σ.1 14 i 4) (σ.1 14 i 5)) → G w x 3 Q 0 [(0, .ref (w.2.2.2.1 0 0)), (1, .ref (w.2.2.2.1 14 i))] [] σ from key _ rfl
  intro Q hQ
  refine G.aload_n C 0 dX5_earliestByPaper_0 rfl rfl ?_
  refine G.aload_n C 1 dX5_earliestByPaper_1 rfl rfl ?_
  refine G.get (g := 14) (i := i) C 4 (some "PlateRoom") dX5_earliestByPaper_2 hi rfl rfl uX_X2 (by decide) unf_RX5_133 rfl rfl ?_
  have hM_0 := ok_X5_isMould hw σ (σ.1 14 i 4)
  refine G.callV C (g := 0) (i := 0) none hM_0 dX5_earliestByPaper_5 (by decide) rfl rfl rfl uv_X5_isMould ul_RX5_130 rfl rfl (by decide) (Nat.le_of_ble_eq_true rfl) (fun r_5 τ_5 h_5 => ?_)
  obtain ⟨h_5, e_5⟩ := h_5; subst h_5
  refine G.if_eq (tgt := 26) C dX5_earliestByPaper_8 (by decide) (fun c_8 => ?_) (fun c_8 => ?_)
  · have b_5 := wb_0 e_5 c_8
    refine G.sipush (v := 1500) C dX5_earliestByPaper_26 (by decide) ?_
    refine G.istore_n (L1 := [(2, .int 1500), (0, .ref (w.2.2.2.1 0 0)), (1, .ref (w.2.2.2.1 14 i))]) C dX5_earliestByPaper_29 rfl (by decide) rfl ?_
    refine G.aload_n C 2 dX5_earliestByPaper_30 rfl rfl ?_
    refine G.get (g := 14) (i := i) C 5 (some "PlateRoom") dX5_earliestByPaper_31 hi rfl rfl uX_X2 (by decide) unf_RX5_139 rfl rfl ?_
    refine G.bipush (v := -9) C dX5_earliestByPaper_34 (by decide) ?_
    refine G.icmp_ne (tgt := 43) C dX5_earliestByPaper_36 (by decide) (fun c_36 => ?_) (fun c_36 => ?_)
    · refine G.iload_n C 0 dX5_earliestByPaper_43 rfl rfl ?_
      refine G.aload_n C 2 dX5_earliestByPaper_44 rfl rfl ?_
      refine G.get (g := 14) (i := i) C 5 (some "PlateRoom") dX5_earliestByPaper_45 hi rfl rfl uX_X2 (by decide) unf_RX5_139 rfl rfl ?_
      refine G.mmax C dX5_earliestByPaper_48 ul_RX5_148 (by decide) (Nat.le_of_ble_eq_true rfl) ?_
      subst hQ
      exact G.iret C hr dX5_earliestByPaper_51 (by
          exact ⟨rfl, by rw [earlF, if_neg c_36, if_neg b_5]; rfl⟩)
    · refine G.iload_n C 0 dX5_earliestByPaper_39 rfl rfl ?_
      refine G.goto (tgt := 51) C dX5_earliestByPaper_40 (by decide) ?_
      subst hQ
      exact G.iret C hr dX5_earliestByPaper_51 (by
          exact ⟨rfl, by rw [earlF, if_pos c_36, if_neg b_5]⟩)
  · have b_5 := wb_1 e_5 c_8
    refine G.aload_n C 0 dX5_earliestByPaper_11 rfl rfl ?_
    refine G.get (g := 0) (i := 0) C 4 none dX5_earliestByPaper_12 (by decide) rfl rfl uX_X5 (by decide) uf_RX5_35 rfl rfl ?_
    refine G.aload_n C 1 dX5_earliestByPaper_15 rfl rfl ?_
    refine G.get (g := 14) (i := i) C 4 (some "PlateRoom") dX5_earliestByPaper_16 hi rfl rfl uX_X2 (by decide) unf_RX5_133 rfl rfl ?_
    have hin_19 : vp_in (σ.1 14 i 4) 8 := by
      exact vp_ofc b_5 hm0 hm8 (by decide)
    refine G.aald (g := 4) (i := 0) (n := 8) (f := fun q => w.2.2.2.1 17 q) C 2 dX5_earliestByPaper_19 (by decide) rfl rfl rfl hin_19 ?_
    refine G.get (g := 17) (i := ((σ.1 14 i 4).toNatClampNeg)) C 0 (some "PlateRoom") dX5_earliestByPaper_20 (vp_lt hin_19) rfl rfl uX_X4 (by decide) unf_RX5_77 rfl rfl ?_
    refine G.goto (tgt := 29) C dX5_earliestByPaper_23 (by decide) ?_
    refine G.topi (fun x2_29 ex2_29 => ?_)
    refine G.istore_n (L1 := [(2, .int x2_29), (0, .ref (w.2.2.2.1 0 0)), (1, .ref (w.2.2.2.1 14 i))]) C dX5_earliestByPaper_29 rfl (by decide) rfl ?_
    refine G.aload_n C 2 dX5_earliestByPaper_30 rfl rfl ?_
    refine G.get (g := 14) (i := i) C 5 (some "PlateRoom") dX5_earliestByPaper_31 hi rfl rfl uX_X2 (by decide) unf_RX5_139 rfl rfl ?_
    refine G.bipush (v := -9) C dX5_earliestByPaper_34 (by decide) ?_
    refine G.icmp_ne (tgt := 43) C dX5_earliestByPaper_36 (by decide) (fun c_36 => ?_) (fun c_36 => ?_)
    · refine G.iload_n C 0 dX5_earliestByPaper_43 rfl rfl ?_
      refine G.aload_n C 2 dX5_earliestByPaper_44 rfl rfl ?_
      refine G.get (g := 14) (i := i) C 5 (some "PlateRoom") dX5_earliestByPaper_45 hi rfl rfl uX_X2 (by decide) unf_RX5_139 rfl rfl ?_
      refine G.mmax C dX5_earliestByPaper_48 ul_RX5_148 (by decide) (Nat.le_of_ble_eq_true rfl) ?_
      subst hQ
      exact G.iret C hr dX5_earliestByPaper_51 (by
          exact ⟨rfl, by rw [earlF, if_neg c_36, if_pos b_5, ex2_29]; rfl⟩)
    · refine G.iload_n C 0 dX5_earliestByPaper_39 rfl rfl ?_
      refine G.goto (tgt := 51) C dX5_earliestByPaper_40 (by decide) ?_
      subst hQ
      exact G.iret C hr dX5_earliestByPaper_51 (by
          exact ⟨rfl, by rw [earlF, if_pos c_36, if_pos b_5]; exact ex2_29⟩)
set_option maxHeartbeats 4000000 in
set_option maxRecDepth 100000 in
theorem ok_X5_latestByPaper {w : wD} (hw : wOK w) (σ : wSt) (i : Nat) (hi : i < wN 14) {m : Nat} (hm0 : σ.1 0 0 5 = nI m) (hm8 : m ≤ 8) : MI w yX5_latestByPaper cX5_latestByPaper 2 (some .int) 1 21 [.ref (w.2.2.2.1 0 0), .ref (w.2.2.2.1 14 i)] σ (fun r τ => σ = τ ∧ r = lateF (fun q => σ.1 17 q 1) (σ.1 0 0 5) (σ.1 14 i 4)) := by
  refine MI.of hw (by decide +kernel) (Nat.le_of_ble_eq_true rfl) (fun x C hr => ?_)
  suffices key : ∀ Q, Q = QI w x (fun r τ => σ = τ ∧ r = lateF (fun q => σ.1 17 q 1) (σ.1 0 0 5) (σ.1 14 i 4)) → G w x 2 Q 0 [(0, .ref (w.2.2.2.1 0 0)), (1, .ref (w.2.2.2.1 14 i))] [] σ from key _ rfl
  intro Q hQ
  refine G.aload_n C 0 dX5_latestByPaper_0 rfl rfl ?_
  refine G.aload_n C 1 dX5_latestByPaper_1 rfl rfl ?_
  refine G.get (g := 14) (i := i) C 4 (some "PlateRoom") dX5_latestByPaper_2 hi rfl rfl uX_X2 (by decide) unf_RX5_133 rfl rfl ?_
  have hM_0 := ok_X5_isMould hw σ (σ.1 14 i 4)
  refine G.callV C (g := 0) (i := 0) none hM_0 dX5_latestByPaper_5 (by decide) rfl rfl rfl uv_X5_isMould ul_RX5_130 rfl rfl (by decide) (Nat.le_of_ble_eq_true rfl) (fun r_5 τ_5 h_5 => ?_)
  obtain ⟨h_5, e_5⟩ := h_5; subst h_5
  refine G.if_eq (tgt := 26) C dX5_latestByPaper_8 (by decide) (fun c_8 => ?_) (fun c_8 => ?_)
  · have b_5 := wb_0 e_5 c_8
    refine G.sipush (v := 1900) C dX5_latestByPaper_26 (by decide) ?_
    subst hQ
    exact G.iret C hr dX5_latestByPaper_29 (by
        exact ⟨rfl, by rw [lateF, if_neg b_5]⟩)
  · have b_5 := wb_1 e_5 c_8
    refine G.aload_n C 0 dX5_latestByPaper_11 rfl rfl ?_
    refine G.get (g := 0) (i := 0) C 4 none dX5_latestByPaper_12 (by decide) rfl rfl uX_X5 (by decide) uf_RX5_35 rfl rfl ?_
    refine G.aload_n C 1 dX5_latestByPaper_15 rfl rfl ?_
    refine G.get (g := 14) (i := i) C 4 (some "PlateRoom") dX5_latestByPaper_16 hi rfl rfl uX_X2 (by decide) unf_RX5_133 rfl rfl ?_
    have hin_19 : vp_in (σ.1 14 i 4) 8 := by
      exact vp_ofc b_5 hm0 hm8 (by decide)
    refine G.aald (g := 4) (i := 0) (n := 8) (f := fun q => w.2.2.2.1 17 q) C 2 dX5_latestByPaper_19 (by decide) rfl rfl rfl hin_19 ?_
    refine G.get (g := 17) (i := ((σ.1 14 i 4).toNatClampNeg)) C 1 (some "PlateRoom") dX5_latestByPaper_20 (vp_lt hin_19) rfl rfl uX_X4 (by decide) unf_RX5_80 rfl rfl ?_
    refine G.goto (tgt := 29) C dX5_latestByPaper_23 (by decide) ?_
    subst hQ
    exact G.iret C hr dX5_latestByPaper_29 (by
        exact ⟨rfl, by rw [lateF, if_pos b_5]⟩)
set_option maxHeartbeats 4000000 in
set_option maxRecDepth 100000 in
theorem ok_X5_span {w : wD} (hw : wOK w) (σ : wSt) (a b : Int32) {n : Nat} (hn : σ.1 1 0 5 = nI n) (h6 : n ≤ 6) {l : Nat} (hl : σ.1 0 0 3 = nI l) (hl20 : l ≤ 20) {m : Nat} (hm0 : σ.1 0 0 5 = nI m) (hm8 : m ≤ 8) : MI w yX5_span cX5_span 12 (some .int) 2 45 [.ref (w.2.2.2.1 0 0), .int a, .int b] σ (fun r τ => σ = τ ∧ ((¬ (inN (σ.1 0 0 3) a ∧ (b = 0 ∨ b = 1)) ∧ r = -1) ∨ ((inN (σ.1 0 0 3) a ∧ (b = 0 ∨ b = 1)) ∧ r = if b = 0 then (spU (fun q => σ.1 11 q 0) (fun q => σ.1 11 q 1) (candU (σ.1 6 0) (σ.1 14 a.toNatClampNeg 0) (σ.1 14 a.toNatClampNeg 1) n) (earlF (fun q => σ.1 17 q 0) (σ.1 0 0 5) (σ.1 14 a.toNatClampNeg 4) (σ.1 14 a.toNatClampNeg 5)) (lateF (fun q => σ.1 17 q 1) (σ.1 0 0 5) (σ.1 14 a.toNatClampNeg 4)) n).1 else (spU (fun q => σ.1 11 q 0) (fun q => σ.1 11 q 1) (candU (σ.1 6 0) (σ.1 14 a.toNatClampNeg 0) (σ.1 14 a.toNatClampNeg 1) n) (earlF (fun q => σ.1 17 q 0) (σ.1 0 0 5) (σ.1 14 a.toNatClampNeg 4) (σ.1 14 a.toNatClampNeg 5)) (lateF (fun q => σ.1 17 q 1) (σ.1 0 0 5) (σ.1 14 a.toNatClampNeg 4)) n).2))) := by
  refine MI.of hw (by decide +kernel) (Nat.le_of_ble_eq_true rfl) (fun x C hr => ?_)
  suffices key : ∀ Q, Q = QI w x (fun r τ => σ = τ ∧ ((¬ (inN (σ.1 0 0 3) a ∧ (b = 0 ∨ b = 1)) ∧ r = -1) ∨ ((inN (σ.1 0 0 3) a ∧ (b = 0 ∨ b = 1)) ∧ r = if b = 0 then (spU (fun q => σ.1 11 q 0) (fun q => σ.1 11 q 1) (candU (σ.1 6 0) (σ.1 14 a.toNatClampNeg 0) (σ.1 14 a.toNatClampNeg 1) n) (earlF (fun q => σ.1 17 q 0) (σ.1 0 0 5) (σ.1 14 a.toNatClampNeg 4) (σ.1 14 a.toNatClampNeg 5)) (lateF (fun q => σ.1 17 q 1) (σ.1 0 0 5) (σ.1 14 a.toNatClampNeg 4)) n).1 else (spU (fun q => σ.1 11 q 0) (fun q => σ.1 11 q 1) (candU (σ.1 6 0) (σ.1 14 a.toNatClampNeg 0) (σ.1 14 a.toNatClampNeg 1) n) (earlF (fun q => σ.1 17 q 0) (σ.1 0 0 5) (σ.1 14 a.toNatClampNeg 4) (σ.1 14 a.toNatClampNeg 5)) (lateF (fun q => σ.1 17 q 1) (σ.1 0 0 5) (σ.1 14 a.toNatClampNeg 4)) n).2))) → G w x 12 Q 0 [(0, .ref (w.2.2.2.1 0 0)), (1, .int a), (2, .int b)] [] σ from key _ rfl
  intro Q hQ
  refine G.aload_n C 0 dX5_span_0 rfl rfl ?_
  refine G.iload_n C 1 dX5_span_1 rfl rfl ?_
  have hM_0 := ok_X5_isLeaf hw σ a
  refine G.callV C (g := 0) (i := 0) none hM_0 dX5_span_2 (by decide) rfl rfl rfl uv_X5_isLeaf ul_RX5_111 rfl rfl (by decide) (Nat.le_of_ble_eq_true rfl) (fun r_2 τ_2 h_2 => ?_)
  obtain ⟨h_2, e_2⟩ := h_2; subst h_2
  refine G.if_eq (tgt := 15) C dX5_span_5 (by decide) (fun c_5 => ?_) (fun c_5 => ?_)
  · have b_2 := wb_0 e_2 c_5
    refine G.iconst (v := -1) C dX5_span_15 (by decide) ?_
    subst hQ
    exact G.iret C hr dX5_span_16 (by
        refine ⟨rfl, Or.inl ⟨fun q => ?_, rfl⟩⟩
        first | exact b_2 q.1 | exact b_9 q.2)
  · have b_2 := wb_1 e_2 c_5
    refine G.iload_n C 2 dX5_span_8 rfl rfl ?_
    have hM_1 := ok_X5_isFirstOrSecond hw σ b
    refine G.callS C none hM_1 dX5_span_9 us_X5_isFirstOrSecond ul_RX5_97 rfl rfl (by decide) (Nat.le_of_ble_eq_true rfl) (fun r_9 τ_9 h_9 => ?_)
    obtain ⟨h_9, e_9⟩ := h_9; subst h_9
    refine G.if_ne (tgt := 17) C dX5_span_12 (by decide) (fun c_12 => ?_) (fun c_12 => ?_)
    · have b_9 := wb_1 e_9 c_12
      refine G.aload_n C 0 dX5_span_17 rfl rfl ?_
      refine G.get (g := 0) (i := 0) C 2 none dX5_span_18 (by decide) rfl rfl uX_X5 (by decide) uf_RX5_25 rfl rfl ?_
      refine G.iload_n C 1 dX5_span_21 rfl rfl ?_
      have hin_22 : vp_in a 20 := by
        exact vp_ofc b_2 hl hl20 (by decide)
      refine G.aald (g := 3) (i := 0) (n := 20) (f := fun q => w.2.2.2.1 14 q) C 1 dX5_span_22 (by decide) rfl rfl rfl hin_22 ?_
      refine G.astore_n (L1 := [(3, .ref (w.2.2.2.1 14 a.toNatClampNeg)), (0, .ref (w.2.2.2.1 0 0)), (1, .int a), (2, .int b)]) C dX5_span_23 rfl (by decide) rfl ?_
      refine G.aload_n C 1 dX5_span_24 rfl rfl ?_
      refine G.aload_n C 0 dX5_span_25 rfl rfl ?_
      have hM_2 := ok_X5_earliestByPaper hw σ a.toNatClampNeg (vp_lt hin_22) hm0 hm8
      refine G.callV C (g := 0) (i := 0) none hM_2 dX5_span_26 (by decide) rfl rfl rfl uv_X5_earliestByPaper ul_RX5_142 rfl rfl (by decide) (Nat.le_of_ble_eq_true rfl) (fun r_26 τ_26 h_26 => ?_)
      obtain ⟨h_26, e_26⟩ := h_26; subst h_26
      refine G.istore (L1 := [(4, .int r_26), (3, .ref (w.2.2.2.1 14 a.toNatClampNeg)), (0, .ref (w.2.2.2.1 0 0)), (1, .int a), (2, .int b)]) C dX5_span_29 (by decide) rfl ?_
      refine G.aload_n C 2 dX5_span_31 rfl rfl ?_
      refine G.aload_n C 1 dX5_span_32 rfl rfl ?_
      have hM_3 := ok_X5_latestByPaper hw σ a.toNatClampNeg (vp_lt hin_22) hm0 hm8
      refine G.callV C (g := 0) (i := 0) none hM_3 dX5_span_33 (by decide) rfl rfl rfl uv_X5_latestByPaper ul_RX5_145 rfl rfl (by decide) (Nat.le_of_ble_eq_true rfl) (fun r_33 τ_33 h_33 => ?_)
      obtain ⟨h_33, e_33⟩ := h_33; subst h_33
      refine G.istore (L1 := [(5, .int r_33), (4, .int r_26), (3, .ref (w.2.2.2.1 14 a.toNatClampNeg)), (0, .ref (w.2.2.2.1 0 0)), (1, .int a), (2, .int b)]) C dX5_span_36 (by decide) rfl ?_
      refine G.aload_n C 3 dX5_span_38 rfl rfl ?_
      refine G.aload_n C 2 dX5_span_39 rfl rfl ?_
      have hM_4 := ok_X5_candidatesOf hw σ a.toNatClampNeg (vp_lt hin_22) hn h6
      refine G.callV C (g := 0) (i := 0) none hM_4 dX5_span_40 (by decide) rfl rfl rfl uv_X5_candidatesOf ul_RX5_123 rfl rfl (by decide) (Nat.le_of_ble_eq_true rfl) (fun r_40 τ_40 h_40 => ?_)
      obtain ⟨h_40, e_40⟩ := h_40; subst h_40
      refine G.istore (L1 := [(6, .int r_40), (5, .int r_33), (4, .int r_26), (3, .ref (w.2.2.2.1 14 a.toNatClampNeg)), (0, .ref (w.2.2.2.1 0 0)), (1, .int a), (2, .int b)]) C dX5_span_43 (by decide) rfl ?_
      refine G.bipush (v := -9) C dX5_span_45 (by decide) ?_
      refine G.istore (L1 := [(7, .int (-9)), (6, .int r_40), (5, .int r_33), (4, .int r_26), (3, .ref (w.2.2.2.1 14 a.toNatClampNeg)), (0, .ref (w.2.2.2.1 0 0)), (1, .int a), (2, .int b)]) C dX5_span_47 (by decide) rfl ?_
      refine G.bipush (v := -9) C dX5_span_49 (by decide) ?_
      refine G.istore (L1 := [(8, .int (-9)), (7, .int (-9)), (6, .int r_40), (5, .int r_33), (4, .int r_26), (3, .ref (w.2.2.2.1 14 a.toNatClampNeg)), (0, .ref (w.2.2.2.1 0 0)), (1, .int a), (2, .int b)]) C dX5_span_51 (by decide) rfl ?_
      refine G.iconst (v := 0) C dX5_span_53 (by decide) ?_
      refine G.istore (L1 := [(9, .int 0), (8, .int (-9)), (7, .int (-9)), (6, .int r_40), (5, .int r_33), (4, .int r_26), (3, .ref (w.2.2.2.1 14 a.toNatClampNeg)), (0, .ref (w.2.2.2.1 0 0)), (1, .int a), (2, .int b)]) C dX5_span_54 (by decide) rfl ?_
      have cut_56 : ∀ (m9 : Nat) (j : Nat) (x9 x8 x7 : Int32), j ≤ n → n < j + m9 → x9 = nI j → x8 = (spU (fun q => σ.1 11 q 0) (fun q => σ.1 11 q 1) r_40 r_26 r_33 j).2 → x7 = (spU (fun q => σ.1 11 q 0) (fun q => σ.1 11 q 1) r_40 r_26 r_33 j).1 → G w x 12 Q 56 [(9, .int x9), (8, .int x8), (7, .int x7), (6, .int r_40), (5, .int r_33), (4, .int r_26), (3, .ref (w.2.2.2.1 14 a.toNatClampNeg)), (0, .ref (w.2.2.2.1 0 0)), (1, .int a), (2, .int b)] [] σ := by
        intro m9
        induction m9 with
        | zero =>
          intro j x9 x8 x7 hj hm hx9 hx8 hx7
          exfalso
          omega
        | succ m9 ih =>
          intro j x9 x8 x7 hj hm hx9 hx8 hx7
          subst hx9
          subst hx8
          subst hx7
          refine G.iload C 0 dX5_span_56 rfl ?_
          refine G.aload_n C 7 dX5_span_58 rfl rfl ?_
          refine G.get (g := 0) (i := 0) C 0 none dX5_span_59 (by decide) rfl rfl uX_X5 (by decide) uf_RX5_10 rfl rfl ?_
          refine G.get (g := 1) (i := 0) C 5 (some "PlateRoom") dX5_span_62 (by decide) rfl rfl uX_X3 (by decide) unf_RX5_100 rfl rfl ?_
          refine G.icmp_ge (tgt := 173) C dX5_span_65 (by decide) (fun c_65 => ?_) (fun c_65 => ?_)
          · have hjn : j = n := by
              rw [hn, nI_leI (by omega) (by omega)] at c_65; omega
            refine G.iload_n C 9 dX5_span_173 rfl rfl ?_
            refine G.if_ne (tgt := 182) C dX5_span_174 (by decide) (fun c_174 => ?_) (fun c_174 => ?_)
            · refine G.iload C 1 dX5_span_182 rfl ?_
              subst hQ
              exact G.iret C hr dX5_span_184 (by
                  refine ⟨rfl, Or.inr ⟨⟨b_2, b_9⟩, ?_⟩⟩
                  rw [if_neg c_174, hjn, e_40, e_33, e_26])
            · refine G.iload C 2 dX5_span_177 rfl ?_
              refine G.goto (tgt := 184) C dX5_span_179 (by decide) ?_
              subst hQ
              exact G.iret C hr dX5_span_184 (by
                  refine ⟨rfl, Or.inr ⟨⟨b_2, b_9⟩, ?_⟩⟩
                  rw [if_pos c_174, hjn, e_40, e_33, e_26])
          · have hjn : j < n := by
              rw [hn, nI_leI (by omega) (by omega)] at c_65; omega
            refine G.iload C 5 dX5_span_68 rfl ?_
            refine G.aload_n C 7 dX5_span_70 rfl rfl ?_
            refine G.get (g := 0) (i := 0) C 0 none dX5_span_71 (by decide) rfl rfl uX_X5 (by decide) uf_RX5_10 rfl rfl ?_
            refine G.get (g := 1) (i := 0) C 4 (some "PlateRoom") dX5_span_74 (by decide) rfl rfl uX_X3 (by decide) unf_RX5_74 rfl rfl ?_
            refine G.iload C 0 dX5_span_77 rfl ?_
            have hin_79 : vp_in (nI j) 6 := by
              exact vp_in_nI (by omega) (by decide)
            refine G.aald (g := 7) (i := 0) (n := 6) (f := fun q => w.2.2.2.1 11 q) C 2 dX5_span_79 (by decide) rfl rfl rfl hin_79 ?_
            refine G.get (g := 11) (i := ((nI j).toNatClampNeg)) C 0 (some "PlateRoom") dX5_span_80 (vp_lt hin_79) rfl rfl uX_X4 (by decide) unf_RX5_77 rfl rfl ?_
            refine G.mmax C dX5_span_83 ul_RX5_148 (by decide) (Nat.le_of_ble_eq_true rfl) ?_
            refine G.topi (fun x10_86 ex10_86 => ?_)
            refine G.istore (L1 := [(10, .int x10_86), (9, .int (nI j)), (8, .int ((spU (fun q => σ.1 11 q 0) (fun q => σ.1 11 q 1) r_40 r_26 r_33 j).2)), (7, .int ((spU (fun q => σ.1 11 q 0) (fun q => σ.1 11 q 1) r_40 r_26 r_33 j).1)), (6, .int r_40), (5, .int r_33), (4, .int r_26), (3, .ref (w.2.2.2.1 14 a.toNatClampNeg)), (0, .ref (w.2.2.2.1 0 0)), (1, .int a), (2, .int b)]) C dX5_span_86 (by decide) rfl ?_
            refine G.iload C 5 dX5_span_88 rfl ?_
            refine G.aload_n C 8 dX5_span_90 rfl rfl ?_
            refine G.get (g := 0) (i := 0) C 0 none dX5_span_91 (by decide) rfl rfl uX_X5 (by decide) uf_RX5_10 rfl rfl ?_
            refine G.get (g := 1) (i := 0) C 4 (some "PlateRoom") dX5_span_94 (by decide) rfl rfl uX_X3 (by decide) unf_RX5_74 rfl rfl ?_
            refine G.iload C 1 dX5_span_97 rfl ?_
            have hin_99 : vp_in (nI j) 6 := by
              exact vp_in_nI (by omega) (by decide)
            refine G.aald (g := 7) (i := 0) (n := 6) (f := fun q => w.2.2.2.1 11 q) C 2 dX5_span_99 (by decide) rfl rfl rfl hin_99 ?_
            refine G.get (g := 11) (i := ((nI j).toNatClampNeg)) C 1 (some "PlateRoom") dX5_span_100 (vp_lt hin_99) rfl rfl uX_X4 (by decide) unf_RX5_80 rfl rfl ?_
            refine G.mmin C dX5_span_103 ul_RX5_154 (by decide) (Nat.le_of_ble_eq_true rfl) ?_
            refine G.topi (fun x11_106 ex11_106 => ?_)
            refine G.istore (L1 := [(11, .int x11_106), (10, .int x10_86), (9, .int (nI j)), (8, .int ((spU (fun q => σ.1 11 q 0) (fun q => σ.1 11 q 1) r_40 r_26 r_33 j).2)), (7, .int ((spU (fun q => σ.1 11 q 0) (fun q => σ.1 11 q 1) r_40 r_26 r_33 j).1)), (6, .int r_40), (5, .int r_33), (4, .int r_26), (3, .ref (w.2.2.2.1 14 a.toNatClampNeg)), (0, .ref (w.2.2.2.1 0 0)), (1, .int a), (2, .int b)]) C dX5_span_106 (by decide) rfl ?_
            refine G.iload C 5 dX5_span_108 rfl ?_
            refine G.iload C 2 dX5_span_110 rfl ?_
            have hM_5 := ok_X5_has hw σ r_40 (nI j)
            refine G.callS C none hM_5 dX5_span_112 us_X5_has ul_RX5_157 rfl rfl (by decide) (Nat.le_of_ble_eq_true rfl) (fun r_112 τ_112 h_112 => ?_)
            obtain ⟨h_112, e_112⟩ := h_112; subst h_112
            refine G.if_eq (tgt := 167) C dX5_span_115 (by decide) (fun c_115 => ?_) (fun c_115 => ?_)
            · have b_112 := wb_0 e_112 c_115
              obtain ⟨x9_167, ex9_167⟩ : ∃ z : Int32, z = (nI j) + 1 := ⟨_, rfl⟩
              refine G.iinc (v := x9_167) (L1 := [(9, .int x9_167), (11, .int x11_106), (10, .int x10_86), (8, .int ((spU (fun q => σ.1 11 q 0) (fun q => σ.1 11 q 1) r_40 r_26 r_33 j).2)), (7, .int ((spU (fun q => σ.1 11 q 0) (fun q => σ.1 11 q 1) r_40 r_26 r_33 j).1)), (6, .int r_40), (5, .int r_33), (4, .int r_26), (3, .ref (w.2.2.2.1 14 a.toNatClampNeg)), (0, .ref (w.2.2.2.1 0 0)), (1, .int a), (2, .int b)]) C 2 dX5_span_167 rfl (by rw [ex9_167]; rfl) (by decide) rfl ?_
              refine G.goto (tgt := 56) C dX5_span_170 (by decide) ?_
              refine G.sub (L1 := [(9, .int x9_167), (8, .int ((spU (fun q => σ.1 11 q 0) (fun q => σ.1 11 q 1) r_40 r_26 r_33 j).2)), (7, .int ((spU (fun q => σ.1 11 q 0) (fun q => σ.1 11 q 1) r_40 r_26 r_33 j).1)), (6, .int r_40), (5, .int r_33), (4, .int r_26), (3, .ref (w.2.2.2.1 14 a.toNatClampNeg)), (0, .ref (w.2.2.2.1 0 0)), (1, .int a), (2, .int b)]) [0, 3, 4, 5, 6, 7, 8, 9, 10, 11] rfl ?_
              refine ih  (j + 1) _ _ _ ?_ ?_ ?_ ?_ ?_
              · omega
              · omega
              · rw [ex9_167]; exact nI_1 j
              · rw [spU_f (fun q => b_112 q.1)]
              · rw [spU_f (fun q => b_112 q.1)]
            · have b_112 := wb_1 e_112 c_115
              refine G.iload C 1 dX5_span_118 rfl ?_
              refine G.iload C 0 dX5_span_120 rfl ?_
              refine G.icmp_gt (tgt := 167) C dX5_span_122 (by decide) (fun c_122 => ?_) (fun c_122 => ?_)
              · obtain ⟨x9_167, ex9_167⟩ : ∃ z : Int32, z = (nI j) + 1 := ⟨_, rfl⟩
                refine G.iinc (v := x9_167) (L1 := [(9, .int x9_167), (11, .int x11_106), (10, .int x10_86), (8, .int ((spU (fun q => σ.1 11 q 0) (fun q => σ.1 11 q 1) r_40 r_26 r_33 j).2)), (7, .int ((spU (fun q => σ.1 11 q 0) (fun q => σ.1 11 q 1) r_40 r_26 r_33 j).1)), (6, .int r_40), (5, .int r_33), (4, .int r_26), (3, .ref (w.2.2.2.1 14 a.toNatClampNeg)), (0, .ref (w.2.2.2.1 0 0)), (1, .int a), (2, .int b)]) C 2 dX5_span_167 rfl (by rw [ex9_167]; rfl) (by decide) rfl ?_
                refine G.goto (tgt := 56) C dX5_span_170 (by decide) ?_
                refine G.sub (L1 := [(9, .int x9_167), (8, .int ((spU (fun q => σ.1 11 q 0) (fun q => σ.1 11 q 1) r_40 r_26 r_33 j).2)), (7, .int ((spU (fun q => σ.1 11 q 0) (fun q => σ.1 11 q 1) r_40 r_26 r_33 j).1)), (6, .int r_40), (5, .int r_33), (4, .int r_26), (3, .ref (w.2.2.2.1 14 a.toNatClampNeg)), (0, .ref (w.2.2.2.1 0 0)), (1, .int a), (2, .int b)]) [0, 3, 4, 5, 6, 7, 8, 9, 10, 11] rfl ?_
                refine ih  (j + 1) _ _ _ ?_ ?_ ?_ ?_ ?_
                · omega
                · omega
                · rw [ex9_167]; exact nI_1 j
                · rw [spU_f (fun q => ?_)]
                  rw [ex10_86, ex11_106, nI_clamp (by omega)] at c_122
                  exact Int32.not_le.mpr c_122 q.2
                · rw [spU_f (fun q => ?_)]
                  rw [ex10_86, ex11_106, nI_clamp (by omega)] at c_122
                  exact Int32.not_le.mpr c_122 q.2
              · refine G.iload C 4 dX5_span_125 rfl ?_
                refine G.bipush (v := -9) C dX5_span_127 (by decide) ?_
                refine G.icmp_ne (tgt := 137) C dX5_span_129 (by decide) (fun c_129 => ?_) (fun c_129 => ?_)
                · refine G.iload C 4 dX5_span_137 rfl ?_
                  refine G.iload C 1 dX5_span_139 rfl ?_
                  refine G.mmin C dX5_span_141 ul_RX5_154 (by decide) (Nat.le_of_ble_eq_true rfl) ?_
                  refine G.topi (fun x7_144 ex7_144 => ?_)
                  refine G.istore (L1 := [(7, .int x7_144), (11, .int x11_106), (10, .int x10_86), (9, .int (nI j)), (8, .int ((spU (fun q => σ.1 11 q 0) (fun q => σ.1 11 q 1) r_40 r_26 r_33 j).2)), (6, .int r_40), (5, .int r_33), (4, .int r_26), (3, .ref (w.2.2.2.1 14 a.toNatClampNeg)), (0, .ref (w.2.2.2.1 0 0)), (1, .int a), (2, .int b)]) C dX5_span_144 (by decide) rfl ?_
                  refine G.iload C 4 dX5_span_146 rfl ?_
                  refine G.bipush (v := -9) C dX5_span_148 (by decide) ?_
                  refine G.icmp_ne (tgt := 158) C dX5_span_150 (by decide) (fun c_150 => ?_) (fun c_150 => ?_)
                  · refine G.iload C 4 dX5_span_158 rfl ?_
                    refine G.iload C 1 dX5_span_160 rfl ?_
                    refine G.mmax C dX5_span_162 ul_RX5_148 (by decide) (Nat.le_of_ble_eq_true rfl) ?_
                    refine G.topi (fun x8_165 ex8_165 => ?_)
                    refine G.istore (L1 := [(8, .int x8_165), (7, .int x7_144), (11, .int x11_106), (10, .int x10_86), (9, .int (nI j)), (6, .int r_40), (5, .int r_33), (4, .int r_26), (3, .ref (w.2.2.2.1 14 a.toNatClampNeg)), (0, .ref (w.2.2.2.1 0 0)), (1, .int a), (2, .int b)]) C dX5_span_165 (by decide) rfl ?_
                    obtain ⟨x9_167, ex9_167⟩ : ∃ z : Int32, z = (nI j) + 1 := ⟨_, rfl⟩
                    refine G.iinc (v := x9_167) (L1 := [(9, .int x9_167), (8, .int x8_165), (7, .int x7_144), (11, .int x11_106), (10, .int x10_86), (6, .int r_40), (5, .int r_33), (4, .int r_26), (3, .ref (w.2.2.2.1 14 a.toNatClampNeg)), (0, .ref (w.2.2.2.1 0 0)), (1, .int a), (2, .int b)]) C 4 dX5_span_167 rfl (by rw [ex9_167]; rfl) (by decide) rfl ?_
                    refine G.goto (tgt := 56) C dX5_span_170 (by decide) ?_
                    refine G.sub (L1 := [(9, .int x9_167), (8, .int x8_165), (7, .int x7_144), (6, .int r_40), (5, .int r_33), (4, .int r_26), (3, .ref (w.2.2.2.1 14 a.toNatClampNeg)), (0, .ref (w.2.2.2.1 0 0)), (1, .int a), (2, .int b)]) [0, 1, 2, 5, 6, 7, 8, 9, 10, 11] rfl ?_
                    refine ih  (j + 1) _ _ _ ?_ ?_ ?_ ?_ ?_
                    · omega
                    · omega
                    · rw [ex9_167]; exact nI_1 j
                    · have q9 := spU_t (fr := fun q => σ.1 11 q 0) (to := fun q => σ.1 11 q 1) (c := r_40) (e := r_26) (l := r_33) (k := j) b_112 (by
                        rw [ex10_86, ex11_106] at c_122
                        rw [nI_clamp (by omega)] at c_122
                        exact Int32.not_lt.mp c_122)
                      rw [q9]
                      show _ = ite _ _ _
                      rw [if_neg c_150]
                      subst_vars
                      rw [nI_clamp (by omega)]
                      rfl
                    · have q9 := spU_t (fr := fun q => σ.1 11 q 0) (to := fun q => σ.1 11 q 1) (c := r_40) (e := r_26) (l := r_33) (k := j) b_112 (by
                        rw [ex10_86, ex11_106] at c_122
                        rw [nI_clamp (by omega)] at c_122
                        exact Int32.not_lt.mp c_122)
                      rw [q9]
                      show _ = ite _ _ _
                      rw [if_neg c_129]
                      subst_vars
                      rw [nI_clamp (by omega)]
                      rfl
                  · refine G.iload C 1 dX5_span_153 rfl ?_
                    refine G.goto (tgt := 165) C dX5_span_155 (by decide) ?_
                    refine G.istore (L1 := [(8, .int x11_106), (7, .int x7_144), (11, .int x11_106), (10, .int x10_86), (9, .int (nI j)), (6, .int r_40), (5, .int r_33), (4, .int r_26), (3, .ref (w.2.2.2.1 14 a.toNatClampNeg)), (0, .ref (w.2.2.2.1 0 0)), (1, .int a), (2, .int b)]) C dX5_span_165 (by decide) rfl ?_
                    obtain ⟨x9_167, ex9_167⟩ : ∃ z : Int32, z = (nI j) + 1 := ⟨_, rfl⟩
                    refine G.iinc (v := x9_167) (L1 := [(9, .int x9_167), (8, .int x11_106), (7, .int x7_144), (11, .int x11_106), (10, .int x10_86), (6, .int r_40), (5, .int r_33), (4, .int r_26), (3, .ref (w.2.2.2.1 14 a.toNatClampNeg)), (0, .ref (w.2.2.2.1 0 0)), (1, .int a), (2, .int b)]) C 4 dX5_span_167 rfl (by rw [ex9_167]; rfl) (by decide) rfl ?_
                    refine G.goto (tgt := 56) C dX5_span_170 (by decide) ?_
                    refine G.sub (L1 := [(9, .int x9_167), (8, .int x11_106), (7, .int x7_144), (6, .int r_40), (5, .int r_33), (4, .int r_26), (3, .ref (w.2.2.2.1 14 a.toNatClampNeg)), (0, .ref (w.2.2.2.1 0 0)), (1, .int a), (2, .int b)]) [0, 1, 2, 5, 6, 7, 8, 9, 10, 11] rfl ?_
                    refine ih  (j + 1) _ _ _ ?_ ?_ ?_ ?_ ?_
                    · omega
                    · omega
                    · rw [ex9_167]; exact nI_1 j
                    · have q9 := spU_t (fr := fun q => σ.1 11 q 0) (to := fun q => σ.1 11 q 1) (c := r_40) (e := r_26) (l := r_33) (k := j) b_112 (by
                        rw [ex10_86, ex11_106] at c_122
                        rw [nI_clamp (by omega)] at c_122
                        exact Int32.not_lt.mp c_122)
                      rw [q9]
                      show _ = ite _ _ _
                      rw [if_pos c_150]
                      subst_vars
                      rw [nI_clamp (by omega)]
                      rfl
                    · have q9 := spU_t (fr := fun q => σ.1 11 q 0) (to := fun q => σ.1 11 q 1) (c := r_40) (e := r_26) (l := r_33) (k := j) b_112 (by
                        rw [ex10_86, ex11_106] at c_122
                        rw [nI_clamp (by omega)] at c_122
                        exact Int32.not_lt.mp c_122)
                      rw [q9]
                      show _ = ite _ _ _
                      rw [if_neg c_129]
                      subst_vars
                      rw [nI_clamp (by omega)]
                      rfl
                · refine G.iload C 1 dX5_span_132 rfl ?_
                  refine G.goto (tgt := 144) C dX5_span_134 (by decide) ?_
                  refine G.istore (L1 := [(7, .int x10_86), (11, .int x11_106), (10, .int x10_86), (9, .int (nI j)), (8, .int ((spU (fun q => σ.1 11 q 0) (fun q => σ.1 11 q 1) r_40 r_26 r_33 j).2)), (6, .int r_40), (5, .int r_33), (4, .int r_26), (3, .ref (w.2.2.2.1 14 a.toNatClampNeg)), (0, .ref (w.2.2.2.1 0 0)), (1, .int a), (2, .int b)]) C dX5_span_144 (by decide) rfl ?_
                  refine G.iload C 4 dX5_span_146 rfl ?_
                  refine G.bipush (v := -9) C dX5_span_148 (by decide) ?_
                  refine G.icmp_ne (tgt := 158) C dX5_span_150 (by decide) (fun c_150 => ?_) (fun c_150 => ?_)
                  · refine G.iload C 4 dX5_span_158 rfl ?_
                    refine G.iload C 1 dX5_span_160 rfl ?_
                    refine G.mmax C dX5_span_162 ul_RX5_148 (by decide) (Nat.le_of_ble_eq_true rfl) ?_
                    refine G.topi (fun x8_165 ex8_165 => ?_)
                    refine G.istore (L1 := [(8, .int x8_165), (7, .int x10_86), (11, .int x11_106), (10, .int x10_86), (9, .int (nI j)), (6, .int r_40), (5, .int r_33), (4, .int r_26), (3, .ref (w.2.2.2.1 14 a.toNatClampNeg)), (0, .ref (w.2.2.2.1 0 0)), (1, .int a), (2, .int b)]) C dX5_span_165 (by decide) rfl ?_
                    obtain ⟨x9_167, ex9_167⟩ : ∃ z : Int32, z = (nI j) + 1 := ⟨_, rfl⟩
                    refine G.iinc (v := x9_167) (L1 := [(9, .int x9_167), (8, .int x8_165), (7, .int x10_86), (11, .int x11_106), (10, .int x10_86), (6, .int r_40), (5, .int r_33), (4, .int r_26), (3, .ref (w.2.2.2.1 14 a.toNatClampNeg)), (0, .ref (w.2.2.2.1 0 0)), (1, .int a), (2, .int b)]) C 4 dX5_span_167 rfl (by rw [ex9_167]; rfl) (by decide) rfl ?_
                    refine G.goto (tgt := 56) C dX5_span_170 (by decide) ?_
                    refine G.sub (L1 := [(9, .int x9_167), (8, .int x8_165), (7, .int x10_86), (6, .int r_40), (5, .int r_33), (4, .int r_26), (3, .ref (w.2.2.2.1 14 a.toNatClampNeg)), (0, .ref (w.2.2.2.1 0 0)), (1, .int a), (2, .int b)]) [0, 1, 2, 5, 6, 7, 8, 9, 10, 11] rfl ?_
                    refine ih  (j + 1) _ _ _ ?_ ?_ ?_ ?_ ?_
                    · omega
                    · omega
                    · rw [ex9_167]; exact nI_1 j
                    · have q9 := spU_t (fr := fun q => σ.1 11 q 0) (to := fun q => σ.1 11 q 1) (c := r_40) (e := r_26) (l := r_33) (k := j) b_112 (by
                        rw [ex10_86, ex11_106] at c_122
                        rw [nI_clamp (by omega)] at c_122
                        exact Int32.not_lt.mp c_122)
                      rw [q9]
                      show _ = ite _ _ _
                      rw [if_neg c_150]
                      subst_vars
                      rw [nI_clamp (by omega)]
                      rfl
                    · have q9 := spU_t (fr := fun q => σ.1 11 q 0) (to := fun q => σ.1 11 q 1) (c := r_40) (e := r_26) (l := r_33) (k := j) b_112 (by
                        rw [ex10_86, ex11_106] at c_122
                        rw [nI_clamp (by omega)] at c_122
                        exact Int32.not_lt.mp c_122)
                      rw [q9]
                      show _ = ite _ _ _
                      rw [if_pos c_129]
                      subst_vars
                      rw [nI_clamp (by omega)]
                      rfl
                  · refine G.iload C 1 dX5_span_153 rfl ?_
                    refine G.goto (tgt := 165) C dX5_span_155 (by decide) ?_
                    refine G.istore (L1 := [(8, .int x11_106), (7, .int x10_86), (11, .int x11_106), (10, .int x10_86), (9, .int (nI j)), (6, .int r_40), (5, .int r_33), (4, .int r_26), (3, .ref (w.2.2.2.1 14 a.toNatClampNeg)), (0, .ref (w.2.2.2.1 0 0)), (1, .int a), (2, .int b)]) C dX5_span_165 (by decide) rfl ?_
                    obtain ⟨x9_167, ex9_167⟩ : ∃ z : Int32, z = (nI j) + 1 := ⟨_, rfl⟩
                    refine G.iinc (v := x9_167) (L1 := [(9, .int x9_167), (8, .int x11_106), (7, .int x10_86), (11, .int x11_106), (10, .int x10_86), (6, .int r_40), (5, .int r_33), (4, .int r_26), (3, .ref (w.2.2.2.1 14 a.toNatClampNeg)), (0, .ref (w.2.2.2.1 0 0)), (1, .int a), (2, .int b)]) C 4 dX5_span_167 rfl (by rw [ex9_167]; rfl) (by decide) rfl ?_
                    refine G.goto (tgt := 56) C dX5_span_170 (by decide) ?_
                    refine G.sub (L1 := [(9, .int x9_167), (8, .int x11_106), (7, .int x10_86), (6, .int r_40), (5, .int r_33), (4, .int r_26), (3, .ref (w.2.2.2.1 14 a.toNatClampNeg)), (0, .ref (w.2.2.2.1 0 0)), (1, .int a), (2, .int b)]) [0, 1, 2, 5, 6, 7, 8, 9, 10, 11] rfl ?_
                    refine ih  (j + 1) _ _ _ ?_ ?_ ?_ ?_ ?_
                    · omega
                    · omega
                    · rw [ex9_167]; exact nI_1 j
                    · have q9 := spU_t (fr := fun q => σ.1 11 q 0) (to := fun q => σ.1 11 q 1) (c := r_40) (e := r_26) (l := r_33) (k := j) b_112 (by
                        rw [ex10_86, ex11_106] at c_122
                        rw [nI_clamp (by omega)] at c_122
                        exact Int32.not_lt.mp c_122)
                      rw [q9]
                      show _ = ite _ _ _
                      rw [if_pos c_150]
                      subst_vars
                      rw [nI_clamp (by omega)]
                      rfl
                    · have q9 := spU_t (fr := fun q => σ.1 11 q 0) (to := fun q => σ.1 11 q 1) (c := r_40) (e := r_26) (l := r_33) (k := j) b_112 (by
                        rw [ex10_86, ex11_106] at c_122
                        rw [nI_clamp (by omega)] at c_122
                        exact Int32.not_lt.mp c_122)
                      rw [q9]
                      show _ = ite _ _ _
                      rw [if_pos c_129]
                      subst_vars
                      rw [nI_clamp (by omega)]
                      rfl
      refine cut_56 (n + 1) 0 _ _ _ ?_ ?_ ?_ ?_ ?_
      · omega
      · omega
      · rfl
      · rfl
      · rfl
    · have b_9 := wb_0 e_9 c_12
      refine G.iconst (v := -1) C dX5_span_15 (by decide) ?_
      subst hQ
      exact G.iret C hr dX5_span_16 (by
          refine ⟨rfl, Or.inl ⟨fun q => ?_, rfl⟩⟩
          first | exact b_2 q.1 | exact b_9 q.2)
set_option maxHeartbeats 4000000 in
set_option maxRecDepth 100000 in
theorem ok_X5_plainPrice {w : wD} (hw : wOK w) (σ : wSt) (i : Nat) (hi : i < wN 14) {n : Nat} (hn : σ.1 1 0 5 = nI n) (h6 : n ≤ 6) : MI w yX5_plainPrice cX5_plainPrice 3 (some .int) 2 45 [.ref (w.2.2.2.1 0 0), .ref (w.2.2.2.1 14 i)] σ (fun r τ => wUpL σ 0 (σ.2 0 + 1) = τ ∧ r = plainF (pop (candU (σ.1 6 0) (σ.1 14 i 0) (σ.1 14 i 1) n)) (σ.1 14 i 2)) := by
  refine MI.of hw (by decide +kernel) (Nat.le_of_ble_eq_true rfl) (fun x C hr => ?_)
  suffices key : ∀ Q, Q = QI w x (fun r τ => wUpL σ 0 (σ.2 0 + 1) = τ ∧ r = plainF (pop (candU (σ.1 6 0) (σ.1 14 i 0) (σ.1 14 i 1) n)) (σ.1 14 i 2)) → G w x 3 Q 0 [(0, .ref (w.2.2.2.1 0 0)), (1, .ref (w.2.2.2.1 14 i))] [] σ from key _ rfl
  intro Q hQ
  refine G.aload_n C 0 dX5_plainPrice_0 rfl rfl ?_
  refine G.dup C dX5_plainPrice_1 rfl ?_
  refine G.get (g := 0) (i := 0) C 7 none dX5_plainPrice_2 (by decide) rfl rfl uX_X5 (by decide) uf_RX5_48 rfl rfl ?_
  refine G.lconst (v := 1) C dX5_plainPrice_5 (by decide) ?_
  refine G.ladd C dX5_plainPrice_6 ?_
  refine G.putL (g := 0) (i := 0) (j := 0) C 7 none dX5_plainPrice_7 (by decide) (by decide) rfl rfl uX_X5 tyX5 tyX5_ok nmX5 (by decide) uf_RX5_48 rfl rfl (by decide +kernel) (Nat.le_of_ble_eq_true rfl) w_up_0_7 ?_
  refine G.aload_n C 0 dX5_plainPrice_10 rfl rfl ?_
  refine G.aload_n C 1 dX5_plainPrice_11 rfl rfl ?_
  have hM_0 := ok_X5_candidatesOf hw (wUpL σ 0 ((σ.2 0) + 1)) i hi hn h6
  refine G.callV C (g := 0) (i := 0) none hM_0 dX5_plainPrice_12 (by decide) rfl rfl rfl uv_X5_candidatesOf ul_RX5_123 rfl rfl (by decide) (Nat.le_of_ble_eq_true rfl) (fun r_12 τ_12 h_12 => ?_)
  obtain ⟨h_12, e_12⟩ := h_12; subst h_12
  have hM_1 := ok_J6_bitCount_0f7a4 hw (wUpL σ 0 ((σ.2 0) + 1)) r_12 (by rw [e_12]; exact rng_cand n h6)
  refine G.callS C none hM_1 dX5_plainPrice_15 us_J6_bitCount_0f7a4 ul_RX5_253 rfl rfl (by decide) (Nat.le_of_ble_eq_true rfl) (fun r_15 τ_15 h_15 => ?_)
  obtain ⟨h_15, e_15⟩ := h_15; subst h_15
  refine G.istore_n (L1 := [(2, .int r_15), (0, .ref (w.2.2.2.1 0 0)), (1, .ref (w.2.2.2.1 14 i))]) C dX5_plainPrice_18 rfl (by decide) rfl ?_
  refine G.iload_n C 0 dX5_plainPrice_19 rfl rfl ?_
  refine G.if_ne (tgt := 27) C dX5_plainPrice_20 (by decide) (fun c_20 => ?_) (fun c_20 => ?_)
  · refine G.aload_n C 2 dX5_plainPrice_27 rfl rfl ?_
    refine G.get (g := 14) (i := i) C 2 (some "PlateRoom") dX5_plainPrice_28 hi rfl rfl uX_X2 (by decide) unf_RX5_258 rfl rfl ?_
    refine G.iload_n C 0 dX5_plainPrice_31 rfl rfl ?_
    refine G.idiv C dX5_plainPrice_32 (c_20) ?_
    subst hQ
    exact G.iret C hr dX5_plainPrice_33 (by
        refine ⟨rfl, ?_⟩
        simp only [wUpL_1] at *
        have c_20n : ¬ r_15 = 0 := c_20
        rw [e_15, e_12] at c_20n
        rw [plainF, if_neg c_20n, e_15, e_12])
  · refine G.iconst (v := 0) C dX5_plainPrice_23 (by decide) ?_
    refine G.goto (tgt := 33) C dX5_plainPrice_24 (by decide) ?_
    subst hQ
    exact G.iret C hr dX5_plainPrice_33 (by
        refine ⟨rfl, ?_⟩
        simp only [wUpL_1] at *
        rw [e_15, e_12] at c_20
        rw [plainF, if_pos c_20])
set_option maxHeartbeats 4000000 in
set_option maxRecDepth 100000 in
theorem ok_X5_colouredPrice {w : wD} (hw : wOK w) (σ : wSt) (i : Nat) (hi : i < wN 14) {n : Nat} (hn : σ.1 1 0 5 = nI n) (h6 : n ≤ 6) : MI w yX5_colouredPrice cX5_colouredPrice 3 (some .int) 3 67 [.ref (w.2.2.2.1 0 0), .ref (w.2.2.2.1 14 i)] σ (fun r τ => wUpL σ 0 (σ.2 0 + 10 + 1) = τ ∧ r = colF (plainF (pop (candU (σ.1 6 0) (σ.1 14 i 0) (σ.1 14 i 1) n)) (σ.1 14 i 2)) (σ.1 14 i 3)) := by
  refine MI.of hw (by decide +kernel) (Nat.le_of_ble_eq_true rfl) (fun x C hr => ?_)
  suffices key : ∀ Q, Q = QI w x (fun r τ => wUpL σ 0 (σ.2 0 + 10 + 1) = τ ∧ r = colF (plainF (pop (candU (σ.1 6 0) (σ.1 14 i 0) (σ.1 14 i 1) n)) (σ.1 14 i 2)) (σ.1 14 i 3)) → G w x 3 Q 0 [(0, .ref (w.2.2.2.1 0 0)), (1, .ref (w.2.2.2.1 14 i))] [] σ from key _ rfl
  intro Q hQ
  refine G.aload_n C 0 dX5_colouredPrice_0 rfl rfl ?_
  refine G.dup C dX5_colouredPrice_1 rfl ?_
  refine G.get (g := 0) (i := 0) C 7 none dX5_colouredPrice_2 (by decide) rfl rfl uX_X5 (by decide) uf_RX5_48 rfl rfl ?_
  refine G.ldc2 C uk_RX5_261 dX5_colouredPrice_5 ?_
  refine G.ladd C dX5_colouredPrice_8 ?_
  refine G.putL (g := 0) (i := 0) (j := 0) C 7 none dX5_colouredPrice_9 (by decide) (by decide) rfl rfl uX_X5 tyX5 tyX5_ok nmX5 (by decide) uf_RX5_48 rfl rfl (by decide +kernel) (Nat.le_of_ble_eq_true rfl) w_up_0_7 ?_
  refine G.aload_n C 0 dX5_colouredPrice_12 rfl rfl ?_
  refine G.aload_n C 1 dX5_colouredPrice_13 rfl rfl ?_
  have hM_0 := ok_X5_plainPrice hw (wUpL σ 0 ((σ.2 0) + 10)) i hi hn h6
  refine G.callV C (g := 0) (i := 0) none hM_0 dX5_colouredPrice_14 (by decide) rfl rfl rfl uv_X5_plainPrice ul_RX5_160 rfl rfl (by decide) (Nat.le_of_ble_eq_true rfl) (fun r_14 τ_14 h_14 => ?_)
  obtain ⟨h_14, e_14⟩ := h_14; subst h_14
  refine G.istore_n (L1 := [(2, .int r_14), (0, .ref (w.2.2.2.1 0 0)), (1, .ref (w.2.2.2.1 14 i))]) C dX5_colouredPrice_17 rfl (by decide) rfl ?_
  refine G.aload_n C 2 dX5_colouredPrice_18 rfl rfl ?_
  refine G.get (g := 14) (i := i) C 3 (some "PlateRoom") dX5_colouredPrice_19 hi rfl rfl uX_X2 (by decide) unf_RX5_263 rfl rfl ?_
  refine G.iconst (v := 1) C dX5_colouredPrice_22 (by decide) ?_
  refine G.icmp_ne (tgt := 32) C dX5_colouredPrice_23 (by decide) (fun c_23 => ?_) (fun c_23 => ?_)
  · refine G.aload_n C 2 dX5_colouredPrice_32 rfl rfl ?_
    refine G.get (g := 14) (i := i) C 3 (some "PlateRoom") dX5_colouredPrice_33 hi rfl rfl uX_X2 (by decide) unf_RX5_263 rfl rfl ?_
    refine G.iconst (v := 2) C dX5_colouredPrice_36 (by decide) ?_
    refine G.icmp_ne (tgt := 48) C dX5_colouredPrice_37 (by decide) (fun c_37 => ?_) (fun c_37 => ?_)
    · refine G.iload_n C 0 dX5_colouredPrice_48 rfl rfl ?_
      subst hQ
      exact G.iret C hr dX5_colouredPrice_49 (by
          refine ⟨by rw [wUpL_ov, wUpL_eq], ?_⟩
          simp only [wUpL_1] at *
          rw [colF, if_neg c_23, if_neg c_37, e_14])
    · refine G.iload_n C 0 dX5_colouredPrice_40 rfl rfl ?_
      refine G.iload_n C 0 dX5_colouredPrice_41 rfl rfl ?_
      refine G.iconst (v := 3) C dX5_colouredPrice_42 (by decide) ?_
      refine G.iadd C dX5_colouredPrice_43 ?_
      refine G.iconst (v := 4) C dX5_colouredPrice_44 (by decide) ?_
      refine G.idiv C dX5_colouredPrice_45 (by decide) ?_
      refine G.isub C dX5_colouredPrice_46 ?_
      subst hQ
      exact G.iret C hr dX5_colouredPrice_47 (by
          refine ⟨by rw [wUpL_ov, wUpL_eq], ?_⟩
          simp only [wUpL_1] at *
          rw [colF, if_neg c_23, if_pos c_37, e_14])
  · refine G.iload_n C 0 dX5_colouredPrice_26 rfl rfl ?_
    refine G.iload_n C 0 dX5_colouredPrice_27 rfl rfl ?_
    refine G.iconst (v := 2) C dX5_colouredPrice_28 (by decide) ?_
    refine G.idiv C dX5_colouredPrice_29 (by decide) ?_
    refine G.iadd C dX5_colouredPrice_30 ?_
    subst hQ
    exact G.iret C hr dX5_colouredPrice_31 (by
        refine ⟨by rw [wUpL_ov, wUpL_eq], ?_⟩
        simp only [wUpL_1] at *
        rw [colF, if_pos c_23, e_14])
set_option maxHeartbeats 4000000 in
set_option maxRecDepth 100000 in
theorem ok_X5_wormPrice {w : wD} (hw : wOK w) (σ : wSt) (i : Nat) (hi : i < wN 14) {n : Nat} (hn : σ.1 1 0 5 = nI n) (h6 : n ≤ 6) : MI w yX5_wormPrice cX5_wormPrice 2 (some .int) 4 89 [.ref (w.2.2.2.1 0 0), .ref (w.2.2.2.1 14 i)] σ (fun r τ => wUpL σ 0 (σ.2 0 + 100 + 10 + 1) = τ ∧ r = jmax 0 (colF (plainF (pop (candU (σ.1 6 0) (σ.1 14 i 0) (σ.1 14 i 1) n)) (σ.1 14 i 2)) (σ.1 14 i 3) - 3 * σ.1 15 i 1)) := by
  refine MI.of hw (by decide +kernel) (Nat.le_of_ble_eq_true rfl) (fun x C hr => ?_)
  suffices key : ∀ Q, Q = QI w x (fun r τ => wUpL σ 0 (σ.2 0 + 100 + 10 + 1) = τ ∧ r = jmax 0 (colF (plainF (pop (candU (σ.1 6 0) (σ.1 14 i 0) (σ.1 14 i 1) n)) (σ.1 14 i 2)) (σ.1 14 i 3) - 3 * σ.1 15 i 1)) → G w x 2 Q 0 [(0, .ref (w.2.2.2.1 0 0)), (1, .ref (w.2.2.2.1 14 i))] [] σ from key _ rfl
  intro Q hQ
  refine G.aload_n C 0 dX5_wormPrice_0 rfl rfl ?_
  refine G.dup C dX5_wormPrice_1 rfl ?_
  refine G.get (g := 0) (i := 0) C 7 none dX5_wormPrice_2 (by decide) rfl rfl uX_X5 (by decide) uf_RX5_48 rfl rfl ?_
  refine G.ldc2 C uk_RX5_266 dX5_wormPrice_5 ?_
  refine G.ladd C dX5_wormPrice_8 ?_
  refine G.putL (g := 0) (i := 0) (j := 0) C 7 none dX5_wormPrice_9 (by decide) (by decide) rfl rfl uX_X5 tyX5 tyX5_ok nmX5 (by decide) uf_RX5_48 rfl rfl (by decide +kernel) (Nat.le_of_ble_eq_true rfl) w_up_0_7 ?_
  refine G.iconst (v := 0) C dX5_wormPrice_12 (by decide) ?_
  refine G.aload_n C 0 dX5_wormPrice_13 rfl rfl ?_
  refine G.aload_n C 1 dX5_wormPrice_14 rfl rfl ?_
  have hM_0 := ok_X5_colouredPrice hw (wUpL σ 0 ((σ.2 0) + 100)) i hi hn h6
  refine G.callV C (g := 0) (i := 0) none hM_0 dX5_wormPrice_15 (by decide) rfl rfl rfl uv_X5_colouredPrice ul_RX5_163 rfl rfl (by decide) (Nat.le_of_ble_eq_true rfl) (fun r_15 τ_15 h_15 => ?_)
  obtain ⟨h_15, e_15⟩ := h_15; subst h_15
  refine G.iconst (v := 3) C dX5_wormPrice_18 (by decide) ?_
  refine G.aload_n C 1 dX5_wormPrice_19 rfl rfl ?_
  refine G.get (g := 14) (i := i) C 6 (some "PlateRoom") dX5_wormPrice_20 hi rfl rfl uX_X2 (by decide) unf_RX5_196 rfl rfl ?_
  refine G.get (g := 15) (i := i) C 1 (some "PlateRoom") dX5_wormPrice_23 hi rfl rfl uX_X1 (by decide) unf_RX5_268 rfl rfl ?_
  refine G.imul C dX5_wormPrice_26 ?_
  refine G.isub C dX5_wormPrice_27 ?_
  refine G.mmax C dX5_wormPrice_28 ul_RX5_148 (by decide) (Nat.le_of_ble_eq_true rfl) ?_
  subst hQ
  exact G.iret C hr dX5_wormPrice_31 (by
      refine ⟨by rw [wUpL_ov, wUpL_eq], ?_⟩
      rw [e_15]
      rfl)
set_option maxHeartbeats 4000000 in
set_option maxRecDepth 100000 in
theorem ok_X5_price {w : wD} (hw : wOK w) (σ : wSt) (a b : Int32) {n : Nat} (hn : σ.1 1 0 5 = nI n) (h6 : n ≤ 6) {l : Nat} (hl : σ.1 0 0 3 = nI l) (hl20 : l ≤ 20) : MI w yX5_price cX5_price 3 (some .int) 5 110 [.ref (w.2.2.2.1 0 0), .int a, .int b] σ (fun r τ => (¬ (inN (σ.1 0 0 3) b ∧ 0 ≤ a ∧ a ≤ 2) ∧ σ = τ ∧ r = -1) ∨ ((inN (σ.1 0 0 3) b ∧ 0 ≤ a ∧ a ≤ 2) ∧ a = 0 ∧ wUpL σ 0 (σ.2 0 + 1) = τ ∧ r = plainF (pop (candU (σ.1 6 0) (σ.1 14 b.toNatClampNeg 0) (σ.1 14 b.toNatClampNeg 1) n)) (σ.1 14 b.toNatClampNeg 2)) ∨ ((inN (σ.1 0 0 3) b ∧ 0 ≤ a ∧ a ≤ 2) ∧ a = 1 ∧ wUpL σ 0 (σ.2 0 + 10 + 1) = τ ∧ r = colF (plainF (pop (candU (σ.1 6 0) (σ.1 14 b.toNatClampNeg 0) (σ.1 14 b.toNatClampNeg 1) n)) (σ.1 14 b.toNatClampNeg 2)) (σ.1 14 b.toNatClampNeg 3)) ∨ ((inN (σ.1 0 0 3) b ∧ 0 ≤ a ∧ a ≤ 2) ∧ a = 2 ∧ wUpL σ 0 (σ.2 0 + 100 + 10 + 1) = τ ∧ r = jmax 0 (colF (plainF (pop (candU (σ.1 6 0) (σ.1 14 b.toNatClampNeg 0) (σ.1 14 b.toNatClampNeg 1) n)) (σ.1 14 b.toNatClampNeg 2)) (σ.1 14 b.toNatClampNeg 3) - 3 * σ.1 15 b.toNatClampNeg 1))) := by
  refine MI.of hw (by decide +kernel) (Nat.le_of_ble_eq_true rfl) (fun x C hr => ?_)
  suffices key : ∀ Q, Q = QI w x (fun r τ => (¬ (inN (σ.1 0 0 3) b ∧ 0 ≤ a ∧ a ≤ 2) ∧ σ = τ ∧ r = -1) ∨ ((inN (σ.1 0 0 3) b ∧ 0 ≤ a ∧ a ≤ 2) ∧ a = 0 ∧ wUpL σ 0 (σ.2 0 + 1) = τ ∧ r = plainF (pop (candU (σ.1 6 0) (σ.1 14 b.toNatClampNeg 0) (σ.1 14 b.toNatClampNeg 1) n)) (σ.1 14 b.toNatClampNeg 2)) ∨ ((inN (σ.1 0 0 3) b ∧ 0 ≤ a ∧ a ≤ 2) ∧ a = 1 ∧ wUpL σ 0 (σ.2 0 + 10 + 1) = τ ∧ r = colF (plainF (pop (candU (σ.1 6 0) (σ.1 14 b.toNatClampNeg 0) (σ.1 14 b.toNatClampNeg 1) n)) (σ.1 14 b.toNatClampNeg 2)) (σ.1 14 b.toNatClampNeg 3)) ∨ ((inN (σ.1 0 0 3) b ∧ 0 ≤ a ∧ a ≤ 2) ∧ a = 2 ∧ wUpL σ 0 (σ.2 0 + 100 + 10 + 1) = τ ∧ r = jmax 0 (colF (plainF (pop (candU (σ.1 6 0) (σ.1 14 b.toNatClampNeg 0) (σ.1 14 b.toNatClampNeg 1) n)) (σ.1 14 b.toNatClampNeg 2)) (σ.1 14 b.toNatClampNeg 3) - 3 * σ.1 15 b.toNatClampNeg 1))) → G w x 3 Q 0 [(0, .ref (w.2.2.2.1 0 0)), (1, .int a), (2, .int b)] [] σ from key _ rfl
  intro Q hQ
  refine G.aload_n C 0 dX5_price_0 rfl rfl ?_
  refine G.iload_n C 2 dX5_price_1 rfl rfl ?_
  have hM_0 := ok_X5_isLeaf hw σ b
  refine G.callV C (g := 0) (i := 0) none hM_0 dX5_price_2 (by decide) rfl rfl rfl uv_X5_isLeaf ul_RX5_111 rfl rfl (by decide) (Nat.le_of_ble_eq_true rfl) (fun r_2 τ_2 h_2 => ?_)
  obtain ⟨h_2, e_2⟩ := h_2; subst h_2
  refine G.if_ne (tgt := 10) C dX5_price_5 (by decide) (fun c_5 => ?_) (fun c_5 => ?_)
  · have b_2 := wb_1 e_2 c_5
    refine G.iload_n C 1 dX5_price_10 rfl rfl ?_
    refine G.table C dX5_price_11 (fun j off hj hb ho => ?_) (by decide) (fun hj => ?_)
    · have hj9 : j < 3 := by have := (Array.getElem?_eq_some_iff.mp ho).1; simpa using this
      rcases (show j = 0 ∨ j = 1 ∨ j = 2 by omega) with rfl | rfl | rfl
      · cases ho
        refine ⟨36, by decide, ?_⟩
        have c_11 : a = 0 := w_ofInt (by simpa using hj)
        refine G.aload_n C 0 dX5_price_36 rfl rfl ?_
        refine G.aload_n C 0 dX5_price_37 rfl rfl ?_
        refine G.get (g := 0) (i := 0) C 2 none dX5_price_38 (by decide) rfl rfl uX_X5 (by decide) uf_RX5_25 rfl rfl ?_
        refine G.iload_n C 2 dX5_price_41 rfl rfl ?_
        have hin_42 : vp_in b 20 := by
          exact vp_ofc b_2 hl hl20 (by decide)
        refine G.aald (g := 3) (i := 0) (n := 20) (f := fun q => w.2.2.2.1 14 q) C 1 dX5_price_42 (by decide) rfl rfl rfl hin_42 ?_
        have hM_1 := ok_X5_plainPrice hw σ b.toNatClampNeg (vp_lt hin_42) hn h6
        refine G.callV C (g := 0) (i := 0) none hM_1 dX5_price_43 (by decide) rfl rfl rfl uv_X5_plainPrice ul_RX5_160 rfl rfl (by decide) (Nat.le_of_ble_eq_true rfl) (fun r_43 τ_43 h_43 => ?_)
        obtain ⟨h_43, e_43⟩ := h_43; subst h_43
        subst hQ
        exact G.iret C hr dX5_price_46 (by
            subst c_11
            exact Or.inr (Or.inl ⟨⟨b_2, by decide, by decide⟩, rfl, rfl, e_43⟩))
      · cases ho
        refine ⟨47, by decide, ?_⟩
        have c_11 : a = 1 := w_ofInt (by simpa using hj)
        refine G.aload_n C 0 dX5_price_47 rfl rfl ?_
        refine G.aload_n C 0 dX5_price_48 rfl rfl ?_
        refine G.get (g := 0) (i := 0) C 2 none dX5_price_49 (by decide) rfl rfl uX_X5 (by decide) uf_RX5_25 rfl rfl ?_
        refine G.iload_n C 2 dX5_price_52 rfl rfl ?_
        have hin_53 : vp_in b 20 := by
          exact vp_ofc b_2 hl hl20 (by decide)
        refine G.aald (g := 3) (i := 0) (n := 20) (f := fun q => w.2.2.2.1 14 q) C 1 dX5_price_53 (by decide) rfl rfl rfl hin_53 ?_
        have hM_2 := ok_X5_colouredPrice hw σ b.toNatClampNeg (vp_lt hin_53) hn h6
        refine G.callV C (g := 0) (i := 0) none hM_2 dX5_price_54 (by decide) rfl rfl rfl uv_X5_colouredPrice ul_RX5_163 rfl rfl (by decide) (Nat.le_of_ble_eq_true rfl) (fun r_54 τ_54 h_54 => ?_)
        obtain ⟨h_54, e_54⟩ := h_54; subst h_54
        subst hQ
        exact G.iret C hr dX5_price_57 (by
            subst c_11
            exact Or.inr (Or.inr (Or.inl ⟨⟨b_2, by decide, by decide⟩, rfl, rfl, e_54⟩)))
      · cases ho
        refine ⟨58, by decide, ?_⟩
        have c_11 : a = 2 := w_ofInt (by simpa using hj)
        refine G.aload_n C 0 dX5_price_58 rfl rfl ?_
        refine G.aload_n C 0 dX5_price_59 rfl rfl ?_
        refine G.get (g := 0) (i := 0) C 2 none dX5_price_60 (by decide) rfl rfl uX_X5 (by decide) uf_RX5_25 rfl rfl ?_
        refine G.iload_n C 2 dX5_price_63 rfl rfl ?_
        have hin_64 : vp_in b 20 := by
          exact vp_ofc b_2 hl hl20 (by decide)
        refine G.aald (g := 3) (i := 0) (n := 20) (f := fun q => w.2.2.2.1 14 q) C 1 dX5_price_64 (by decide) rfl rfl rfl hin_64 ?_
        have hM_3 := ok_X5_wormPrice hw σ b.toNatClampNeg (vp_lt hin_64) hn h6
        refine G.callV C (g := 0) (i := 0) none hM_3 dX5_price_65 (by decide) rfl rfl rfl uv_X5_wormPrice ul_RX5_166 rfl rfl (by decide) (Nat.le_of_ble_eq_true rfl) (fun r_65 τ_65 h_65 => ?_)
        obtain ⟨h_65, e_65⟩ := h_65; subst h_65
        subst hQ
        exact G.iret C hr dX5_price_68 (by
            subst c_11
            exact Or.inr (Or.inr (Or.inr ⟨⟨b_2, by decide, by decide⟩, rfl, rfl, e_65⟩)))
    · refine ⟨69, by decide, ?_⟩
      have c_11 := hj
      refine G.iconst (v := -1) C dX5_price_69 (by decide) ?_
      subst hQ
      exact G.iret C hr dX5_price_70 (by
          refine Or.inl ⟨fun q => ?_, rfl, rfl⟩
          exact w_out (k := 2) c_11 q.2.1 q.2.2)
  · have b_2 := wb_0 e_2 c_5
    refine G.iconst (v := -1) C dX5_price_8 (by decide) ?_
    subst hQ
    exact G.iret C hr dX5_price_9 (by
        refine Or.inl ⟨fun q => ?_, rfl, rfl⟩
        first | exact b_2 q.1)
set_option maxHeartbeats 4000000 in
set_option maxRecDepth 100000 in
theorem ok_X5_map {w : wD} (hw : wOK w) (σ : wSt) (a b : Int32) {c : Nat} (hc : σ.1 2 0 4 = nI c) (hc8 : c ≤ 8) : MI w yX5_map cX5_map 3 (some .int) 1 22 [.ref (w.2.2.2.1 0 0), .int a, .int b] σ (fun r τ => (¬ (okY a ∧ rng12 b) ∧ σ = τ ∧ r = -1) ∨ ((okY a ∧ rng12 b) ∧ ((8 ≤ c ∧ σ = τ ∧ r = -3) ∨ (c < 8 ∧ wUp (wUp (wUp σ 12 0 c a) 13 0 c b) 2 0 4 (nI (c + 1)) = τ ∧ r = nI c)))) := by
  refine MI.of hw (by decide +kernel) (Nat.le_of_ble_eq_true rfl) (fun x C hr => ?_)
  suffices key : ∀ Q, Q = QI w x (fun r τ => (¬ (okY a ∧ rng12 b) ∧ σ = τ ∧ r = -1) ∨ ((okY a ∧ rng12 b) ∧ ((8 ≤ c ∧ σ = τ ∧ r = -3) ∨ (c < 8 ∧ wUp (wUp (wUp σ 12 0 c a) 13 0 c b) 2 0 4 (nI (c + 1)) = τ ∧ r = nI c)))) → G w x 3 Q 0 [(0, .ref (w.2.2.2.1 0 0)), (1, .int a), (2, .int b)] [] σ from key _ rfl
  intro Q hQ
  refine G.iload_n C 1 dX5_map_0 rfl rfl ?_
  have hM_0 := ok_X5_isYear hw σ a
  refine G.callS C none hM_0 dX5_map_1 us_X5_isYear ul_RX5_136 rfl rfl (by decide) (Nat.le_of_ble_eq_true rfl) (fun r_1 τ_1 h_1 => ?_)
  obtain ⟨h_1, e_1⟩ := h_1; subst h_1
  refine G.if_eq (tgt := 14) C dX5_map_4 (by decide) (fun c_4 => ?_) (fun c_4 => ?_)
  · have b_1 := wb_0 e_1 c_4
    refine G.iconst (v := -1) C dX5_map_14 (by decide) ?_
    subst hQ
    exact G.iret C hr dX5_map_15 (by
        refine Or.inl ⟨fun q => ?_, rfl, rfl⟩
        first | exact b_1 q.1 | exact b_8 q.2)
  · have b_1 := wb_1 e_1 c_4
    refine G.iload_n C 2 dX5_map_7 rfl rfl ?_
    have hM_1 := ok_X5_areLines hw σ b
    refine G.callS C none hM_1 dX5_map_8 us_X5_areLines ul_RX5_55 rfl rfl (by decide) (Nat.le_of_ble_eq_true rfl) (fun r_8 τ_8 h_8 => ?_)
    obtain ⟨h_8, e_8⟩ := h_8; subst h_8
    refine G.if_ne (tgt := 16) C dX5_map_11 (by decide) (fun c_11 => ?_) (fun c_11 => ?_)
    · have b_8 := wb_1 e_8 c_11
      refine G.aload_n C 0 dX5_map_16 rfl rfl ?_
      refine G.get (g := 0) (i := 0) C 1 none dX5_map_17 (by decide) rfl rfl uX_X5 (by decide) uf_RX5_19 rfl rfl ?_
      refine G.iload_n C 1 dX5_map_20 rfl rfl ?_
      refine G.iload_n C 2 dX5_map_21 rfl rfl ?_
      have hM_2 := ok_X0_addMap hw σ a b hc hc8
      refine G.callV C (g := 2) (i := 0) (some "PlateRoom") hM_2 dX5_map_22 (by decide) rfl rfl rfl uv_X0_addMap unm_RX5_169 rfl rfl (by decide) (Nat.le_of_ble_eq_true rfl) (fun r_22 τ_22 h_22 => ?_)
      subst hQ
      exact G.iret C hr dX5_map_25 (by
          exact Or.inr ⟨⟨b_1, b_8⟩, h_22⟩)
    · have b_8 := wb_0 e_8 c_11
      refine G.iconst (v := -1) C dX5_map_14 (by decide) ?_
      subst hQ
      exact G.iret C hr dX5_map_15 (by
          refine Or.inl ⟨fun q => ?_, rfl, rfl⟩
          first | exact b_1 q.1 | exact b_8 q.2)
set_option maxHeartbeats 4000000 in
set_option maxRecDepth 100000 in
theorem ok_X5_cost {w : wD} (hw : wOK w) (σ : wSt) (a b : Int32) {c : Nat} (hc : σ.1 2 0 4 = nI c) (hc8 : c ≤ 8) (hE : ∀ k, k < c → rng12 (σ.1 13 0 k)) : MI w yX5_cost cX5_cost 3 (some .int) 2 45 [.ref (w.2.2.2.1 0 0), .int a, .int b] σ (fun r τ => σ = τ ∧ ((¬ mayU (σ.1 12 0) (σ.1 2 0 4) a b ∧ r = -1) ∨ (mayU (σ.1 12 0) (σ.1 2 0 4) a b ∧ r = costU (σ.1 13 0) (σ.1 2 0 0) (σ.1 2 0 1) (σ.1 2 0 4) a b))) := by
  refine MI.of hw (by decide +kernel) (Nat.le_of_ble_eq_true rfl) (fun x C hr => ?_)
  suffices key : ∀ Q, Q = QI w x (fun r τ => σ = τ ∧ ((¬ mayU (σ.1 12 0) (σ.1 2 0 4) a b ∧ r = -1) ∨ (mayU (σ.1 12 0) (σ.1 2 0 4) a b ∧ r = costU (σ.1 13 0) (σ.1 2 0 0) (σ.1 2 0 1) (σ.1 2 0 4) a b))) → G w x 3 Q 0 [(0, .ref (w.2.2.2.1 0 0)), (1, .int a), (2, .int b)] [] σ from key _ rfl
  intro Q hQ
  refine G.aload_n C 0 dX5_cost_0 rfl rfl ?_
  refine G.get (g := 0) (i := 0) C 1 none dX5_cost_1 (by decide) rfl rfl uX_X5 (by decide) uf_RX5_19 rfl rfl ?_
  refine G.iload_n C 1 dX5_cost_4 rfl rfl ?_
  refine G.iload_n C 2 dX5_cost_5 rfl rfl ?_
  have hM_0 := ok_X0_mayComeFrom hw σ a b hc hc8
  refine G.callV C (g := 2) (i := 0) (some "PlateRoom") hM_0 dX5_cost_6 (by decide) rfl rfl rfl uv_X0_mayComeFrom unm_RX5_172 rfl rfl (by decide) (Nat.le_of_ble_eq_true rfl) (fun r_6 τ_6 h_6 => ?_)
  obtain ⟨h_6, e_6⟩ := h_6; subst h_6
  refine G.if_ne (tgt := 14) C dX5_cost_9 (by decide) (fun c_9 => ?_) (fun c_9 => ?_)
  · have b_6 := wb_1 e_6 c_9
    refine G.aload_n C 0 dX5_cost_14 rfl rfl ?_
    refine G.get (g := 0) (i := 0) C 1 none dX5_cost_15 (by decide) rfl rfl uX_X5 (by decide) uf_RX5_19 rfl rfl ?_
    refine G.iload_n C 1 dX5_cost_18 rfl rfl ?_
    refine G.iload_n C 2 dX5_cost_19 rfl rfl ?_
    have hM_1 := ok_X0_costOf hw σ a b hc hc8 hE b_6.1
    refine G.callV C (g := 2) (i := 0) (some "PlateRoom") hM_1 dX5_cost_20 (by decide) rfl rfl rfl uv_X0_costOf unm_RX5_175 rfl rfl (by decide) (Nat.le_of_ble_eq_true rfl) (fun r_20 τ_20 h_20 => ?_)
    obtain ⟨h_20, e_20⟩ := h_20; subst h_20
    subst hQ
    exact G.iret C hr dX5_cost_23 (by
        exact ⟨rfl, Or.inr ⟨b_6, e_20⟩⟩)
  · have b_6 := wb_0 e_6 c_9
    refine G.iconst (v := -1) C dX5_cost_12 (by decide) ?_
    subst hQ
    exact G.iret C hr dX5_cost_13 (by
        refine ⟨rfl, Or.inl ⟨fun q => ?_, rfl⟩⟩
        first | exact b_6 q)
set_option maxHeartbeats 4000000 in
set_option maxRecDepth 100000 in
theorem ok_X5_from {w : wD} (hw : wOK w) (σ : wSt) (a : Int32) {c : Nat} (hc : σ.1 2 0 4 = nI c) (hc8 : c ≤ 8) (hE : ∀ k, k < c → rng12 (σ.1 13 0 k)) : MI w yX5_from cX5_from 2 (some .int) 3 69 [.ref (w.2.2.2.1 0 0), .int a] σ (fun r τ => σ = τ ∧ ((¬ inN (σ.1 2 0 4) a ∧ r = -2) ∨ (inN (σ.1 2 0 4) a ∧ r = fromU (σ.1 12 0) (costU (σ.1 13 0) (σ.1 2 0 0) (σ.1 2 0 1) (σ.1 2 0 4) a) a.toNatClampNeg c))) := by
  refine MI.of hw (by decide +kernel) (Nat.le_of_ble_eq_true rfl) (fun x C hr => ?_)
  suffices key : ∀ Q, Q = QI w x (fun r τ => σ = τ ∧ ((¬ inN (σ.1 2 0 4) a ∧ r = -2) ∨ (inN (σ.1 2 0 4) a ∧ r = fromU (σ.1 12 0) (costU (σ.1 13 0) (σ.1 2 0 0) (σ.1 2 0 1) (σ.1 2 0 4) a) a.toNatClampNeg c))) → G w x 2 Q 0 [(0, .ref (w.2.2.2.1 0 0)), (1, .int a)] [] σ from key _ rfl
  intro Q hQ
  refine G.aload_n C 0 dX5_from_0 rfl rfl ?_
  refine G.get (g := 0) (i := 0) C 1 none dX5_from_1 (by decide) rfl rfl uX_X5 (by decide) uf_RX5_19 rfl rfl ?_
  refine G.iload_n C 1 dX5_from_4 rfl rfl ?_
  have hM_0 := ok_X0_hasMap hw σ a
  refine G.callV C (g := 2) (i := 0) (some "PlateRoom") hM_0 dX5_from_5 (by decide) rfl rfl rfl uv_X0_hasMap unm_RX5_178 rfl rfl (by decide) (Nat.le_of_ble_eq_true rfl) (fun r_5 τ_5 h_5 => ?_)
  obtain ⟨h_5, e_5⟩ := h_5; subst h_5
  refine G.if_ne (tgt := 14) C dX5_from_8 (by decide) (fun c_8 => ?_) (fun c_8 => ?_)
  · have b_5 := wb_1 e_5 c_8
    refine G.aload_n C 0 dX5_from_14 rfl rfl ?_
    refine G.get (g := 0) (i := 0) C 1 none dX5_from_15 (by decide) rfl rfl uX_X5 (by decide) uf_RX5_19 rfl rfl ?_
    refine G.iload_n C 1 dX5_from_18 rfl rfl ?_
    have hM_1 := ok_X0_cheapest hw σ a hc hc8 hE b_5
    refine G.callV C (g := 2) (i := 0) (some "PlateRoom") hM_1 dX5_from_19 (by decide) rfl rfl rfl uv_X0_cheapest unm_RX5_181 rfl rfl (by decide) (Nat.le_of_ble_eq_true rfl) (fun r_19 τ_19 h_19 => ?_)
    obtain ⟨h_19, e_19⟩ := h_19; subst h_19
    subst hQ
    exact G.iret C hr dX5_from_22 (by
        exact ⟨rfl, Or.inr ⟨b_5, e_19⟩⟩)
  · have b_5 := wb_0 e_5 c_8
    refine G.bipush (v := -2) C dX5_from_11 (by decide) ?_
    subst hQ
    exact G.iret C hr dX5_from_13 (by
        refine ⟨rfl, Or.inl ⟨fun q => ?_, rfl⟩⟩
        first | exact b_5 q)
set_option maxHeartbeats 4000000 in
set_option maxRecDepth 100000 in
theorem ok_X5_rivals {w : wD} (hw : wOK w) (σ : wSt) (a : Int32) {c : Nat} (hc : σ.1 2 0 4 = nI c) (hc8 : c ≤ 8) (hE : ∀ k, k < c → rng12 (σ.1 13 0 k)) : MI w yX5_rivals cX5_rivals 2 (some .int) 4 94 [.ref (w.2.2.2.1 0 0), .int a] σ (fun r τ => σ = τ ∧ ((¬ inN (σ.1 2 0 4) a ∧ r = -1) ∨ (inN (σ.1 2 0 4) a ∧ r = rivU (σ.1 12 0) (costU (σ.1 13 0) (σ.1 2 0 0) (σ.1 2 0 1) (σ.1 2 0 4) a) a.toNatClampNeg (fromU (σ.1 12 0) (costU (σ.1 13 0) (σ.1 2 0 0) (σ.1 2 0 1) (σ.1 2 0 4) a) a.toNatClampNeg c) (costU (σ.1 13 0) (σ.1 2 0 0) (σ.1 2 0 1) (σ.1 2 0 4) a (fromU (σ.1 12 0) (costU (σ.1 13 0) (σ.1 2 0 0) (σ.1 2 0 1) (σ.1 2 0 4) a) a.toNatClampNeg c)) c))) := by
  refine MI.of hw (by decide +kernel) (Nat.le_of_ble_eq_true rfl) (fun x C hr => ?_)
  suffices key : ∀ Q, Q = QI w x (fun r τ => σ = τ ∧ ((¬ inN (σ.1 2 0 4) a ∧ r = -1) ∨ (inN (σ.1 2 0 4) a ∧ r = rivU (σ.1 12 0) (costU (σ.1 13 0) (σ.1 2 0 0) (σ.1 2 0 1) (σ.1 2 0 4) a) a.toNatClampNeg (fromU (σ.1 12 0) (costU (σ.1 13 0) (σ.1 2 0 0) (σ.1 2 0 1) (σ.1 2 0 4) a) a.toNatClampNeg c) (costU (σ.1 13 0) (σ.1 2 0 0) (σ.1 2 0 1) (σ.1 2 0 4) a (fromU (σ.1 12 0) (costU (σ.1 13 0) (σ.1 2 0 0) (σ.1 2 0 1) (σ.1 2 0 4) a) a.toNatClampNeg c)) c))) → G w x 2 Q 0 [(0, .ref (w.2.2.2.1 0 0)), (1, .int a)] [] σ from key _ rfl
  intro Q hQ
  refine G.aload_n C 0 dX5_rivals_0 rfl rfl ?_
  refine G.get (g := 0) (i := 0) C 1 none dX5_rivals_1 (by decide) rfl rfl uX_X5 (by decide) uf_RX5_19 rfl rfl ?_
  refine G.iload_n C 1 dX5_rivals_4 rfl rfl ?_
  have hM_0 := ok_X0_hasMap hw σ a
  refine G.callV C (g := 2) (i := 0) (some "PlateRoom") hM_0 dX5_rivals_5 (by decide) rfl rfl rfl uv_X0_hasMap unm_RX5_178 rfl rfl (by decide) (Nat.le_of_ble_eq_true rfl) (fun r_5 τ_5 h_5 => ?_)
  obtain ⟨h_5, e_5⟩ := h_5; subst h_5
  refine G.if_ne (tgt := 13) C dX5_rivals_8 (by decide) (fun c_8 => ?_) (fun c_8 => ?_)
  · have b_5 := wb_1 e_5 c_8
    refine G.aload_n C 0 dX5_rivals_13 rfl rfl ?_
    refine G.get (g := 0) (i := 0) C 1 none dX5_rivals_14 (by decide) rfl rfl uX_X5 (by decide) uf_RX5_19 rfl rfl ?_
    refine G.iload_n C 1 dX5_rivals_17 rfl rfl ?_
    have hM_1 := ok_X0_rivalCount hw σ a hc hc8 hE b_5
    refine G.callV C (g := 2) (i := 0) (some "PlateRoom") hM_1 dX5_rivals_18 (by decide) rfl rfl rfl uv_X0_rivalCount unm_RX5_184 rfl rfl (by decide) (Nat.le_of_ble_eq_true rfl) (fun r_18 τ_18 h_18 => ?_)
    obtain ⟨h_18, e_18⟩ := h_18; subst h_18
    subst hQ
    exact G.iret C hr dX5_rivals_21 (by
        exact ⟨rfl, Or.inr ⟨b_5, e_18⟩⟩)
  · have b_5 := wb_0 e_5 c_8
    refine G.iconst (v := -1) C dX5_rivals_11 (by decide) ?_
    subst hQ
    exact G.iret C hr dX5_rivals_12 (by
        refine ⟨rfl, Or.inl ⟨fun q => ?_, rfl⟩⟩
        first | exact b_5 q)
set_option maxHeartbeats 4000000 in
set_option maxRecDepth 100000 in
theorem ok_X5_life {w : wD} (hw : wOK w) (σ : wSt) (a b : Int32) {c : Nat} (hc : σ.1 2 0 4 = nI c) (hc8 : c ≤ 8) (hE : ∀ k, k < c → rng12 (σ.1 13 0 k)) : MI w yX5_life cX5_life 3 (some .int) 5 118 [.ref (w.2.2.2.1 0 0), .int a, .int b] σ (fun r τ => σ = τ ∧ ((¬ ((0 ≤ b ∧ b < 12) ∧ inN (σ.1 2 0 4) a ∧ (σ.1 13 0 a.toNatClampNeg >>> (b &&& 31)) &&& 1 = 1) ∧ r = -1) ∨ (((0 ≤ b ∧ b < 12) ∧ inN (σ.1 2 0 4) a ∧ (σ.1 13 0 a.toNatClampNeg >>> (b &&& 31)) &&& 1 = 1) ∧ r = lifeU (fun q => chU (σ.1 13 0) (fun q => fromU (σ.1 12 0) (costU (σ.1 13 0) (σ.1 2 0 0) (σ.1 2 0 1) (σ.1 2 0 4) q) q.toNatClampNeg c) (σ.1 2 0 4) a b 8 q) c))) := by
  refine MI.of hw (by decide +kernel) (Nat.le_of_ble_eq_true rfl) (fun x C hr => ?_)
  suffices key : ∀ Q, Q = QI w x (fun r τ => σ = τ ∧ ((¬ ((0 ≤ b ∧ b < 12) ∧ inN (σ.1 2 0 4) a ∧ (σ.1 13 0 a.toNatClampNeg >>> (b &&& 31)) &&& 1 = 1) ∧ r = -1) ∨ (((0 ≤ b ∧ b < 12) ∧ inN (σ.1 2 0 4) a ∧ (σ.1 13 0 a.toNatClampNeg >>> (b &&& 31)) &&& 1 = 1) ∧ r = lifeU (fun q => chU (σ.1 13 0) (fun q => fromU (σ.1 12 0) (costU (σ.1 13 0) (σ.1 2 0 0) (σ.1 2 0 1) (σ.1 2 0 4) q) q.toNatClampNeg c) (σ.1 2 0 4) a b 8 q) c))) → G w x 3 Q 0 [(0, .ref (w.2.2.2.1 0 0)), (1, .int a), (2, .int b)] [] σ from key _ rfl
  intro Q hQ
  refine G.iload_n C 2 dX5_life_0 rfl rfl ?_
  have hM_0 := ok_X5_isLine hw σ b
  refine G.callS C none hM_0 dX5_life_1 us_X5_isLine ul_RX5_114 rfl rfl (by decide) (Nat.le_of_ble_eq_true rfl) (fun r_1 τ_1 h_1 => ?_)
  obtain ⟨h_1, e_1⟩ := h_1; subst h_1
  refine G.if_eq (tgt := 34) C dX5_life_4 (by decide) (fun c_4 => ?_) (fun c_4 => ?_)
  · have b_1 := wb_0 e_1 c_4
    refine G.iconst (v := -1) C dX5_life_34 (by decide) ?_
    subst hQ
    exact G.iret C hr dX5_life_35 (by
        refine ⟨rfl, Or.inl ⟨fun q => ?_, rfl⟩⟩
        first | exact b_1 q.1 | exact b_12 q.2.1 | exact b_28 q.2.2)
  · have b_1 := wb_1 e_1 c_4
    refine G.aload_n C 0 dX5_life_7 rfl rfl ?_
    refine G.get (g := 0) (i := 0) C 1 none dX5_life_8 (by decide) rfl rfl uX_X5 (by decide) uf_RX5_19 rfl rfl ?_
    refine G.iload_n C 1 dX5_life_11 rfl rfl ?_
    have hM_1 := ok_X0_hasMap hw σ a
    refine G.callV C (g := 2) (i := 0) (some "PlateRoom") hM_1 dX5_life_12 (by decide) rfl rfl rfl uv_X0_hasMap unm_RX5_178 rfl rfl (by decide) (Nat.le_of_ble_eq_true rfl) (fun r_12 τ_12 h_12 => ?_)
    obtain ⟨h_12, e_12⟩ := h_12; subst h_12
    refine G.if_eq (tgt := 34) C dX5_life_15 (by decide) (fun c_15 => ?_) (fun c_15 => ?_)
    · have b_12 := wb_0 e_12 c_15
      refine G.iconst (v := -1) C dX5_life_34 (by decide) ?_
      subst hQ
      exact G.iret C hr dX5_life_35 (by
          refine ⟨rfl, Or.inl ⟨fun q => ?_, rfl⟩⟩
          first | exact b_1 q.1 | exact b_12 q.2.1 | exact b_28 q.2.2)
    · have b_12 := wb_1 e_12 c_15
      refine G.aload_n C 0 dX5_life_18 rfl rfl ?_
      refine G.get (g := 0) (i := 0) C 1 none dX5_life_19 (by decide) rfl rfl uX_X5 (by decide) uf_RX5_19 rfl rfl ?_
      refine G.get (g := 2) (i := 0) C 3 (some "PlateRoom") dX5_life_22 (by decide) rfl rfl uX_X0 (by decide) unf_RX5_187 rfl rfl ?_
      refine G.iload_n C 1 dX5_life_25 rfl rfl ?_
      have hin_26 : vp_in a 8 := by
        exact vp_ofc b_12 hc hc8 (by decide)
      refine G.iald (g := 13) (i := 0) (n := 8) C dX5_life_26 (by decide) rfl hin_26 ?_
      refine G.iload_n C 2 dX5_life_27 rfl rfl ?_
      have hM_2 := ok_X5_has hw σ (σ.1 13 0 a.toNatClampNeg) b
      refine G.callS C none hM_2 dX5_life_28 us_X5_has ul_RX5_157 rfl rfl (by decide) (Nat.le_of_ble_eq_true rfl) (fun r_28 τ_28 h_28 => ?_)
      obtain ⟨h_28, e_28⟩ := h_28; subst h_28
      refine G.if_ne (tgt := 36) C dX5_life_31 (by decide) (fun c_31 => ?_) (fun c_31 => ?_)
      · have b_28 := wb_1 e_28 c_31
        refine G.aload_n C 0 dX5_life_36 rfl rfl ?_
        refine G.get (g := 0) (i := 0) C 1 none dX5_life_37 (by decide) rfl rfl uX_X5 (by decide) uf_RX5_19 rfl rfl ?_
        refine G.iload_n C 1 dX5_life_40 rfl rfl ?_
        refine G.iload_n C 2 dX5_life_41 rfl rfl ?_
        have hM_3 := ok_X0_lifeOf hw σ a b hc hc8 hE
        refine G.callV C (g := 2) (i := 0) (some "PlateRoom") hM_3 dX5_life_42 (by decide) rfl rfl rfl uv_X0_lifeOf unm_RX5_190 rfl rfl (by decide) (Nat.le_of_ble_eq_true rfl) (fun r_42 τ_42 h_42 => ?_)
        obtain ⟨h_42, e_42⟩ := h_42; subst h_42
        subst hQ
        exact G.iret C hr dX5_life_45 (by
            exact ⟨rfl, Or.inr ⟨⟨b_1, b_12, b_28⟩, e_42⟩⟩)
      · have b_28 := wb_0 e_28 c_31
        refine G.iconst (v := -1) C dX5_life_34 (by decide) ?_
        subst hQ
        exact G.iret C hr dX5_life_35 (by
            refine ⟨rfl, Or.inl ⟨fun q => ?_, rfl⟩⟩
            first | exact b_1 q.1 | exact b_12 q.2.1 | exact b_28 q.2.2)
set_option maxHeartbeats 4000000 in
set_option maxRecDepth 100000 in
theorem ok_X5_hole {w : wD} (hw : wOK w) (σ : wSt) (a b c : Int32) {l : Nat} (hl : σ.1 0 0 3 = nI l) (hl20 : l ≤ 20) {nh nb : Nat → Nat} (hH : ∀ i, i < 20 → σ.1 15 i 1 = nI (nh i) ∧ nh i ≤ 6) (hB : ∀ j, j < 4 → σ.1 18 j 1 = nI (nb j) ∧ nb j ≤ 6) : MI w yX5_hole cX5_hole 4 (some .int) 3 65 [.ref (w.2.2.2.1 0 0), .int a, .int b, .int c] σ (fun r τ => (¬ (((0 ≤ c ∧ c < 100) ∧ a = 0 ∧ inN (σ.1 0 0 3) b) ∨ ((0 ≤ c ∧ c < 100) ∧ a = 1 ∧ 0 ≤ b ∧ b < 4)) ∧ σ = τ ∧ r = -1) ∨ (((0 ≤ c ∧ c < 100) ∧ a = 0 ∧ inN (σ.1 0 0 3) b) ∧ ((nearB (σ.1 16 b.toNatClampNeg) c 0 (nh b.toNatClampNeg) = true ∧ σ = τ ∧ r = nI (nh b.toNatClampNeg)) ∨ (nearB (σ.1 16 b.toNatClampNeg) c 0 (nh b.toNatClampNeg) = false ∧ 6 ≤ (nh b.toNatClampNeg) ∧ σ = τ ∧ r = -3) ∨ (nearB (σ.1 16 b.toNatClampNeg) c 0 (nh b.toNatClampNeg) = false ∧ (nh b.toNatClampNeg) < 6 ∧ wUp (wUp σ 16 b.toNatClampNeg (nh b.toNatClampNeg) c) 15 b.toNatClampNeg 1 (nI ((nh b.toNatClampNeg) + 1)) = τ ∧ r = nI ((nh b.toNatClampNeg) + 1)))) ∨ (((0 ≤ c ∧ c < 100) ∧ a = 1 ∧ 0 ≤ b ∧ b < 4) ∧ ((nearB (σ.1 19 b.toNatClampNeg) c 0 (nb b.toNatClampNeg) = true ∧ σ = τ ∧ r = nI (nb b.toNatClampNeg)) ∨ (nearB (σ.1 19 b.toNatClampNeg) c 0 (nb b.toNatClampNeg) = false ∧ 6 ≤ (nb b.toNatClampNeg) ∧ σ = τ ∧ r = -3) ∨ (nearB (σ.1 19 b.toNatClampNeg) c 0 (nb b.toNatClampNeg) = false ∧ (nb b.toNatClampNeg) < 6 ∧ wUp (wUp σ 19 b.toNatClampNeg (nb b.toNatClampNeg) c) 18 b.toNatClampNeg 1 (nI ((nb b.toNatClampNeg) + 1)) = τ ∧ r = nI ((nb b.toNatClampNeg) + 1))))) := by
  refine MI.of hw (by decide +kernel) (Nat.le_of_ble_eq_true rfl) (fun x C hr => ?_)
  suffices key : ∀ Q, Q = QI w x (fun r τ => (¬ (((0 ≤ c ∧ c < 100) ∧ a = 0 ∧ inN (σ.1 0 0 3) b) ∨ ((0 ≤ c ∧ c < 100) ∧ a = 1 ∧ 0 ≤ b ∧ b < 4)) ∧ σ = τ ∧ r = -1) ∨ (((0 ≤ c ∧ c < 100) ∧ a = 0 ∧ inN (σ.1 0 0 3) b) ∧ ((nearB (σ.1 16 b.toNatClampNeg) c 0 (nh b.toNatClampNeg) = true ∧ σ = τ ∧ r = nI (nh b.toNatClampNeg)) ∨ (nearB (σ.1 16 b.toNatClampNeg) c 0 (nh b.toNatClampNeg) = false ∧ 6 ≤ (nh b.toNatClampNeg) ∧ σ = τ ∧ r = -3) ∨ (nearB (σ.1 16 b.toNatClampNeg) c 0 (nh b.toNatClampNeg) = false ∧ (nh b.toNatClampNeg) < 6 ∧ wUp (wUp σ 16 b.toNatClampNeg (nh b.toNatClampNeg) c) 15 b.toNatClampNeg 1 (nI ((nh b.toNatClampNeg) + 1)) = τ ∧ r = nI ((nh b.toNatClampNeg) + 1)))) ∨ (((0 ≤ c ∧ c < 100) ∧ a = 1 ∧ 0 ≤ b ∧ b < 4) ∧ ((nearB (σ.1 19 b.toNatClampNeg) c 0 (nb b.toNatClampNeg) = true ∧ σ = τ ∧ r = nI (nb b.toNatClampNeg)) ∨ (nearB (σ.1 19 b.toNatClampNeg) c 0 (nb b.toNatClampNeg) = false ∧ 6 ≤ (nb b.toNatClampNeg) ∧ σ = τ ∧ r = -3) ∨ (nearB (σ.1 19 b.toNatClampNeg) c 0 (nb b.toNatClampNeg) = false ∧ (nb b.toNatClampNeg) < 6 ∧ wUp (wUp σ 19 b.toNatClampNeg (nb b.toNatClampNeg) c) 18 b.toNatClampNeg 1 (nI ((nb b.toNatClampNeg) + 1)) = τ ∧ r = nI ((nb b.toNatClampNeg) + 1))))) → G w x 4 Q 0 [(0, .ref (w.2.2.2.1 0 0)), (1, .int a), (2, .int b), (3, .int c)] [] σ from key _ rfl
  intro Q hQ
  refine G.iload_n C 3 dX5_hole_0 rfl rfl ?_
  have hM_0 := ok_X1_isPlace hw σ c
  refine G.callS C (some "PlateRoom") hM_0 dX5_hole_1 us_X1_isPlace unm_RX5_193 rfl rfl (by decide) (Nat.le_of_ble_eq_true rfl) (fun r_1 τ_1 h_1 => ?_)
  obtain ⟨h_1, e_1⟩ := h_1; subst h_1
  refine G.if_ne (tgt := 9) C dX5_hole_4 (by decide) (fun c_4 => ?_) (fun c_4 => ?_)
  · have b_1 := wb_1 e_1 c_4
    refine G.iload_n C 1 dX5_hole_9 rfl rfl ?_
    refine G.if_ne (tgt := 35) C dX5_hole_10 (by decide) (fun c_10 => ?_) (fun c_10 => ?_)
    · refine G.iload_n C 1 dX5_hole_35 rfl rfl ?_
      refine G.iconst (v := 1) C dX5_hole_36 (by decide) ?_
      refine G.icmp_ne (tgt := 58) C dX5_hole_37 (by decide) (fun c_37 => ?_) (fun c_37 => ?_)
      · refine G.iconst (v := -1) C dX5_hole_58 (by decide) ?_
        subst hQ
        exact G.iret C hr dX5_hole_59 (by
            refine Or.inl ⟨fun q => ?_, rfl, rfl⟩
            first | exact q.elim (fun q => c_10 q.2.1) (fun q => c_37 q.2.1) | exact q.elim (fun q => c_10 q.2.1) (fun q => b_41 q.2.2) | exact q.elim (fun q => b_15 q.2.2) (fun q => c_37 q.2.1) | exact q.elim (fun q => b_15 q.2.2) (fun q => b_41 q.2.2))
      · refine G.iload_n C 2 dX5_hole_40 rfl rfl ?_
        have hM_1 := ok_X5_isBook hw σ b
        refine G.callS C none hM_1 dX5_hole_41 us_X5_isBook ul_RX5_203 rfl rfl (by decide) (Nat.le_of_ble_eq_true rfl) (fun r_41 τ_41 h_41 => ?_)
        obtain ⟨h_41, e_41⟩ := h_41; subst h_41
        refine G.if_eq (tgt := 58) C dX5_hole_44 (by decide) (fun c_44 => ?_) (fun c_44 => ?_)
        · have b_41 := wb_0 e_41 c_44
          refine G.iconst (v := -1) C dX5_hole_58 (by decide) ?_
          subst hQ
          exact G.iret C hr dX5_hole_59 (by
              refine Or.inl ⟨fun q => ?_, rfl, rfl⟩
              first | exact q.elim (fun q => c_10 q.2.1) (fun q => c_37 q.2.1) | exact q.elim (fun q => c_10 q.2.1) (fun q => b_41 q.2.2) | exact q.elim (fun q => b_15 q.2.2) (fun q => c_37 q.2.1) | exact q.elim (fun q => b_15 q.2.2) (fun q => b_41 q.2.2))
        · have b_41 := wb_1 e_41 c_44
          refine G.aload_n C 0 dX5_hole_47 rfl rfl ?_
          refine G.get (g := 0) (i := 0) C 6 none dX5_hole_48 (by decide) rfl rfl uX_X5 (by decide) uf_RX5_44 rfl rfl ?_
          refine G.iload_n C 2 dX5_hole_51 rfl rfl ?_
          have hin_52 : vp_in b 4 := by
            exact vp_ofc (c := 4) (l := 4) b_41 rfl (by decide) (by decide)
          refine G.aald (g := 5) (i := 0) (n := 4) (f := fun q => w.2.2.2.1 18 q) C 3 dX5_hole_52 (by decide) rfl rfl rfl hin_52 ?_
          refine G.iload_n C 3 dX5_hole_53 rfl rfl ?_
          have hM_2 := ok_X1_bore_18 hw σ b.toNatClampNeg c (vp_lt hin_52) ((hB _ (vp_ofl b_41 (by decide))).1) ((hB _ (vp_ofl b_41 (by decide))).2)
          refine G.callV C (g := 18) (i := b.toNatClampNeg) (some "PlateRoom") hM_2 dX5_hole_54 (vp_lt hin_52) rfl rfl rfl uv_X1_bore unm_RX5_200 rfl rfl (by decide) (Nat.le_of_ble_eq_true rfl) (fun r_54 τ_54 h_54 => ?_)
          subst hQ
          exact G.iret C hr dX5_hole_57 (by
              exact Or.inr (Or.inr ⟨⟨b_1, c_37, b_41⟩, h_54⟩))
    · refine G.aload_n C 0 dX5_hole_13 rfl rfl ?_
      refine G.iload_n C 2 dX5_hole_14 rfl rfl ?_
      have hM_3 := ok_X5_isLeaf hw σ b
      refine G.callV C (g := 0) (i := 0) none hM_3 dX5_hole_15 (by decide) rfl rfl rfl uv_X5_isLeaf ul_RX5_111 rfl rfl (by decide) (Nat.le_of_ble_eq_true rfl) (fun r_15 τ_15 h_15 => ?_)
      obtain ⟨h_15, e_15⟩ := h_15; subst h_15
      refine G.if_eq (tgt := 35) C dX5_hole_18 (by decide) (fun c_18 => ?_) (fun c_18 => ?_)
      · have b_15 := wb_0 e_15 c_18
        refine G.iload_n C 1 dX5_hole_35 rfl rfl ?_
        refine G.iconst (v := 1) C dX5_hole_36 (by decide) ?_
        refine G.icmp_ne (tgt := 58) C dX5_hole_37 (by decide) (fun c_37 => ?_) (fun c_37 => ?_)
        · refine G.iconst (v := -1) C dX5_hole_58 (by decide) ?_
          subst hQ
          exact G.iret C hr dX5_hole_59 (by
              refine Or.inl ⟨fun q => ?_, rfl, rfl⟩
              first | exact q.elim (fun q => c_10 q.2.1) (fun q => c_37 q.2.1) | exact q.elim (fun q => c_10 q.2.1) (fun q => b_41 q.2.2) | exact q.elim (fun q => b_15 q.2.2) (fun q => c_37 q.2.1) | exact q.elim (fun q => b_15 q.2.2) (fun q => b_41 q.2.2))
        · refine G.iload_n C 2 dX5_hole_40 rfl rfl ?_
          have hM_4 := ok_X5_isBook hw σ b
          refine G.callS C none hM_4 dX5_hole_41 us_X5_isBook ul_RX5_203 rfl rfl (by decide) (Nat.le_of_ble_eq_true rfl) (fun r_41 τ_41 h_41 => ?_)
          obtain ⟨h_41, e_41⟩ := h_41; subst h_41
          refine G.if_eq (tgt := 58) C dX5_hole_44 (by decide) (fun c_44 => ?_) (fun c_44 => ?_)
          · have b_41 := wb_0 e_41 c_44
            refine G.iconst (v := -1) C dX5_hole_58 (by decide) ?_
            subst hQ
            exact G.iret C hr dX5_hole_59 (by
                refine Or.inl ⟨fun q => ?_, rfl, rfl⟩
                first | exact q.elim (fun q => c_10 q.2.1) (fun q => c_37 q.2.1) | exact q.elim (fun q => c_10 q.2.1) (fun q => b_41 q.2.2) | exact q.elim (fun q => b_15 q.2.2) (fun q => c_37 q.2.1) | exact q.elim (fun q => b_15 q.2.2) (fun q => b_41 q.2.2))
          · have b_41 := wb_1 e_41 c_44
            refine G.aload_n C 0 dX5_hole_47 rfl rfl ?_
            refine G.get (g := 0) (i := 0) C 6 none dX5_hole_48 (by decide) rfl rfl uX_X5 (by decide) uf_RX5_44 rfl rfl ?_
            refine G.iload_n C 2 dX5_hole_51 rfl rfl ?_
            have hin_52 : vp_in b 4 := by
              exact vp_ofc (c := 4) (l := 4) b_41 rfl (by decide) (by decide)
            refine G.aald (g := 5) (i := 0) (n := 4) (f := fun q => w.2.2.2.1 18 q) C 3 dX5_hole_52 (by decide) rfl rfl rfl hin_52 ?_
            refine G.iload_n C 3 dX5_hole_53 rfl rfl ?_
            have hM_5 := ok_X1_bore_18 hw σ b.toNatClampNeg c (vp_lt hin_52) ((hB _ (vp_ofl b_41 (by decide))).1) ((hB _ (vp_ofl b_41 (by decide))).2)
            refine G.callV C (g := 18) (i := b.toNatClampNeg) (some "PlateRoom") hM_5 dX5_hole_54 (vp_lt hin_52) rfl rfl rfl uv_X1_bore unm_RX5_200 rfl rfl (by decide) (Nat.le_of_ble_eq_true rfl) (fun r_54 τ_54 h_54 => ?_)
            subst hQ
            exact G.iret C hr dX5_hole_57 (by
                exact Or.inr (Or.inr ⟨⟨b_1, c_37, b_41⟩, h_54⟩))
      · have b_15 := wb_1 e_15 c_18
        refine G.aload_n C 0 dX5_hole_21 rfl rfl ?_
        refine G.get (g := 0) (i := 0) C 2 none dX5_hole_22 (by decide) rfl rfl uX_X5 (by decide) uf_RX5_25 rfl rfl ?_
        refine G.iload_n C 2 dX5_hole_25 rfl rfl ?_
        have hin_26 : vp_in b 20 := by
          exact vp_ofc b_15 hl hl20 (by decide)
        refine G.aald (g := 3) (i := 0) (n := 20) (f := fun q => w.2.2.2.1 14 q) C 1 dX5_hole_26 (by decide) rfl rfl rfl hin_26 ?_
        refine G.get (g := 14) (i := b.toNatClampNeg) C 6 (some "PlateRoom") dX5_hole_27 (vp_lt hin_26) rfl rfl uX_X2 (by decide) unf_RX5_196 rfl rfl ?_
        refine G.iload_n C 3 dX5_hole_30 rfl rfl ?_
        have hM_6 := ok_X1_bore_15 hw σ b.toNatClampNeg c (vp_lt hin_26) ((hH _ (vp_lt hin_26)).1) ((hH _ (vp_lt hin_26)).2)
        refine G.callV C (g := 15) (i := b.toNatClampNeg) (some "PlateRoom") hM_6 dX5_hole_31 (vp_lt hin_26) rfl rfl rfl uv_X1_bore unm_RX5_200 rfl rfl (by decide) (Nat.le_of_ble_eq_true rfl) (fun r_31 τ_31 h_31 => ?_)
        subst hQ
        exact G.iret C hr dX5_hole_34 (by
            exact Or.inr (Or.inl ⟨⟨b_1, c_10, b_15⟩, h_31⟩))
  · have b_1 := wb_0 e_1 c_4
    refine G.iconst (v := -1) C dX5_hole_7 (by decide) ?_
    subst hQ
    exact G.iret C hr dX5_hole_8 (by
        refine Or.inl ⟨fun q => ?_, rfl, rfl⟩
        first | exact q.elim (fun q => b_1 q.1) (fun q => b_1 q.1))
set_option maxHeartbeats 4000000 in
set_option maxRecDepth 100000 in
theorem ok_X5_fits {w : wD} (hw : wOK w) (σ : wSt) (a b c : Int32) {l : Nat} (hl : σ.1 0 0 3 = nI l) (hl20 : l ≤ 20) {nh nb : Nat → Nat} (hH : ∀ i, i < 20 → σ.1 15 i 1 = nI (nh i) ∧ nh i ≤ 6) (hB : ∀ j, j < 4 → σ.1 18 j 1 = nI (nb j) ∧ nb j ≤ 6) : MI w yX5_fits cX5_fits 4 (some .int) 3 68 [.ref (w.2.2.2.1 0 0), .int a, .int b, .int c] σ (fun r τ => σ = τ ∧ ((¬ (inN (σ.1 0 0 3) a ∧ (0 ≤ b ∧ b < 4) ∧ -20 ≤ c ∧ c ≤ 20) ∧ r = -1) ∨ ((inN (σ.1 0 0 3) a ∧ (0 ≤ b ∧ b < 4) ∧ -20 ≤ c ∧ c ≤ 20) ∧ r = fitU (σ.1 16 a.toNatClampNeg) (σ.1 19 b.toNatClampNeg) (nb b.toNatClampNeg) c (nh a.toNatClampNeg)))) := by
  refine MI.of hw (by decide +kernel) (Nat.le_of_ble_eq_true rfl) (fun x C hr => ?_)
  suffices key : ∀ Q, Q = QI w x (fun r τ => σ = τ ∧ ((¬ (inN (σ.1 0 0 3) a ∧ (0 ≤ b ∧ b < 4) ∧ -20 ≤ c ∧ c ≤ 20) ∧ r = -1) ∨ ((inN (σ.1 0 0 3) a ∧ (0 ≤ b ∧ b < 4) ∧ -20 ≤ c ∧ c ≤ 20) ∧ r = fitU (σ.1 16 a.toNatClampNeg) (σ.1 19 b.toNatClampNeg) (nb b.toNatClampNeg) c (nh a.toNatClampNeg)))) → G w x 4 Q 0 [(0, .ref (w.2.2.2.1 0 0)), (1, .int a), (2, .int b), (3, .int c)] [] σ from key _ rfl
  intro Q hQ
  refine G.aload_n C 0 dX5_fits_0 rfl rfl ?_
  refine G.iload_n C 1 dX5_fits_1 rfl rfl ?_
  have hM_0 := ok_X5_isLeaf hw σ a
  refine G.callV C (g := 0) (i := 0) none hM_0 dX5_fits_2 (by decide) rfl rfl rfl uv_X5_isLeaf ul_RX5_111 rfl rfl (by decide) (Nat.le_of_ble_eq_true rfl) (fun r_2 τ_2 h_2 => ?_)
  obtain ⟨h_2, e_2⟩ := h_2; subst h_2
  refine G.if_eq (tgt := 22) C dX5_fits_5 (by decide) (fun c_5 => ?_) (fun c_5 => ?_)
  · have b_2 := wb_0 e_2 c_5
    refine G.iconst (v := -1) C dX5_fits_22 (by decide) ?_
    subst hQ
    exact G.iret C hr dX5_fits_23 (by
        refine ⟨rfl, Or.inl ⟨fun q => ?_, rfl⟩⟩
        first | exact b_2 q.1 | exact b_9 q.2.1 | exact b_16 q.2.2)
  · have b_2 := wb_1 e_2 c_5
    refine G.iload_n C 2 dX5_fits_8 rfl rfl ?_
    have hM_1 := ok_X5_isBook hw σ b
    refine G.callS C none hM_1 dX5_fits_9 us_X5_isBook ul_RX5_203 rfl rfl (by decide) (Nat.le_of_ble_eq_true rfl) (fun r_9 τ_9 h_9 => ?_)
    obtain ⟨h_9, e_9⟩ := h_9; subst h_9
    refine G.if_eq (tgt := 22) C dX5_fits_12 (by decide) (fun c_12 => ?_) (fun c_12 => ?_)
    · have b_9 := wb_0 e_9 c_12
      refine G.iconst (v := -1) C dX5_fits_22 (by decide) ?_
      subst hQ
      exact G.iret C hr dX5_fits_23 (by
          refine ⟨rfl, Or.inl ⟨fun q => ?_, rfl⟩⟩
          first | exact b_2 q.1 | exact b_9 q.2.1 | exact b_16 q.2.2)
    · have b_9 := wb_1 e_9 c_12
      refine G.iload_n C 3 dX5_fits_15 rfl rfl ?_
      have hM_2 := ok_X1_isShift hw σ c
      refine G.callS C (some "PlateRoom") hM_2 dX5_fits_16 us_X1_isShift unm_RX5_206 rfl rfl (by decide) (Nat.le_of_ble_eq_true rfl) (fun r_16 τ_16 h_16 => ?_)
      obtain ⟨h_16, e_16⟩ := h_16; subst h_16
      refine G.if_ne (tgt := 24) C dX5_fits_19 (by decide) (fun c_19 => ?_) (fun c_19 => ?_)
      · have b_16 := wb_1 e_16 c_19
        refine G.aload_n C 0 dX5_fits_24 rfl rfl ?_
        refine G.get (g := 0) (i := 0) C 2 none dX5_fits_25 (by decide) rfl rfl uX_X5 (by decide) uf_RX5_25 rfl rfl ?_
        refine G.iload_n C 1 dX5_fits_28 rfl rfl ?_
        have hin_29 : vp_in a 20 := by
          exact vp_ofc b_2 hl hl20 (by decide)
        refine G.aald (g := 3) (i := 0) (n := 20) (f := fun q => w.2.2.2.1 14 q) C 1 dX5_fits_29 (by decide) rfl rfl rfl hin_29 ?_
        refine G.get (g := 14) (i := a.toNatClampNeg) C 6 (some "PlateRoom") dX5_fits_30 (vp_lt hin_29) rfl rfl uX_X2 (by decide) unf_RX5_196 rfl rfl ?_
        refine G.aload_n C 0 dX5_fits_33 rfl rfl ?_
        refine G.get (g := 0) (i := 0) C 6 none dX5_fits_34 (by decide) rfl rfl uX_X5 (by decide) uf_RX5_44 rfl rfl ?_
        refine G.iload_n C 2 dX5_fits_37 rfl rfl ?_
        have hin_38 : vp_in b 4 := by
          exact vp_ofc (c := 4) (l := 4) b_9 rfl (by decide) (by decide)
        refine G.aald (g := 5) (i := 0) (n := 4) (f := fun q => w.2.2.2.1 18 q) C 3 dX5_fits_38 (by decide) rfl rfl rfl hin_38 ?_
        refine G.iload_n C 3 dX5_fits_39 rfl rfl ?_
        have hM_3 := ok_X1_fitting hw σ a.toNatClampNeg b.toNatClampNeg c (vp_lt hin_29) (vp_lt hin_38) ((hH _ (vp_lt hin_29)).1) ((hH _ (vp_lt hin_29)).2) ((hB _ (vp_lt hin_38)).1) ((hB _ (vp_lt hin_38)).2)
        refine G.callV C (g := 15) (i := a.toNatClampNeg) (some "PlateRoom") hM_3 dX5_fits_40 (vp_lt hin_29) rfl rfl rfl uv_X1_fitting unm_RX5_209 rfl rfl (by decide) (Nat.le_of_ble_eq_true rfl) (fun r_40 τ_40 h_40 => ?_)
        obtain ⟨h_40, e_40⟩ := h_40; subst h_40
        subst hQ
        exact G.iret C hr dX5_fits_43 (by
            exact ⟨rfl, Or.inr ⟨⟨b_2, b_9, b_16⟩, e_40⟩⟩)
      · have b_16 := wb_0 e_16 c_19
        refine G.iconst (v := -1) C dX5_fits_22 (by decide) ?_
        subst hQ
        exact G.iret C hr dX5_fits_23 (by
            refine ⟨rfl, Or.inl ⟨fun q => ?_, rfl⟩⟩
            first | exact b_2 q.1 | exact b_9 q.2.1 | exact b_16 q.2.2)
set_option maxHeartbeats 4000000 in
set_option maxRecDepth 100000 in
theorem ok_X5_shift {w : wD} (hw : wOK w) (σ : wSt) (a b c : Int32) {l : Nat} (hl : σ.1 0 0 3 = nI l) (hl20 : l ≤ 20) {nh nb : Nat → Nat} (hH : ∀ i, i < 20 → σ.1 15 i 1 = nI (nh i) ∧ nh i ≤ 6) (hB : ∀ j, j < 4 → σ.1 18 j 1 = nI (nb j) ∧ nb j ≤ 6) : MI w yX5_shift cX5_shift 6 (some .int) 4 94 [.ref (w.2.2.2.1 0 0), .int a, .int b, .int c] σ (fun r τ => σ = τ ∧ ((¬ (inN (σ.1 0 0 3) a ∧ (0 ≤ b ∧ b < 4) ∧ (c = 0 ∨ c = 1)) ∧ r = -100) ∨ ((inN (σ.1 0 0 3) a ∧ (0 ≤ b ∧ b < 4) ∧ (c = 0 ∨ c = 1)) ∧ r = if c = 0 then shU (fun q => fitU (σ.1 16 a.toNatClampNeg) (σ.1 19 b.toNatClampNeg) (nb b.toNatClampNeg) q (nh a.toNatClampNeg)) 20 else mostU (fun q => fitU (σ.1 16 a.toNatClampNeg) (σ.1 19 b.toNatClampNeg) (nb b.toNatClampNeg) q (nh a.toNatClampNeg))))) := by
  refine MI.of hw (by decide +kernel) (Nat.le_of_ble_eq_true rfl) (fun x C hr => ?_)
  suffices key : ∀ Q, Q = QI w x (fun r τ => σ = τ ∧ ((¬ (inN (σ.1 0 0 3) a ∧ (0 ≤ b ∧ b < 4) ∧ (c = 0 ∨ c = 1)) ∧ r = -100) ∨ ((inN (σ.1 0 0 3) a ∧ (0 ≤ b ∧ b < 4) ∧ (c = 0 ∨ c = 1)) ∧ r = if c = 0 then shU (fun q => fitU (σ.1 16 a.toNatClampNeg) (σ.1 19 b.toNatClampNeg) (nb b.toNatClampNeg) q (nh a.toNatClampNeg)) 20 else mostU (fun q => fitU (σ.1 16 a.toNatClampNeg) (σ.1 19 b.toNatClampNeg) (nb b.toNatClampNeg) q (nh a.toNatClampNeg))))) → G w x 6 Q 0 [(0, .ref (w.2.2.2.1 0 0)), (1, .int a), (2, .int b), (3, .int c)] [] σ from key _ rfl
  intro Q hQ
  refine G.aload_n C 0 dX5_shift_0 rfl rfl ?_
  refine G.iload_n C 1 dX5_shift_1 rfl rfl ?_
  have hM_0 := ok_X5_isLeaf hw σ a
  refine G.callV C (g := 0) (i := 0) none hM_0 dX5_shift_2 (by decide) rfl rfl rfl uv_X5_isLeaf ul_RX5_111 rfl rfl (by decide) (Nat.le_of_ble_eq_true rfl) (fun r_2 τ_2 h_2 => ?_)
  obtain ⟨h_2, e_2⟩ := h_2; subst h_2
  refine G.if_eq (tgt := 22) C dX5_shift_5 (by decide) (fun c_5 => ?_) (fun c_5 => ?_)
  · have b_2 := wb_0 e_2 c_5
    refine G.bipush (v := -100) C dX5_shift_22 (by decide) ?_
    subst hQ
    exact G.iret C hr dX5_shift_24 (by
        refine ⟨rfl, Or.inl ⟨fun q => ?_, rfl⟩⟩
        first | exact b_2 q.1 | exact b_9 q.2.1 | exact b_16 q.2.2)
  · have b_2 := wb_1 e_2 c_5
    refine G.iload_n C 2 dX5_shift_8 rfl rfl ?_
    have hM_1 := ok_X5_isBook hw σ b
    refine G.callS C none hM_1 dX5_shift_9 us_X5_isBook ul_RX5_203 rfl rfl (by decide) (Nat.le_of_ble_eq_true rfl) (fun r_9 τ_9 h_9 => ?_)
    obtain ⟨h_9, e_9⟩ := h_9; subst h_9
    refine G.if_eq (tgt := 22) C dX5_shift_12 (by decide) (fun c_12 => ?_) (fun c_12 => ?_)
    · have b_9 := wb_0 e_9 c_12
      refine G.bipush (v := -100) C dX5_shift_22 (by decide) ?_
      subst hQ
      exact G.iret C hr dX5_shift_24 (by
          refine ⟨rfl, Or.inl ⟨fun q => ?_, rfl⟩⟩
          first | exact b_2 q.1 | exact b_9 q.2.1 | exact b_16 q.2.2)
    · have b_9 := wb_1 e_9 c_12
      refine G.iload_n C 3 dX5_shift_15 rfl rfl ?_
      have hM_2 := ok_X5_isFirstOrSecond hw σ c
      refine G.callS C none hM_2 dX5_shift_16 us_X5_isFirstOrSecond ul_RX5_97 rfl rfl (by decide) (Nat.le_of_ble_eq_true rfl) (fun r_16 τ_16 h_16 => ?_)
      obtain ⟨h_16, e_16⟩ := h_16; subst h_16
      refine G.if_ne (tgt := 25) C dX5_shift_19 (by decide) (fun c_19 => ?_) (fun c_19 => ?_)
      · have b_16 := wb_1 e_16 c_19
        refine G.aload_n C 0 dX5_shift_25 rfl rfl ?_
        refine G.get (g := 0) (i := 0) C 2 none dX5_shift_26 (by decide) rfl rfl uX_X5 (by decide) uf_RX5_25 rfl rfl ?_
        refine G.iload_n C 1 dX5_shift_29 rfl rfl ?_
        have hin_30 : vp_in a 20 := by
          exact vp_ofc b_2 hl hl20 (by decide)
        refine G.aald (g := 3) (i := 0) (n := 20) (f := fun q => w.2.2.2.1 14 q) C 1 dX5_shift_30 (by decide) rfl rfl rfl hin_30 ?_
        refine G.get (g := 14) (i := a.toNatClampNeg) C 6 (some "PlateRoom") dX5_shift_31 (vp_lt hin_30) rfl rfl uX_X2 (by decide) unf_RX5_196 rfl rfl ?_
        refine G.astore (L1 := [(4, .ref (w.2.2.2.1 15 a.toNatClampNeg)), (0, .ref (w.2.2.2.1 0 0)), (1, .int a), (2, .int b), (3, .int c)]) C dX5_shift_34 (by decide) rfl ?_
        refine G.aload C 0 dX5_shift_36 rfl ?_
        refine G.aload_n C 1 dX5_shift_38 rfl rfl ?_
        refine G.get (g := 0) (i := 0) C 6 none dX5_shift_39 (by decide) rfl rfl uX_X5 (by decide) uf_RX5_44 rfl rfl ?_
        refine G.iload_n C 3 dX5_shift_42 rfl rfl ?_
        have hin_43 : vp_in b 4 := by
          exact vp_ofc (c := 4) (l := 4) b_9 rfl (by decide) (by decide)
        refine G.aald (g := 5) (i := 0) (n := 4) (f := fun q => w.2.2.2.1 18 q) C 3 dX5_shift_43 (by decide) rfl rfl rfl hin_43 ?_
        have hM_3 := ok_X1_bestShift hw σ a.toNatClampNeg b.toNatClampNeg (vp_lt hin_30) (vp_lt hin_43) ((hH _ (vp_lt hin_30)).1) ((hH _ (vp_lt hin_30)).2) ((hB _ (vp_lt hin_43)).1) ((hB _ (vp_lt hin_43)).2)
        refine G.callV C (g := 15) (i := a.toNatClampNeg) (some "PlateRoom") hM_3 dX5_shift_44 (vp_lt hin_30) rfl rfl rfl uv_X1_bestShift unm_RX5_213 rfl rfl (by decide) (Nat.le_of_ble_eq_true rfl) (fun r_44 τ_44 h_44 => ?_)
        obtain ⟨h_44, e_44⟩ := h_44; subst h_44
        refine G.istore (L1 := [(5, .int r_44), (4, .ref (w.2.2.2.1 15 a.toNatClampNeg)), (0, .ref (w.2.2.2.1 0 0)), (1, .int a), (2, .int b), (3, .int c)]) C dX5_shift_47 (by decide) rfl ?_
        refine G.iload_n C 5 dX5_shift_49 rfl rfl ?_
        refine G.if_ne (tgt := 58) C dX5_shift_50 (by decide) (fun c_50 => ?_) (fun c_50 => ?_)
        · refine G.aload C 1 dX5_shift_58 rfl ?_
          refine G.aload_n C 2 dX5_shift_60 rfl rfl ?_
          refine G.get (g := 0) (i := 0) C 6 none dX5_shift_61 (by decide) rfl rfl uX_X5 (by decide) uf_RX5_44 rfl rfl ?_
          refine G.iload_n C 4 dX5_shift_64 rfl rfl ?_
          have hin_65 : vp_in b 4 := by
            exact vp_ofc (c := 4) (l := 4) b_9 rfl (by decide) (by decide)
          refine G.aald (g := 5) (i := 0) (n := 4) (f := fun q => w.2.2.2.1 18 q) C 3 dX5_shift_65 (by decide) rfl rfl rfl hin_65 ?_
          refine G.iload C 0 dX5_shift_66 rfl ?_
          have hM_4 := ok_X1_fitting hw σ a.toNatClampNeg b.toNatClampNeg r_44 (vp_lt hin_30) (vp_lt hin_65) ((hH _ (vp_lt hin_30)).1) ((hH _ (vp_lt hin_30)).2) ((hB _ (vp_lt hin_43)).1) ((hB _ (vp_lt hin_43)).2)
          refine G.callV C (g := 15) (i := a.toNatClampNeg) (some "PlateRoom") hM_4 dX5_shift_68 (vp_lt hin_30) rfl rfl rfl uv_X1_fitting unm_RX5_209 rfl rfl (by decide) (Nat.le_of_ble_eq_true rfl) (fun r_68 τ_68 h_68 => ?_)
          obtain ⟨h_68, e_68⟩ := h_68; subst h_68
          subst hQ
          exact G.iret C hr dX5_shift_71 (by
              refine ⟨rfl, Or.inr ⟨⟨b_2, b_9, b_16⟩, ?_⟩⟩
              rw [if_neg c_50, e_68, e_44]
              rfl)
        · refine G.iload C 0 dX5_shift_53 rfl ?_
          refine G.goto (tgt := 71) C dX5_shift_55 (by decide) ?_
          subst hQ
          exact G.iret C hr dX5_shift_71 (by
              refine ⟨rfl, Or.inr ⟨⟨b_2, b_9, b_16⟩, ?_⟩⟩
              rw [if_pos c_50, e_44])
      · have b_16 := wb_0 e_16 c_19
        refine G.bipush (v := -100) C dX5_shift_22 (by decide) ?_
        subst hQ
        exact G.iret C hr dX5_shift_24 (by
            refine ⟨rfl, Or.inl ⟨fun q => ?_, rfl⟩⟩
            first | exact b_2 q.1 | exact b_9 q.2.1 | exact b_16 q.2.2)
set_option maxHeartbeats 4000000 in
set_option maxRecDepth 100000 in
theorem ok_X5_homeOf {w : wD} (hw : wOK w) (σ : wSt) (a : Int32) {l : Nat} (hl : σ.1 0 0 3 = nI l) (hl20 : l ≤ 20) {nh nb : Nat → Nat} (hH : ∀ i, i < 20 → σ.1 15 i 1 = nI (nh i) ∧ nh i ≤ 6) (hB : ∀ j, j < 4 → σ.1 18 j 1 = nI (nb j) ∧ nb j ≤ 6) (hia : 0 ≤ a ∧ a < σ.1 0 0 3) : MI w yX5_homeOf cX5_homeOf 6 (some .int) 5 115 [.ref (w.2.2.2.1 0 0), .int a] σ (fun r τ => σ = τ ∧ r = (homeU (fun j => mostU (fun q => fitU (σ.1 16 a.toNatClampNeg) (σ.1 19 j) (nb j) q (nh a.toNatClampNeg))) 4).1) := by
  refine MI.of hw (by decide +kernel) (Nat.le_of_ble_eq_true rfl) (fun x C hr => ?_)
  suffices key : ∀ Q, Q = QI w x (fun r τ => σ = τ ∧ r = (homeU (fun j => mostU (fun q => fitU (σ.1 16 a.toNatClampNeg) (σ.1 19 j) (nb j) q (nh a.toNatClampNeg))) 4).1) → G w x 6 Q 0 [(0, .ref (w.2.2.2.1 0 0)), (1, .int a)] [] σ from key _ rfl
  intro Q hQ
  refine G.bipush (v := -9) C dX5_homeOf_0 (by decide) ?_
  refine G.istore_n (L1 := [(2, .int (-9)), (0, .ref (w.2.2.2.1 0 0)), (1, .int a)]) C dX5_homeOf_2 rfl (by decide) rfl ?_
  refine G.iconst (v := 1) C dX5_homeOf_3 (by decide) ?_
  refine G.istore_n (L1 := [(3, .int 1), (2, .int (-9)), (0, .ref (w.2.2.2.1 0 0)), (1, .int a)]) C dX5_homeOf_4 rfl (by decide) rfl ?_
  refine G.iconst (v := 0) C dX5_homeOf_5 (by decide) ?_
  refine G.istore (L1 := [(4, .int 0), (3, .int 1), (2, .int (-9)), (0, .ref (w.2.2.2.1 0 0)), (1, .int a)]) C dX5_homeOf_6 (by decide) rfl ?_
  have cut_8 : ∀ (m9 : Nat) (j : Nat) (x4 x3 x2 : Int32), j ≤ 4 → 4 < j + m9 → x4 = nI j → x3 = (homeU (fun j => mostU (fun q => fitU (σ.1 16 a.toNatClampNeg) (σ.1 19 j) (nb j) q (nh a.toNatClampNeg))) j).2 → x2 = (homeU (fun j => mostU (fun q => fitU (σ.1 16 a.toNatClampNeg) (σ.1 19 j) (nb j) q (nh a.toNatClampNeg))) j).1 → G w x 6 Q 8 [(4, .int x4), (3, .int x3), (2, .int x2), (0, .ref (w.2.2.2.1 0 0)), (1, .int a)] [] σ := by
    intro m9
    induction m9 with
    | zero =>
      intro j x4 x3 x2 hj hm hx4 hx3 hx2
      exfalso
      omega
    | succ m9 ih =>
      intro j x4 x3 x2 hj hm hx4 hx3 hx2
      subst hx4
      subst hx3
      subst hx2
      refine G.iload C 0 dX5_homeOf_8 rfl ?_
      refine G.iconst (v := 4) C dX5_homeOf_10 (by decide) ?_
      refine G.icmp_ge (tgt := 53) C dX5_homeOf_11 (by decide) (fun c_11 => ?_) (fun c_11 => ?_)
      · have hjn : j = 4 := by
          rw [show (4 : Int32) = nI 4 from rfl, nI_leI (by decide) (by omega)] at c_11; omega
        refine G.iload_n C 2 dX5_homeOf_53 rfl rfl ?_
        subst hQ
        exact G.iret C hr dX5_homeOf_54 (by
            rw [hjn]
            exact ⟨rfl, rfl⟩)
      · have hjn : j < 4 := by
          rw [show (4 : Int32) = nI 4 from rfl, nI_leI (by decide) (by omega)] at c_11; omega
        refine G.aload_n C 3 dX5_homeOf_14 rfl rfl ?_
        refine G.get (g := 0) (i := 0) C 2 none dX5_homeOf_15 (by decide) rfl rfl uX_X5 (by decide) uf_RX5_25 rfl rfl ?_
        refine G.iload_n C 4 dX5_homeOf_18 rfl rfl ?_
        have hin_19 : vp_in a 20 := by
          exact vp_ofc hia hl hl20 (by decide)
        refine G.aald (g := 3) (i := 0) (n := 20) (f := fun q => w.2.2.2.1 14 q) C 1 dX5_homeOf_19 (by decide) rfl rfl rfl hin_19 ?_
        refine G.get (g := 14) (i := a.toNatClampNeg) C 6 (some "PlateRoom") dX5_homeOf_20 (vp_lt hin_19) rfl rfl uX_X2 (by decide) unf_RX5_196 rfl rfl ?_
        refine G.aload_n C 3 dX5_homeOf_23 rfl rfl ?_
        refine G.get (g := 0) (i := 0) C 6 none dX5_homeOf_24 (by decide) rfl rfl uX_X5 (by decide) uf_RX5_44 rfl rfl ?_
        refine G.iload C 0 dX5_homeOf_27 rfl ?_
        have hin_29 : vp_in (nI j) 4 := by
          exact vp_in_nI (by omega) (by decide)
        refine G.aald (g := 5) (i := 0) (n := 4) (f := fun q => w.2.2.2.1 18 q) C 3 dX5_homeOf_29 (by decide) rfl rfl rfl hin_29 ?_
        have hM_0 := ok_X1_mostFitting hw σ a.toNatClampNeg ((nI j).toNatClampNeg) (vp_lt hin_19) (vp_lt hin_29) ((hH _ (vp_lt hin_19)).1) ((hH _ (vp_lt hin_19)).2) ((hB _ (vp_lt hin_29)).1) ((hB _ (vp_lt hin_29)).2)
        refine G.callV C (g := 15) (i := a.toNatClampNeg) (some "PlateRoom") hM_0 dX5_homeOf_30 (vp_lt hin_19) rfl rfl rfl uv_X1_mostFitting unm_RX5_271 rfl rfl (by decide) (Nat.le_of_ble_eq_true rfl) (fun r_30 τ_30 h_30 => ?_)
        obtain ⟨h_30, e_30⟩ := h_30; subst h_30
        rw [nI_clamp (show j < 2 ^ 31 by omega)] at e_30
        refine G.istore (L1 := [(5, .int r_30), (4, .int (nI j)), (3, .int ((homeU (fun j => mostU (fun q => fitU (σ.1 16 a.toNatClampNeg) (σ.1 19 j) (nb j) q (nh a.toNatClampNeg))) j).2)), (2, .int ((homeU (fun j => mostU (fun q => fitU (σ.1 16 a.toNatClampNeg) (σ.1 19 j) (nb j) q (nh a.toNatClampNeg))) j).1)), (0, .ref (w.2.2.2.1 0 0)), (1, .int a)]) C dX5_homeOf_33 (by decide) rfl ?_
        refine G.iload C 0 dX5_homeOf_35 rfl ?_
        refine G.iload_n C 2 dX5_homeOf_37 rfl rfl ?_
        refine G.icmp_le (tgt := 47) C dX5_homeOf_38 (by decide) (fun c_38 => ?_) (fun c_38 => ?_)
        · obtain ⟨x4_47, ex4_47⟩ : ∃ z : Int32, z = (nI j) + 1 := ⟨_, rfl⟩
          refine G.iinc (v := x4_47) (L1 := [(4, .int x4_47), (5, .int r_30), (3, .int ((homeU (fun j => mostU (fun q => fitU (σ.1 16 a.toNatClampNeg) (σ.1 19 j) (nb j) q (nh a.toNatClampNeg))) j).2)), (2, .int ((homeU (fun j => mostU (fun q => fitU (σ.1 16 a.toNatClampNeg) (σ.1 19 j) (nb j) q (nh a.toNatClampNeg))) j).1)), (0, .ref (w.2.2.2.1 0 0)), (1, .int a)]) C 1 dX5_homeOf_47 rfl (by rw [ex4_47]; rfl) (by decide) rfl ?_
          refine G.goto (tgt := 8) C dX5_homeOf_50 (by decide) ?_
          refine G.sub (L1 := [(4, .int x4_47), (3, .int ((homeU (fun j => mostU (fun q => fitU (σ.1 16 a.toNatClampNeg) (σ.1 19 j) (nb j) q (nh a.toNatClampNeg))) j).2)), (2, .int ((homeU (fun j => mostU (fun q => fitU (σ.1 16 a.toNatClampNeg) (σ.1 19 j) (nb j) q (nh a.toNatClampNeg))) j).1)), (0, .ref (w.2.2.2.1 0 0)), (1, .int a)]) [0, 2, 3, 4, 5] rfl ?_
          refine ih  (j + 1) _ _ _ ?_ ?_ ?_ ?_ ?_
          · omega
          · omega
          · rw [ex4_47]; exact nI_1 j
          · rw [homeU_f (M := (fun j => mostU (fun q => fitU (σ.1 16 a.toNatClampNeg) (σ.1 19 j) (nb j) q (nh a.toNatClampNeg)))) (fun q => Int32.not_le.mpr q (e_30 ▸ c_38))]
          · rw [homeU_f (M := (fun j => mostU (fun q => fitU (σ.1 16 a.toNatClampNeg) (σ.1 19 j) (nb j) q (nh a.toNatClampNeg)))) (fun q => Int32.not_le.mpr q (e_30 ▸ c_38))]
        · refine G.iload C 0 dX5_homeOf_41 rfl ?_
          refine G.istore_n (L1 := [(3, .int r_30), (5, .int r_30), (4, .int (nI j)), (2, .int ((homeU (fun j => mostU (fun q => fitU (σ.1 16 a.toNatClampNeg) (σ.1 19 j) (nb j) q (nh a.toNatClampNeg))) j).1)), (0, .ref (w.2.2.2.1 0 0)), (1, .int a)]) C dX5_homeOf_43 rfl (by decide) rfl ?_
          refine G.iload C 2 dX5_homeOf_44 rfl ?_
          refine G.topi (fun x2_46 ex2_46 => ?_)
          refine G.istore_n (L1 := [(2, .int x2_46), (3, .int r_30), (5, .int r_30), (4, .int (nI j)), (0, .ref (w.2.2.2.1 0 0)), (1, .int a)]) C dX5_homeOf_46 rfl (by decide) rfl ?_
          obtain ⟨x4_47, ex4_47⟩ : ∃ z : Int32, z = (nI j) + 1 := ⟨_, rfl⟩
          refine G.iinc (v := x4_47) (L1 := [(4, .int x4_47), (2, .int x2_46), (3, .int r_30), (5, .int r_30), (0, .ref (w.2.2.2.1 0 0)), (1, .int a)]) C 3 dX5_homeOf_47 rfl (by rw [ex4_47]; rfl) (by decide) rfl ?_
          refine G.goto (tgt := 8) C dX5_homeOf_50 (by decide) ?_
          refine G.sub (L1 := [(4, .int x4_47), (3, .int r_30), (2, .int x2_46), (0, .ref (w.2.2.2.1 0 0)), (1, .int a)]) [0, 2, 1, 4, 5] rfl ?_
          refine ih  (j + 1) _ _ _ ?_ ?_ ?_ ?_ ?_
          · omega
          · omega
          · rw [ex4_47]; exact nI_1 j
          · rw [homeU_t (M := (fun j => mostU (fun q => fitU (σ.1 16 a.toNatClampNeg) (σ.1 19 j) (nb j) q (nh a.toNatClampNeg)))) (by rw [← e_30]; exact Int32.not_le.mp c_38)]
            exact e_30
          · rw [homeU_t (M := (fun j => mostU (fun q => fitU (σ.1 16 a.toNatClampNeg) (σ.1 19 j) (nb j) q (nh a.toNatClampNeg)))) (by rw [← e_30]; exact Int32.not_le.mp c_38)]
            try assumption
  refine cut_8 5 0 _ _ _ ?_ ?_ ?_ ?_ ?_
  · omega
  · omega
  · rfl
  · rfl
  · rfl
set_option maxHeartbeats 4000000 in
set_option maxRecDepth 100000 in
theorem ok_X5_othersByChance {w : wD} (hw : wOK w) (σ : wSt) (a b : Int32) {l : Nat} (hl : σ.1 0 0 3 = nI l) (hl20 : l ≤ 20) {nh nb : Nat → Nat} (hH : ∀ i, i < 20 → σ.1 15 i 1 = nI (nh i) ∧ nh i ≤ 6) (hB : ∀ j, j < 4 → σ.1 18 j 1 = nI (nb j) ∧ nb j ≤ 6) (hia : 0 ≤ a ∧ a < σ.1 0 0 3) (hib : 0 ≤ b ∧ b < 4) : MI w yX5_othersByChance cX5_othersByChance 6 (some .int) 5 115 [.ref (w.2.2.2.1 0 0), .int a, .int b] σ (fun r τ => σ = τ ∧ r = chanceU (fun i => mostU (fun q => fitU (σ.1 16 i) (σ.1 19 b.toNatClampNeg) (nb b.toNatClampNeg) q (nh i))) a (mostU (fun q => fitU (σ.1 16 a.toNatClampNeg) (σ.1 19 b.toNatClampNeg) (nb b.toNatClampNeg) q (nh a.toNatClampNeg))) l) := by
  refine MI.of hw (by decide +kernel) (Nat.le_of_ble_eq_true rfl) (fun x C hr => ?_)
  suffices key : ∀ Q, Q = QI w x (fun r τ => σ = τ ∧ r = chanceU (fun i => mostU (fun q => fitU (σ.1 16 i) (σ.1 19 b.toNatClampNeg) (nb b.toNatClampNeg) q (nh i))) a (mostU (fun q => fitU (σ.1 16 a.toNatClampNeg) (σ.1 19 b.toNatClampNeg) (nb b.toNatClampNeg) q (nh a.toNatClampNeg))) l) → G w x 6 Q 0 [(0, .ref (w.2.2.2.1 0 0)), (1, .int a), (2, .int b)] [] σ from key _ rfl
  intro Q hQ
  refine G.aload_n C 0 dX5_othersByChance_0 rfl rfl ?_
  refine G.get (g := 0) (i := 0) C 2 none dX5_othersByChance_1 (by decide) rfl rfl uX_X5 (by decide) uf_RX5_25 rfl rfl ?_
  refine G.iload_n C 1 dX5_othersByChance_4 rfl rfl ?_
  have hin_5 : vp_in a 20 := by
    exact vp_ofc hia hl hl20 (by decide)
  refine G.aald (g := 3) (i := 0) (n := 20) (f := fun q => w.2.2.2.1 14 q) C 1 dX5_othersByChance_5 (by decide) rfl rfl rfl hin_5 ?_
  refine G.get (g := 14) (i := a.toNatClampNeg) C 6 (some "PlateRoom") dX5_othersByChance_6 (vp_lt hin_5) rfl rfl uX_X2 (by decide) unf_RX5_196 rfl rfl ?_
  refine G.aload_n C 0 dX5_othersByChance_9 rfl rfl ?_
  refine G.get (g := 0) (i := 0) C 6 none dX5_othersByChance_10 (by decide) rfl rfl uX_X5 (by decide) uf_RX5_44 rfl rfl ?_
  refine G.iload_n C 2 dX5_othersByChance_13 rfl rfl ?_
  have hin_14 : vp_in b 4 := by
    exact vp_ofc (c := 4) (l := 4) hib rfl (by decide) (by decide)
  refine G.aald (g := 5) (i := 0) (n := 4) (f := fun q => w.2.2.2.1 18 q) C 3 dX5_othersByChance_14 (by decide) rfl rfl rfl hin_14 ?_
  have hM_0 := ok_X1_mostFitting hw σ a.toNatClampNeg b.toNatClampNeg (vp_lt hin_5) (vp_lt hin_14) ((hH _ (vp_lt hin_5)).1) ((hH _ (vp_lt hin_5)).2) ((hB _ (vp_lt hin_14)).1) ((hB _ (vp_lt hin_14)).2)
  refine G.callV C (g := 15) (i := a.toNatClampNeg) (some "PlateRoom") hM_0 dX5_othersByChance_15 (vp_lt hin_5) rfl rfl rfl uv_X1_mostFitting unm_RX5_271 rfl rfl (by decide) (Nat.le_of_ble_eq_true rfl) (fun r_15 τ_15 h_15 => ?_)
  obtain ⟨h_15, e_15⟩ := h_15; subst h_15
  refine G.istore_n (L1 := [(3, .int r_15), (0, .ref (w.2.2.2.1 0 0)), (1, .int a), (2, .int b)]) C dX5_othersByChance_18 rfl (by decide) rfl ?_
  refine G.iconst (v := 0) C dX5_othersByChance_19 (by decide) ?_
  refine G.istore (L1 := [(4, .int 0), (3, .int r_15), (0, .ref (w.2.2.2.1 0 0)), (1, .int a), (2, .int b)]) C dX5_othersByChance_20 (by decide) rfl ?_
  refine G.iconst (v := 0) C dX5_othersByChance_22 (by decide) ?_
  refine G.istore (L1 := [(5, .int 0), (4, .int 0), (3, .int r_15), (0, .ref (w.2.2.2.1 0 0)), (1, .int a), (2, .int b)]) C dX5_othersByChance_23 (by decide) rfl ?_
  have cut_25 : ∀ (m9 : Nat) (j : Nat) (x5 x4 : Int32), j ≤ l → l < j + m9 → x5 = nI j → x4 = chanceU (fun i => mostU (fun q => fitU (σ.1 16 i) (σ.1 19 b.toNatClampNeg) (nb b.toNatClampNeg) q (nh i))) a (mostU (fun q => fitU (σ.1 16 a.toNatClampNeg) (σ.1 19 b.toNatClampNeg) (nb b.toNatClampNeg) q (nh a.toNatClampNeg))) j → G w x 6 Q 25 [(5, .int x5), (4, .int x4), (3, .int r_15), (0, .ref (w.2.2.2.1 0 0)), (1, .int a), (2, .int b)] [] σ := by
    intro m9
    induction m9 with
    | zero =>
      intro j x5 x4 hj hm hx5 hx4
      exfalso
      omega
    | succ m9 ih =>
      intro j x5 x4 hj hm hx5 hx4
      subst hx5
      subst hx4
      refine G.iload C 0 dX5_othersByChance_25 rfl ?_
      refine G.aload_n C 3 dX5_othersByChance_27 rfl rfl ?_
      refine G.get (g := 0) (i := 0) C 3 none dX5_othersByChance_28 (by decide) rfl rfl uX_X5 (by decide) uf_RX5_29 rfl rfl ?_
      refine G.icmp_ge (tgt := 72) C dX5_othersByChance_31 (by decide) (fun c_31 => ?_) (fun c_31 => ?_)
      · have hjn : j = l := by
          rw [hl, nI_leI (by omega) (by omega)] at c_31; omega
        refine G.iload C 1 dX5_othersByChance_72 rfl ?_
        subst hQ
        exact G.iret C hr dX5_othersByChance_74 (by
            rw [hjn]
            exact ⟨rfl, rfl⟩)
      · have hjn : j < l := by
          rw [hl, nI_leI (by omega) (by omega)] at c_31; omega
        refine G.iload C 0 dX5_othersByChance_34 rfl ?_
        refine G.iload_n C 4 dX5_othersByChance_36 rfl rfl ?_
        refine G.icmp_eq (tgt := 66) C dX5_othersByChance_37 (by decide) (fun c_37 => ?_) (fun c_37 => ?_)
        · obtain ⟨x5_66, ex5_66⟩ : ∃ z : Int32, z = (nI j) + 1 := ⟨_, rfl⟩
          refine G.iinc (v := x5_66) (L1 := [(5, .int x5_66), (4, .int (chanceU (fun i => mostU (fun q => fitU (σ.1 16 i) (σ.1 19 b.toNatClampNeg) (nb b.toNatClampNeg) q (nh i))) a (mostU (fun q => fitU (σ.1 16 a.toNatClampNeg) (σ.1 19 b.toNatClampNeg) (nb b.toNatClampNeg) q (nh a.toNatClampNeg))) j)), (3, .int r_15), (0, .ref (w.2.2.2.1 0 0)), (1, .int a), (2, .int b)]) C 0 dX5_othersByChance_66 rfl (by rw [ex5_66]; rfl) (by decide) rfl ?_
          refine G.goto (tgt := 25) C dX5_othersByChance_69 (by decide) ?_
          refine ih  (j + 1) _ _ ?_ ?_ ?_ ?_
          · omega
          · omega
          · rw [ex5_66]; exact nI_1 j
          · rw [chanceU_f (fun q => q.1 c_37)]
        · refine G.aload_n C 3 dX5_othersByChance_40 rfl rfl ?_
          refine G.get (g := 0) (i := 0) C 2 none dX5_othersByChance_41 (by decide) rfl rfl uX_X5 (by decide) uf_RX5_25 rfl rfl ?_
          refine G.iload C 0 dX5_othersByChance_44 rfl ?_
          have hin_46 : vp_in (nI j) 20 := by
            exact vp_in_nI (by omega) (by decide)
          refine G.aald (g := 3) (i := 0) (n := 20) (f := fun q => w.2.2.2.1 14 q) C 1 dX5_othersByChance_46 (by decide) rfl rfl rfl hin_46 ?_
          refine G.get (g := 14) (i := ((nI j).toNatClampNeg)) C 6 (some "PlateRoom") dX5_othersByChance_47 (vp_lt hin_46) rfl rfl uX_X2 (by decide) unf_RX5_196 rfl rfl ?_
          refine G.aload_n C 3 dX5_othersByChance_50 rfl rfl ?_
          refine G.get (g := 0) (i := 0) C 6 none dX5_othersByChance_51 (by decide) rfl rfl uX_X5 (by decide) uf_RX5_44 rfl rfl ?_
          refine G.iload_n C 5 dX5_othersByChance_54 rfl rfl ?_
          have hin_55 : vp_in b 4 := by
            exact vp_ofc (c := 4) (l := 4) hib rfl (by decide) (by decide)
          refine G.aald (g := 5) (i := 0) (n := 4) (f := fun q => w.2.2.2.1 18 q) C 3 dX5_othersByChance_55 (by decide) rfl rfl rfl hin_55 ?_
          have hM_1 := ok_X1_mostFitting hw σ ((nI j).toNatClampNeg) b.toNatClampNeg (vp_lt hin_46) (vp_lt hin_55) ((hH _ (vp_lt hin_46)).1) ((hH _ (vp_lt hin_46)).2) ((hB _ (vp_lt hin_55)).1) ((hB _ (vp_lt hin_55)).2)
          refine G.callV C (g := 15) (i := ((nI j).toNatClampNeg)) (some "PlateRoom") hM_1 dX5_othersByChance_56 (vp_lt hin_46) rfl rfl rfl uv_X1_mostFitting unm_RX5_271 rfl rfl (by decide) (Nat.le_of_ble_eq_true rfl) (fun r_56 τ_56 h_56 => ?_)
          obtain ⟨h_56, e_56⟩ := h_56; subst h_56
          refine G.iload_n C 2 dX5_othersByChance_59 rfl rfl ?_
          refine G.icmp_lt (tgt := 66) C dX5_othersByChance_60 (by decide) (fun c_60 => ?_) (fun c_60 => ?_)
          · obtain ⟨x5_66, ex5_66⟩ : ∃ z : Int32, z = (nI j) + 1 := ⟨_, rfl⟩
            refine G.iinc (v := x5_66) (L1 := [(5, .int x5_66), (4, .int (chanceU (fun i => mostU (fun q => fitU (σ.1 16 i) (σ.1 19 b.toNatClampNeg) (nb b.toNatClampNeg) q (nh i))) a (mostU (fun q => fitU (σ.1 16 a.toNatClampNeg) (σ.1 19 b.toNatClampNeg) (nb b.toNatClampNeg) q (nh a.toNatClampNeg))) j)), (3, .int r_15), (0, .ref (w.2.2.2.1 0 0)), (1, .int a), (2, .int b)]) C 0 dX5_othersByChance_66 rfl (by rw [ex5_66]; rfl) (by decide) rfl ?_
            refine G.goto (tgt := 25) C dX5_othersByChance_69 (by decide) ?_
            refine ih  (j + 1) _ _ ?_ ?_ ?_ ?_
            · omega
            · omega
            · rw [ex5_66]; exact nI_1 j
            · rw [nI_clamp (show j < 2 ^ 31 by omega)] at e_56
              rw [chanceU_f (fun q => Int32.not_le.mpr c_60 (by rw [e_15, e_56]; exact q.2))]
          · obtain ⟨x4_63, ex4_63⟩ : ∃ z : Int32, z = (chanceU (fun i => mostU (fun q => fitU (σ.1 16 i) (σ.1 19 b.toNatClampNeg) (nb b.toNatClampNeg) q (nh i))) a (mostU (fun q => fitU (σ.1 16 a.toNatClampNeg) (σ.1 19 b.toNatClampNeg) (nb b.toNatClampNeg) q (nh a.toNatClampNeg))) j) + 1 := ⟨_, rfl⟩
            refine G.iinc (v := x4_63) (L1 := [(4, .int x4_63), (5, .int (nI j)), (3, .int r_15), (0, .ref (w.2.2.2.1 0 0)), (1, .int a), (2, .int b)]) C 1 dX5_othersByChance_63 rfl (by rw [ex4_63]; rfl) (by decide) rfl ?_
            obtain ⟨x5_66, ex5_66⟩ : ∃ z : Int32, z = (nI j) + 1 := ⟨_, rfl⟩
            refine G.iinc (v := x5_66) (L1 := [(5, .int x5_66), (4, .int x4_63), (3, .int r_15), (0, .ref (w.2.2.2.1 0 0)), (1, .int a), (2, .int b)]) C 1 dX5_othersByChance_66 rfl (by rw [ex5_66]; rfl) (by decide) rfl ?_
            refine G.goto (tgt := 25) C dX5_othersByChance_69 (by decide) ?_
            refine ih  (j + 1) _ _ ?_ ?_ ?_ ?_
            · omega
            · omega
            · rw [ex5_66]; exact nI_1 j
            · rw [nI_clamp (show j < 2 ^ 31 by omega)] at e_56
              rw [ex4_63, chanceU_t ⟨c_37, by rw [← e_56, ← e_15]; exact Int32.not_lt.mp c_60⟩]
  refine cut_25 (l + 1) 0 _ _ ?_ ?_ ?_ ?_
  · omega
  · omega
  · rfl
  · rfl
set_option maxHeartbeats 4000000 in
set_option maxRecDepth 100000 in
theorem ok_X5_home {w : wD} (hw : wOK w) (σ : wSt) (a b : Int32) {l : Nat} (hl : σ.1 0 0 3 = nI l) (hl20 : l ≤ 20) {nh nb : Nat → Nat} (hH : ∀ i, i < 20 → σ.1 15 i 1 = nI (nh i) ∧ nh i ≤ 6) (hB : ∀ j, j < 4 → σ.1 18 j 1 = nI (nb j) ∧ nb j ≤ 6) : MI w yX5_home cX5_home 4 (some .int) 6 140 [.ref (w.2.2.2.1 0 0), .int a, .int b] σ (fun r τ => σ = τ ∧ ((¬ (inN (σ.1 0 0 3) a ∧ (b = 0 ∨ b = 1)) ∧ r = -1) ∨ ((inN (σ.1 0 0 3) a ∧ (b = 0 ∨ b = 1)) ∧ (b = 0 ∨ ¬ (0 ≤ (homeU (fun j => mostU (fun q => fitU (σ.1 16 a.toNatClampNeg) (σ.1 19 j) (nb j) q (nh a.toNatClampNeg))) 4).1 ∧ (homeU (fun j => mostU (fun q => fitU (σ.1 16 a.toNatClampNeg) (σ.1 19 j) (nb j) q (nh a.toNatClampNeg))) 4).1 < 4)) ∧ r = (homeU (fun j => mostU (fun q => fitU (σ.1 16 a.toNatClampNeg) (σ.1 19 j) (nb j) q (nh a.toNatClampNeg))) 4).1) ∨ ((inN (σ.1 0 0 3) a ∧ (b = 0 ∨ b = 1)) ∧ ¬ b = 0 ∧ (0 ≤ (homeU (fun j => mostU (fun q => fitU (σ.1 16 a.toNatClampNeg) (σ.1 19 j) (nb j) q (nh a.toNatClampNeg))) 4).1 ∧ (homeU (fun j => mostU (fun q => fitU (σ.1 16 a.toNatClampNeg) (σ.1 19 j) (nb j) q (nh a.toNatClampNeg))) 4).1 < 4) ∧ r = chanceU (fun i => mostU (fun q => fitU (σ.1 16 i) (σ.1 19 ((homeU (fun j => mostU (fun q => fitU (σ.1 16 a.toNatClampNeg) (σ.1 19 j) (nb j) q (nh a.toNatClampNeg))) 4).1).toNatClampNeg) (nb ((homeU (fun j => mostU (fun q => fitU (σ.1 16 a.toNatClampNeg) (σ.1 19 j) (nb j) q (nh a.toNatClampNeg))) 4).1).toNatClampNeg) q (nh i))) a (mostU (fun q => fitU (σ.1 16 a.toNatClampNeg) (σ.1 19 ((homeU (fun j => mostU (fun q => fitU (σ.1 16 a.toNatClampNeg) (σ.1 19 j) (nb j) q (nh a.toNatClampNeg))) 4).1).toNatClampNeg) (nb ((homeU (fun j => mostU (fun q => fitU (σ.1 16 a.toNatClampNeg) (σ.1 19 j) (nb j) q (nh a.toNatClampNeg))) 4).1).toNatClampNeg) q (nh a.toNatClampNeg))) l))) := by
  refine MI.of hw (by decide +kernel) (Nat.le_of_ble_eq_true rfl) (fun x C hr => ?_)
  suffices key : ∀ Q, Q = QI w x (fun r τ => σ = τ ∧ ((¬ (inN (σ.1 0 0 3) a ∧ (b = 0 ∨ b = 1)) ∧ r = -1) ∨ ((inN (σ.1 0 0 3) a ∧ (b = 0 ∨ b = 1)) ∧ (b = 0 ∨ ¬ (0 ≤ (homeU (fun j => mostU (fun q => fitU (σ.1 16 a.toNatClampNeg) (σ.1 19 j) (nb j) q (nh a.toNatClampNeg))) 4).1 ∧ (homeU (fun j => mostU (fun q => fitU (σ.1 16 a.toNatClampNeg) (σ.1 19 j) (nb j) q (nh a.toNatClampNeg))) 4).1 < 4)) ∧ r = (homeU (fun j => mostU (fun q => fitU (σ.1 16 a.toNatClampNeg) (σ.1 19 j) (nb j) q (nh a.toNatClampNeg))) 4).1) ∨ ((inN (σ.1 0 0 3) a ∧ (b = 0 ∨ b = 1)) ∧ ¬ b = 0 ∧ (0 ≤ (homeU (fun j => mostU (fun q => fitU (σ.1 16 a.toNatClampNeg) (σ.1 19 j) (nb j) q (nh a.toNatClampNeg))) 4).1 ∧ (homeU (fun j => mostU (fun q => fitU (σ.1 16 a.toNatClampNeg) (σ.1 19 j) (nb j) q (nh a.toNatClampNeg))) 4).1 < 4) ∧ r = chanceU (fun i => mostU (fun q => fitU (σ.1 16 i) (σ.1 19 ((homeU (fun j => mostU (fun q => fitU (σ.1 16 a.toNatClampNeg) (σ.1 19 j) (nb j) q (nh a.toNatClampNeg))) 4).1).toNatClampNeg) (nb ((homeU (fun j => mostU (fun q => fitU (σ.1 16 a.toNatClampNeg) (σ.1 19 j) (nb j) q (nh a.toNatClampNeg))) 4).1).toNatClampNeg) q (nh i))) a (mostU (fun q => fitU (σ.1 16 a.toNatClampNeg) (σ.1 19 ((homeU (fun j => mostU (fun q => fitU (σ.1 16 a.toNatClampNeg) (σ.1 19 j) (nb j) q (nh a.toNatClampNeg))) 4).1).toNatClampNeg) (nb ((homeU (fun j => mostU (fun q => fitU (σ.1 16 a.toNatClampNeg) (σ.1 19 j) (nb j) q (nh a.toNatClampNeg))) 4).1).toNatClampNeg) q (nh a.toNatClampNeg))) l))) → G w x 4 Q 0 [(0, .ref (w.2.2.2.1 0 0)), (1, .int a), (2, .int b)] [] σ from key _ rfl
  intro Q hQ
  refine G.aload_n C 0 dX5_home_0 rfl rfl ?_
  refine G.iload_n C 1 dX5_home_1 rfl rfl ?_
  have hM_0 := ok_X5_isLeaf hw σ a
  refine G.callV C (g := 0) (i := 0) none hM_0 dX5_home_2 (by decide) rfl rfl rfl uv_X5_isLeaf ul_RX5_111 rfl rfl (by decide) (Nat.le_of_ble_eq_true rfl) (fun r_2 τ_2 h_2 => ?_)
  obtain ⟨h_2, e_2⟩ := h_2; subst h_2
  refine G.if_eq (tgt := 15) C dX5_home_5 (by decide) (fun c_5 => ?_) (fun c_5 => ?_)
  · have b_2 := wb_0 e_2 c_5
    refine G.iconst (v := -1) C dX5_home_15 (by decide) ?_
    subst hQ
    exact G.iret C hr dX5_home_16 (by
        refine ⟨rfl, Or.inl ⟨fun q => ?_, rfl⟩⟩
        first | exact b_2 q.1 | exact b_9 q.2)
  · have b_2 := wb_1 e_2 c_5
    refine G.iload_n C 2 dX5_home_8 rfl rfl ?_
    have hM_1 := ok_X5_isFirstOrSecond hw σ b
    refine G.callS C none hM_1 dX5_home_9 us_X5_isFirstOrSecond ul_RX5_97 rfl rfl (by decide) (Nat.le_of_ble_eq_true rfl) (fun r_9 τ_9 h_9 => ?_)
    obtain ⟨h_9, e_9⟩ := h_9; subst h_9
    refine G.if_ne (tgt := 17) C dX5_home_12 (by decide) (fun c_12 => ?_) (fun c_12 => ?_)
    · have b_9 := wb_1 e_9 c_12
      refine G.aload_n C 0 dX5_home_17 rfl rfl ?_
      refine G.iload_n C 1 dX5_home_18 rfl rfl ?_
      have hM_2 := ok_X5_homeOf hw σ a hl hl20 hH hB b_2
      refine G.callV C (g := 0) (i := 0) none hM_2 dX5_home_19 (by decide) rfl rfl rfl uv_X5_homeOf ul_RX5_217 rfl rfl (by decide) (Nat.le_of_ble_eq_true rfl) (fun r_19 τ_19 h_19 => ?_)
      obtain ⟨h_19, e_19⟩ := h_19; subst h_19
      refine G.istore_n (L1 := [(3, .int r_19), (0, .ref (w.2.2.2.1 0 0)), (1, .int a), (2, .int b)]) C dX5_home_22 rfl (by decide) rfl ?_
      refine G.iload_n C 3 dX5_home_23 rfl rfl ?_
      refine G.if_eq (tgt := 34) C dX5_home_24 (by decide) (fun c_24 => ?_) (fun c_24 => ?_)
      · refine G.iload_n C 0 dX5_home_34 rfl rfl ?_
        subst hQ
        exact G.iret C hr dX5_home_35 (by
            exact ⟨rfl, Or.inr (Or.inl ⟨⟨b_2, b_9⟩, Or.inl c_24, e_19⟩)⟩)
      · refine G.iload_n C 0 dX5_home_27 rfl rfl ?_
        have hM_3 := ok_X5_isBook hw σ r_19
        refine G.callS C none hM_3 dX5_home_28 us_X5_isBook ul_RX5_203 rfl rfl (by decide) (Nat.le_of_ble_eq_true rfl) (fun r_28 τ_28 h_28 => ?_)
        obtain ⟨h_28, e_28⟩ := h_28; subst h_28
        refine G.if_ne (tgt := 36) C dX5_home_31 (by decide) (fun c_31 => ?_) (fun c_31 => ?_)
        · have b_28 := wb_1 e_28 c_31
          refine G.aload_n C 1 dX5_home_36 rfl rfl ?_
          refine G.iload_n C 2 dX5_home_37 rfl rfl ?_
          refine G.iload_n C 0 dX5_home_38 rfl rfl ?_
          have hM_4 := ok_X5_othersByChance hw σ a r_19 hl hl20 hH hB b_2 b_28
          refine G.callV C (g := 0) (i := 0) none hM_4 dX5_home_39 (by decide) rfl rfl rfl uv_X5_othersByChance ul_RX5_220 rfl rfl (by decide) (Nat.le_of_ble_eq_true rfl) (fun r_39 τ_39 h_39 => ?_)
          obtain ⟨h_39, e_39⟩ := h_39; subst h_39
          subst hQ
          exact G.iret C hr dX5_home_42 (by
              rw [e_19] at b_28 e_39
              exact ⟨rfl, Or.inr (Or.inr ⟨⟨b_2, b_9⟩, c_24, b_28, e_39⟩)⟩)
        · have b_28 := wb_0 e_28 c_31
          refine G.iload_n C 0 dX5_home_34 rfl rfl ?_
          subst hQ
          exact G.iret C hr dX5_home_35 (by
              exact ⟨rfl, Or.inr (Or.inl ⟨⟨b_2, b_9⟩, Or.inr (e_19 ▸ b_28), e_19⟩)⟩)
    · have b_9 := wb_0 e_9 c_12
      refine G.iconst (v := -1) C dX5_home_15 (by decide) ?_
      subst hQ
      exact G.iret C hr dX5_home_16 (by
          refine ⟨rfl, Or.inl ⟨fun q => ?_, rfl⟩⟩
          first | exact b_2 q.1 | exact b_9 q.2)
set_option maxHeartbeats 4000000 in
set_option maxRecDepth 100000 in
theorem ok_X5_leavesWithCandidates {w : wD} (hw : wOK w) (σ : wSt) (a : Int32) {n : Nat} (hn : σ.1 1 0 5 = nI n) (h6 : n ≤ 6) {l : Nat} (hl : σ.1 0 0 3 = nI l) (hl20 : l ≤ 20) : MI w yX5_leavesWithCandidates cX5_leavesWithCandidates 4 (some .int) 2 45 [.ref (w.2.2.2.1 0 0), .int a] σ (fun r τ => σ = τ ∧ r = cntU (fun q => candU (σ.1 6 0) (σ.1 14 q 0) (σ.1 14 q 1) n) a l) := by
  refine MI.of hw (by decide +kernel) (Nat.le_of_ble_eq_true rfl) (fun x C hr => ?_)
  suffices key : ∀ Q, Q = QI w x (fun r τ => σ = τ ∧ r = cntU (fun q => candU (σ.1 6 0) (σ.1 14 q 0) (σ.1 14 q 1) n) a l) → G w x 4 Q 0 [(0, .ref (w.2.2.2.1 0 0)), (1, .int a)] [] σ from key _ rfl
  intro Q hQ
  refine G.iconst (v := 0) C dX5_leavesWithCandidates_0 (by decide) ?_
  refine G.istore_n (L1 := [(2, .int 0), (0, .ref (w.2.2.2.1 0 0)), (1, .int a)]) C dX5_leavesWithCandidates_1 rfl (by decide) rfl ?_
  refine G.iconst (v := 0) C dX5_leavesWithCandidates_2 (by decide) ?_
  refine G.istore_n (L1 := [(3, .int 0), (2, .int 0), (0, .ref (w.2.2.2.1 0 0)), (1, .int a)]) C dX5_leavesWithCandidates_3 rfl (by decide) rfl ?_
  have cut_4 : ∀ (m9 : Nat) (j : Nat) (x3 x2 : Int32), j ≤ l → l < j + m9 → x3 = nI j → x2 = cntU (fun q => candU (σ.1 6 0) (σ.1 14 q 0) (σ.1 14 q 1) n) a j → G w x 4 Q 4 [(3, .int x3), (2, .int x2), (0, .ref (w.2.2.2.1 0 0)), (1, .int a)] [] σ := by
    intro m9
    induction m9 with
    | zero =>
      intro j x3 x2 hj hm hx3 hx2
      exfalso
      omega
    | succ m9 ih =>
      intro j x3 x2 hj hm hx3 hx2
      subst hx3
      subst hx2
      refine G.iload_n C 0 dX5_leavesWithCandidates_4 rfl rfl ?_
      refine G.aload_n C 2 dX5_leavesWithCandidates_5 rfl rfl ?_
      refine G.get (g := 0) (i := 0) C 3 none dX5_leavesWithCandidates_6 (by decide) rfl rfl uX_X5 (by decide) uf_RX5_29 rfl rfl ?_
      refine G.icmp_ge (tgt := 38) C dX5_leavesWithCandidates_9 (by decide) (fun c_9 => ?_) (fun c_9 => ?_)
      · have hjn : j = l := by
          rw [hl, nI_leI (by omega) (by omega)] at c_9; omega
        refine G.iload_n C 1 dX5_leavesWithCandidates_38 rfl rfl ?_
        subst hQ
        exact G.iret C hr dX5_leavesWithCandidates_39 (by
            rw [hjn]
            exact ⟨rfl, rfl⟩)
      · have hjn : j < l := by
          rw [hl, nI_leI (by omega) (by omega)] at c_9; omega
        refine G.aload_n C 2 dX5_leavesWithCandidates_12 rfl rfl ?_
        refine G.aload_n C 2 dX5_leavesWithCandidates_13 rfl rfl ?_
        refine G.get (g := 0) (i := 0) C 2 none dX5_leavesWithCandidates_14 (by decide) rfl rfl uX_X5 (by decide) uf_RX5_25 rfl rfl ?_
        refine G.iload_n C 0 dX5_leavesWithCandidates_17 rfl rfl ?_
        have hin_18 : vp_in (nI j) 20 := by
          exact vp_in_nI (by omega) (by decide)
        refine G.aald (g := 3) (i := 0) (n := 20) (f := fun q => w.2.2.2.1 14 q) C 1 dX5_leavesWithCandidates_18 (by decide) rfl rfl rfl hin_18 ?_
        have hM_0 := ok_X5_candidatesOf hw σ ((nI j).toNatClampNeg) (vp_lt hin_18) hn h6
        refine G.callV C (g := 0) (i := 0) none hM_0 dX5_leavesWithCandidates_19 (by decide) rfl rfl rfl uv_X5_candidatesOf ul_RX5_123 rfl rfl (by decide) (Nat.le_of_ble_eq_true rfl) (fun r_19 τ_19 h_19 => ?_)
        obtain ⟨h_19, e_19⟩ := h_19; subst h_19
        rw [nI_clamp (show j < 2 ^ 31 by omega)] at e_19
        have hM_1 := ok_J6_bitCount_0f7a4 hw σ r_19 (by rw [e_19]; exact rng_cand n h6)
        refine G.callS C none hM_1 dX5_leavesWithCandidates_22 us_J6_bitCount_0f7a4 ul_RX5_253 rfl rfl (by decide) (Nat.le_of_ble_eq_true rfl) (fun r_22 τ_22 h_22 => ?_)
        obtain ⟨h_22, e_22⟩ := h_22; subst h_22
        refine G.iload_n C 3 dX5_leavesWithCandidates_25 rfl rfl ?_
        refine G.icmp_ne (tgt := 32) C dX5_leavesWithCandidates_26 (by decide) (fun c_26 => ?_) (fun c_26 => ?_)
        · obtain ⟨x3_32, ex3_32⟩ : ∃ z : Int32, z = (nI j) + 1 := ⟨_, rfl⟩
          refine G.iinc (v := x3_32) (L1 := [(3, .int x3_32), (2, .int (cntU (fun q => candU (σ.1 6 0) (σ.1 14 q 0) (σ.1 14 q 1) n) a j)), (0, .ref (w.2.2.2.1 0 0)), (1, .int a)]) C 0 dX5_leavesWithCandidates_32 rfl (by rw [ex3_32]; rfl) (by decide) rfl ?_
          refine G.goto (tgt := 4) C dX5_leavesWithCandidates_35 (by decide) ?_
          refine ih  (j + 1) _ _ ?_ ?_ ?_ ?_
          · omega
          · omega
          · rw [ex3_32]; exact nI_1 j
          · rw [e_22, e_19] at c_26
            rw [cntU_f (c := fun q => candU (σ.1 6 0) (σ.1 14 q 0) (σ.1 14 q 1) n) (k := j) c_26]
        · obtain ⟨x2_29, ex2_29⟩ : ∃ z : Int32, z = (cntU (fun q => candU (σ.1 6 0) (σ.1 14 q 0) (σ.1 14 q 1) n) a j) + 1 := ⟨_, rfl⟩
          refine G.iinc (v := x2_29) (L1 := [(2, .int x2_29), (3, .int (nI j)), (0, .ref (w.2.2.2.1 0 0)), (1, .int a)]) C 1 dX5_leavesWithCandidates_29 rfl (by rw [ex2_29]; rfl) (by decide) rfl ?_
          obtain ⟨x3_32, ex3_32⟩ : ∃ z : Int32, z = (nI j) + 1 := ⟨_, rfl⟩
          refine G.iinc (v := x3_32) (L1 := [(3, .int x3_32), (2, .int x2_29), (0, .ref (w.2.2.2.1 0 0)), (1, .int a)]) C 1 dX5_leavesWithCandidates_32 rfl (by rw [ex3_32]; rfl) (by decide) rfl ?_
          refine G.goto (tgt := 4) C dX5_leavesWithCandidates_35 (by decide) ?_
          refine ih  (j + 1) _ _ ?_ ?_ ?_ ?_
          · omega
          · omega
          · rw [ex3_32]; exact nI_1 j
          · rw [e_22, e_19] at c_26
            rw [ex2_29, cntU_t (c := fun q => candU (σ.1 6 0) (σ.1 14 q 0) (σ.1 14 q 1) n) (k := j) c_26]
  refine cut_4 (l + 1) 0 _ _ ?_ ?_ ?_ ?_
  · omega
  · omega
  · rfl
  · rfl
set_option maxHeartbeats 4000000 in
set_option maxRecDepth 100000 in
theorem ok_X5_count {w : wD} (hw : wOK w) (σ : wSt) (a : Int32) {n : Nat} (hn : σ.1 1 0 5 = nI n) (h6 : n ≤ 6) {l : Nat} (hl : σ.1 0 0 3 = nI l) (hl20 : l ≤ 20) : MI w yX5_count cX5_count 2 (some .int) 3 68 [.ref (w.2.2.2.1 0 0), .int a] σ (fun r τ => σ = τ ∧ ((¬ (0 ≤ a ∧ a ≤ 5) ∧ r = -1) ∨ ((0 ≤ a ∧ a ≤ 5) ∧ r = if a = 0 then σ.1 1 0 5 else if a = 1 then σ.1 0 0 3 else if a = 2 then σ.1 0 0 5 else if a = 3 then σ.1 2 0 4 else if a = 4 then cntU (fun q => candU (σ.1 6 0) (σ.1 14 q 0) (σ.1 14 q 1) n) 0 l else cntU (fun q => candU (σ.1 6 0) (σ.1 14 q 0) (σ.1 14 q 1) n) 1 l))) := by
  refine MI.of hw (by decide +kernel) (Nat.le_of_ble_eq_true rfl) (fun x C hr => ?_)
  suffices key : ∀ Q, Q = QI w x (fun r τ => σ = τ ∧ ((¬ (0 ≤ a ∧ a ≤ 5) ∧ r = -1) ∨ ((0 ≤ a ∧ a ≤ 5) ∧ r = if a = 0 then σ.1 1 0 5 else if a = 1 then σ.1 0 0 3 else if a = 2 then σ.1 0 0 5 else if a = 3 then σ.1 2 0 4 else if a = 4 then cntU (fun q => candU (σ.1 6 0) (σ.1 14 q 0) (σ.1 14 q 1) n) 0 l else cntU (fun q => candU (σ.1 6 0) (σ.1 14 q 0) (σ.1 14 q 1) n) 1 l))) → G w x 2 Q 0 [(0, .ref (w.2.2.2.1 0 0)), (1, .int a)] [] σ from key _ rfl
  intro Q hQ
  refine G.iload_n C 1 dX5_count_0 rfl rfl ?_
  refine G.table C dX5_count_1 (fun j off hj hb ho => ?_) (by decide) (fun hj => ?_)
  · have hj9 : j < 6 := by have := (Array.getElem?_eq_some_iff.mp ho).1; simpa using this
    rcases (show j = 0 ∨ j = 1 ∨ j = 2 ∨ j = 3 ∨ j = 4 ∨ j = 5 by omega) with rfl | rfl | rfl | rfl | rfl | rfl
    · cases ho
      refine ⟨40, by decide, ?_⟩
      have c_1 : a = 0 := w_ofInt (by simpa using hj)
      refine G.aload_n C 0 dX5_count_40 rfl rfl ?_
      refine G.get (g := 0) (i := 0) C 0 none dX5_count_41 (by decide) rfl rfl uX_X5 (by decide) uf_RX5_10 rfl rfl ?_
      refine G.get (g := 1) (i := 0) C 5 (some "PlateRoom") dX5_count_44 (by decide) rfl rfl uX_X3 (by decide) unf_RX5_100 rfl rfl ?_
      subst hQ
      exact G.iret C hr dX5_count_47 (by
          subst c_1
          exact ⟨rfl, Or.inr ⟨by decide, rfl⟩⟩)
    · cases ho
      refine ⟨48, by decide, ?_⟩
      have c_1 : a = 1 := w_ofInt (by simpa using hj)
      refine G.aload_n C 0 dX5_count_48 rfl rfl ?_
      refine G.get (g := 0) (i := 0) C 3 none dX5_count_49 (by decide) rfl rfl uX_X5 (by decide) uf_RX5_29 rfl rfl ?_
      subst hQ
      exact G.iret C hr dX5_count_52 (by
          subst c_1
          exact ⟨rfl, Or.inr ⟨by decide, rfl⟩⟩)
    · cases ho
      refine ⟨53, by decide, ?_⟩
      have c_1 : a = 2 := w_ofInt (by simpa using hj)
      refine G.aload_n C 0 dX5_count_53 rfl rfl ?_
      refine G.get (g := 0) (i := 0) C 5 none dX5_count_54 (by decide) rfl rfl uX_X5 (by decide) uf_RX5_39 rfl rfl ?_
      subst hQ
      exact G.iret C hr dX5_count_57 (by
          subst c_1
          exact ⟨rfl, Or.inr ⟨by decide, rfl⟩⟩)
    · cases ho
      refine ⟨58, by decide, ?_⟩
      have c_1 : a = 3 := w_ofInt (by simpa using hj)
      refine G.aload_n C 0 dX5_count_58 rfl rfl ?_
      refine G.get (g := 0) (i := 0) C 1 none dX5_count_59 (by decide) rfl rfl uX_X5 (by decide) uf_RX5_19 rfl rfl ?_
      refine G.get (g := 2) (i := 0) C 4 (some "PlateRoom") dX5_count_62 (by decide) rfl rfl uX_X0 (by decide) unf_RX5_223 rfl rfl ?_
      subst hQ
      exact G.iret C hr dX5_count_65 (by
          subst c_1
          exact ⟨rfl, Or.inr ⟨by decide, rfl⟩⟩)
    · cases ho
      refine ⟨66, by decide, ?_⟩
      have c_1 : a = 4 := w_ofInt (by simpa using hj)
      refine G.aload_n C 0 dX5_count_66 rfl rfl ?_
      refine G.iconst (v := 0) C dX5_count_67 (by decide) ?_
      have hM_0 := ok_X5_leavesWithCandidates hw σ 0 hn h6 hl hl20
      refine G.callV C (g := 0) (i := 0) none hM_0 dX5_count_68 (by decide) rfl rfl rfl uv_X5_leavesWithCandidates ul_RX5_226 rfl rfl (by decide) (Nat.le_of_ble_eq_true rfl) (fun r_68 τ_68 h_68 => ?_)
      obtain ⟨h_68, e_68⟩ := h_68; subst h_68
      subst hQ
      exact G.iret C hr dX5_count_71 (by
          subst c_1
          exact ⟨rfl, Or.inr ⟨by decide, e_68⟩⟩)
    · cases ho
      refine ⟨72, by decide, ?_⟩
      have c_1 : a = 5 := w_ofInt (by simpa using hj)
      refine G.aload_n C 0 dX5_count_72 rfl rfl ?_
      refine G.iconst (v := 1) C dX5_count_73 (by decide) ?_
      have hM_1 := ok_X5_leavesWithCandidates hw σ 1 hn h6 hl hl20
      refine G.callV C (g := 0) (i := 0) none hM_1 dX5_count_74 (by decide) rfl rfl rfl uv_X5_leavesWithCandidates ul_RX5_226 rfl rfl (by decide) (Nat.le_of_ble_eq_true rfl) (fun r_74 τ_74 h_74 => ?_)
      obtain ⟨h_74, e_74⟩ := h_74; subst h_74
      subst hQ
      exact G.iret C hr dX5_count_77 (by
          subst c_1
          exact ⟨rfl, Or.inr ⟨by decide, e_74⟩⟩)
  · refine ⟨78, by decide, ?_⟩
    have c_1 := hj
    refine G.iconst (v := -1) C dX5_count_78 (by decide) ?_
    subst hQ
    exact G.iret C hr dX5_count_79 (by
        refine ⟨rfl, Or.inl ⟨fun q => ?_, rfl⟩⟩
        exact w_out (k := 5) c_1 q.1 q.2)
set_option maxHeartbeats 4000000 in
set_option maxRecDepth 100000 in
theorem ok_X5_trace {w : wD} (hw : wOK w) (σ : wSt)   : ML w yX5_trace cX5_trace 1 (some .long) 0 0 [.ref (w.2.2.2.1 0 0)] σ (fun r τ => σ = τ ∧ r = σ.2 0) := by
  refine ML.of hw (by decide +kernel) (Nat.le_of_ble_eq_true rfl) (fun x C hr => ?_)
  suffices key : ∀ Q, Q = QL w x (fun r τ => σ = τ ∧ r = σ.2 0) → G w x 1 Q 0 [(0, .ref (w.2.2.2.1 0 0))] [] σ from key _ rfl
  intro Q hQ
  refine G.aload_n C 0 dX5_trace_0 rfl rfl ?_
  refine G.get (g := 0) (i := 0) C 7 none dX5_trace_1 (by decide) rfl rfl uX_X5 (by decide) uf_RX5_48 rfl rfl ?_
  subst hQ
  exact G.lret C hr dX5_trace_4 (by
      exact ⟨rfl, rfl⟩)
end
section
/-! PART 04.a: the model's words -/
theorem wb_iff {P Q : Prop} [Decidable P] [Decidable Q] (h : P ↔ Q) : wb P = wb Q := by
  by_cases q : P
  · rw [wb_t q, wb_t (h.mp q)]
  · rw [wb_f q, wb_f (fun z => q (h.mpr z))]
theorem nI_predI {l : Nat} (h : l ≤ 1000) : (nI l - 1).toInt = (l : Int) - 1 := by
  have := pk_sub_toInt (a := l) (b := 1) (by omega) (by omega)
  exact this
theorem in_pred {a : Int32} {l : Nat} (h : l ≤ 1000) : (0 ≤ a ∧ a ≤ nI l - 1) ↔ (0 ≤ a ∧ a < nI l) := by
  rw [Int32.le_iff_toInt_le, Int32.le_iff_toInt_le, Int32.lt_iff_toInt_lt, nI_predI h, nI_toInt (by omega)]
  omega
theorem yy_of {a b : Int32} (h : okY a) (h2 : a ≤ b ∧ b ≤ 1900) : okYY a b := ⟨h, ⟨Int32.le_trans h.1 h2.1, h2.2⟩, h2.1⟩
theorem w_le1 {b : Int32} : (0 ≤ b ∧ b ≤ 1) ↔ (b = 0 ∨ b = 1) := by
  rw [Int32.le_iff_toInt_le, Int32.le_iff_toInt_le, ← Int32.toInt_inj, ← Int32.toInt_inj]
  have e0 : (0 : Int32).toInt = 0 := rfl
  have e1 : (1 : Int32).toInt = 1 := rfl
  omega
theorem w_le11 {b : Int32} : (0 ≤ b ∧ b ≤ 11) ↔ (0 ≤ b ∧ b < 12) := by
  rw [Int32.le_iff_toInt_le, Int32.le_iff_toInt_le, Int32.lt_iff_toInt_lt]
  have e0 : (0 : Int32).toInt = 0 := rfl
  have e1 : (11 : Int32).toInt = 11 := rfl
  have e2 : (12 : Int32).toInt = 12 := rfl
  omega
theorem w_le3 {b : Int32} : (0 ≤ b ∧ b ≤ 3) ↔ (0 ≤ b ∧ b < 4) := by
  rw [Int32.le_iff_toInt_le, Int32.le_iff_toInt_le, Int32.lt_iff_toInt_lt]
  have e0 : (0 : Int32).toInt = 0 := rfl
  have e1 : (3 : Int32).toInt = 3 := rfl
  have e2 : (4 : Int32).toInt = 4 := rfl
  omega
theorem w_le99 {b : Int32} : (0 ≤ b ∧ b ≤ 99) ↔ (0 ≤ b ∧ b < 100) := by
  rw [Int32.le_iff_toInt_le, Int32.le_iff_toInt_le, Int32.lt_iff_toInt_lt]
  have e0 : (0 : Int32).toInt = 0 := rfl
  have e1 : (99 : Int32).toInt = 99 := rfl
  have e2 : (100 : Int32).toInt = 100 := rfl
  omega
theorem w_012 {b : Int32} (h : 0 ≤ b ∧ b ≤ 2) : b = 0 ∨ b = 1 ∨ b = 2 := by
  rw [Int32.le_iff_toInt_le, Int32.le_iff_toInt_le] at h
  rw [← Int32.toInt_inj, ← Int32.toInt_inj, ← Int32.toInt_inj]
  have e0 : (0 : Int32).toInt = 0 := rfl
  have e1 : (1 : Int32).toInt = 1 := rfl
  have e2 : (2 : Int32).toInt = 2 := rfl
  omega
theorem nI_ceq {a b : Nat} (ha : a ≤ 1000) (hb : b ≤ 1000) : ¬ nI a = nI b → ¬ a = b := fun h e => h (by rw [e])
theorem seven {n k : Nat} (h : n ≤ k) (q : ¬ n = k) : n < k := by omega
/-- the charge's bound, as the model asks for it -/
theorem mostM {a : Int32} (h : 0 ≤ a ∧ a ≤ 4) : mostC a = if a = 2 then 50 else if a = 4 then 20 else 9 := by
  have : a = 0 ∨ a = 1 ∨ a = 2 ∨ a = 3 ∨ a = 4 := by
    rw [Int32.le_iff_toInt_le, Int32.le_iff_toInt_le] at h
    rw [← Int32.toInt_inj, ← Int32.toInt_inj, ← Int32.toInt_inj, ← Int32.toInt_inj, ← Int32.toInt_inj]
    have e0 : (0 : Int32).toInt = 0 := rfl
    have e1 : (1 : Int32).toInt = 1 := rfl
    have e2 : (2 : Int32).toInt = 2 := rfl
    have e3 : (3 : Int32).toInt = 3 := rfl
    have e4 : (4 : Int32).toInt = 4 := rfl
    omega
  rcases this with rfl | rfl | rfl | rfl | rfl <;> decide
def seeF (t g b : Int32) : Int32 := ((t >>> (b &&& 31)) &&& 1) + 2 * ((g >>> (b &&& 31)) &&& 1)
def seeT (t b h k : Int32) : Int32 := (t &&& (((1 : Int32) <<< (b &&& 31)) ^^^ -1)) ||| (if h = k then (1 : Int32) <<< (b &&& 31) else 0)
theorem i_or0 (x : Int32) : x ||| 0 = x := by apply Int32.toBitVec_inj.mp; simp
theorem i_and_comm (x y : Int32) : x &&& y = y &&& x := by apply Int32.toBitVec_inj.mp; simp [BitVec.and_comm]
theorem i_andnot {t f : Int32} : (t &&& (f ^^^ -1) = 0) ↔ (f &&& t = t) := by
  rw [← Int32.toBitVec_inj, ← Int32.toBitVec_inj]
  simp only [Int32.toBitVec_and, Int32.toBitVec_xor]
  rw [show (-1 : Int32).toBitVec = BitVec.allOnes 32 from rfl, BitVec.xor_allOnes]
  constructor
  · intro h
    apply BitVec.eq_of_getLsbD_eq
    intro i hi
    have := congrArg (fun q : BitVec 32 => q.getLsbD i) h
    simp at this
    simp
    revert this
    cases t.toBitVec.getLsbD i <;> cases f.toBitVec.getLsbD i <;> simp [hi]
  · intro h
    apply BitVec.eq_of_getLsbD_eq
    intro i hi
    have := congrArg (fun q : BitVec 32 => q.getLsbD i) h
    simp at this
    simp
    revert this
    cases t.toBitVec.getLsbD i <;> cases f.toBitVec.getLsbD i <;> simp [hi]
theorem candM {f t g : Int32} : (t &&& (f ^^^ -1) = 0 ∧ g &&& f = 0) ↔ (f &&& t = t ∧ f &&& g = 0) := by
  rw [i_andnot, i_and_comm g f]
theorem vp_04 {a : Int32} (h : 0 ≤ a ∧ a ≤ 4) : vp_in a 5 := by
  rw [vp_in_iff]
  rw [Int32.le_iff_toInt_le, Int32.le_iff_toInt_le] at h
  have e0 : (0 : Int32).toInt = 0 := rfl
  have e4 : (4 : Int32).toInt = 4 := rfl
  omega
end
section
set_option maxHeartbeats 4000000 in
set_option maxRecDepth 100000 in
theorem ok_X6_isYears {w : wD} (hw : wOK w) (σ : wSt) (a b : Int32)  : MI w yX6_isYears cX6_isYears 2 (some .boolean) 1 22 [.int a, .int b] σ (fun r τ => σ = τ ∧ r = wb (okYY a b)) := by
  refine MI.of hw (by decide +kernel) (Nat.le_of_ble_eq_true rfl) (fun x C hr => ?_)
  suffices key : ∀ Q, Q = QI w x (fun r τ => σ = τ ∧ r = wb (okYY a b)) → G w x 2 Q 0 [(0, .int a), (1, .int b)] [] σ from key _ rfl
  intro Q hQ
  refine G.iload_n C 0 dX6_isYears_0 rfl rfl ?_
  refine G.sipush (v := 1500) C dX6_isYears_1 (by decide) ?_
  refine G.sipush (v := 1900) C dX6_isYears_4 (by decide) ?_
  have hM_0 := ok_X6_in hw σ a 1500 1900
  refine G.callS C none hM_0 dX6_isYears_7 us_X6_in ul_RX6_65 rfl rfl (by decide) (Nat.le_of_ble_eq_true rfl) (fun r_7 τ_7 h_7 => ?_)
  obtain ⟨h_7, e_7⟩ := h_7; subst h_7
  refine G.if_eq (tgt := 28) C dX6_isYears_10 (by decide) (fun c_10 => ?_) (fun c_10 => ?_)
  · have b_7 := wb_0 e_7 c_10
    refine G.iconst (v := 0) C dX6_isYears_28 (by decide) ?_
    subst hQ
    exact G.zret C hr (by rfl) dX6_isYears_29 (by
        exact ⟨rfl, (wb_f (fun q => b_7 q.1)).symm⟩)
  · have b_7 := wb_1 e_7 c_10
    refine G.iload_n C 1 dX6_isYears_13 rfl rfl ?_
    refine G.iload_n C 0 dX6_isYears_14 rfl rfl ?_
    refine G.sipush (v := 1900) C dX6_isYears_15 (by decide) ?_
    have hM_1 := ok_X6_in hw σ b a 1900
    refine G.callS C none hM_1 dX6_isYears_18 us_X6_in ul_RX6_65 rfl rfl (by decide) (Nat.le_of_ble_eq_true rfl) (fun r_18 τ_18 h_18 => ?_)
    obtain ⟨h_18, e_18⟩ := h_18; subst h_18
    refine G.if_eq (tgt := 28) C dX6_isYears_21 (by decide) (fun c_21 => ?_) (fun c_21 => ?_)
    · have b_18 := wb_0 e_18 c_21
      refine G.iconst (v := 0) C dX6_isYears_28 (by decide) ?_
      subst hQ
      exact G.zret C hr (by rfl) dX6_isYears_29 (by
          exact ⟨rfl, (wb_f (fun q => b_18 ⟨q.2.2, q.2.1.2⟩)).symm⟩)
    · have b_18 := wb_1 e_18 c_21
      refine G.iconst (v := 1) C dX6_isYears_24 (by decide) ?_
      refine G.goto (tgt := 29) C dX6_isYears_25 (by decide) ?_
      subst hQ
      exact G.zret C hr (by rfl) dX6_isYears_29 (by
          exact ⟨rfl, (wb_t (yy_of b_7 b_18)).symm⟩)
set_option maxHeartbeats 4000000 in
set_option maxRecDepth 100000 in
theorem ok_X6_bits {w : wD} (hw : wOK w) (σ : wSt) (a : Int32)  : MI w yX6_bits cX6_bits 3 (some .int) 0 0 [.int a] σ (fun r τ => σ = τ ∧ r = pop a) := by
  refine MI.of hw (by decide +kernel) (Nat.le_of_ble_eq_true rfl) (fun x C hr => ?_)
  suffices key : ∀ Q, Q = QI w x (fun r τ => σ = τ ∧ r = pop a) → G w x 3 Q 0 [(0, .int a)] [] σ from key _ rfl
  intro Q hQ
  refine G.iconst (v := 0) C dX6_bits_0 (by decide) ?_
  refine G.istore_n (L1 := [(1, .int 0), (0, .int a)]) C dX6_bits_1 rfl (by decide) rfl ?_
  refine G.iconst (v := 0) C dX6_bits_2 (by decide) ?_
  refine G.istore_n (L1 := [(2, .int 0), (1, .int 0), (0, .int a)]) C dX6_bits_3 rfl (by decide) rfl ?_
  have cut_4 : ∀ (m9 : Nat) (j : Nat) (x2 x1 : Int32), j ≤ 12 → 12 < j + m9 → x2 = nI j → x1 = popU a j → G w x 3 Q 4 [(2, .int x2), (1, .int x1), (0, .int a)] [] σ := by
    intro m9
    induction m9 with
    | zero =>
      intro j x2 x1 hj hm hx2 hx1
      exfalso
      omega
    | succ m9 ih =>
      intro j x2 x1 hj hm hx2 hx1
      subst hx2
      subst hx1
      refine G.iload_n C 0 dX6_bits_4 rfl rfl ?_
      refine G.bipush (v := 12) C dX6_bits_5 (by decide) ?_
      refine G.icmp_ge (tgt := 24) C dX6_bits_7 (by decide) (fun c_7 => ?_) (fun c_7 => ?_)
      · have hjn : j = 12 := by
          rw [show (12 : Int32) = nI 12 from rfl, nI_leI (by decide) (by omega)] at c_7; omega
        refine G.iload_n C 1 dX6_bits_24 rfl rfl ?_
        subst hQ
        exact G.iret C hr dX6_bits_25 (by
            rw [hjn]
            exact ⟨rfl, rfl⟩)
      · have hjn : j < 12 := by
          rw [show (12 : Int32) = nI 12 from rfl, nI_leI (by decide) (by omega)] at c_7; omega
        refine G.iload_n C 1 dX6_bits_10 rfl rfl ?_
        refine G.iload_n C 2 dX6_bits_11 rfl rfl ?_
        refine G.iload_n C 0 dX6_bits_12 rfl rfl ?_
        refine G.ishr C dX6_bits_13 ?_
        refine G.iconst (v := 1) C dX6_bits_14 (by decide) ?_
        refine G.iand C dX6_bits_15 ?_
        refine G.iadd C dX6_bits_16 ?_
        refine G.topi (fun x1_17 ex1_17 => ?_)
        refine G.istore_n (L1 := [(1, .int x1_17), (2, .int (nI j)), (0, .int a)]) C dX6_bits_17 rfl (by decide) rfl ?_
        obtain ⟨x2_18, ex2_18⟩ : ∃ z : Int32, z = (nI j) + 1 := ⟨_, rfl⟩
        refine G.iinc (v := x2_18) (L1 := [(2, .int x2_18), (1, .int x1_17), (0, .int a)]) C 1 dX6_bits_18 rfl (by rw [ex2_18]; rfl) (by decide) rfl ?_
        refine G.goto (tgt := 4) C dX6_bits_21 (by decide) ?_
        refine ih  (j + 1) _ _ ?_ ?_ ?_ ?_
        · omega
        · omega
        · rw [ex2_18]; exact nI_1 j
        · exact ex1_17
  refine cut_4 13 0 _ _ ?_ ?_ ?_ ?_
  · omega
  · omega
  · rfl
  · rfl
set_option maxHeartbeats 4000000 in
set_option maxRecDepth 100000 in
theorem ok_X6_isLeaf {w : wD} (hw : wOK w) (σ : wSt) (a : Int32) {l : Nat} (hl : σ.1 20 0 7 = nI l) (hl20 : l ≤ 20) : MI w yX6_isLeaf cX6_isLeaf 2 (some .boolean) 1 22 [.ref (w.2.2.2.1 20 0), .int a] σ (fun r τ => σ = τ ∧ r = wb (inN (σ.1 20 0 7) a)) := by
  refine MI.of hw (by decide +kernel) (Nat.le_of_ble_eq_true rfl) (fun x C hr => ?_)
  suffices key : ∀ Q, Q = QI w x (fun r τ => σ = τ ∧ r = wb (inN (σ.1 20 0 7) a)) → G w x 2 Q 0 [(0, .ref (w.2.2.2.1 20 0)), (1, .int a)] [] σ from key _ rfl
  intro Q hQ
  refine G.iload_n C 1 dX6_isLeaf_0 rfl rfl ?_
  refine G.iconst (v := 0) C dX6_isLeaf_1 (by decide) ?_
  refine G.aload_n C 0 dX6_isLeaf_2 rfl rfl ?_
  refine G.get (g := 20) (i := 0) C 7 none dX6_isLeaf_3 (by decide) rfl rfl uX_X6 (by decide) uf_RX6_88 rfl rfl ?_
  refine G.iconst (v := 1) C dX6_isLeaf_6 (by decide) ?_
  refine G.isub C dX6_isLeaf_7 ?_
  have hM_0 := ok_X6_in hw σ a 0 ((σ.1 20 0 7) - 1)
  refine G.callS C none hM_0 dX6_isLeaf_8 us_X6_in ul_RX6_65 rfl rfl (by decide) (Nat.le_of_ble_eq_true rfl) (fun r_8 τ_8 h_8 => ?_)
  obtain ⟨h_8, e_8⟩ := h_8; subst h_8
  subst hQ
  exact G.zret C hr (by exact wb_nar e_8) dX6_isLeaf_11 (by
      exact ⟨rfl, e_8.trans (by rw [hl]; exact wb_iff (in_pred (by omega)))⟩)
set_option maxHeartbeats 4000000 in
set_option maxRecDepth 100000 in
theorem ok_X6_isMap {w : wD} (hw : wOK w) (σ : wSt) (a : Int32) {c : Nat} (hc : σ.1 20 0 17 = nI c) (hc8 : c ≤ 8) : MI w yX6_isMap cX6_isMap 2 (some .boolean) 1 22 [.ref (w.2.2.2.1 20 0), .int a] σ (fun r τ => σ = τ ∧ r = wb (inN (σ.1 20 0 17) a)) := by
  refine MI.of hw (by decide +kernel) (Nat.le_of_ble_eq_true rfl) (fun x C hr => ?_)
  suffices key : ∀ Q, Q = QI w x (fun r τ => σ = τ ∧ r = wb (inN (σ.1 20 0 17) a)) → G w x 2 Q 0 [(0, .ref (w.2.2.2.1 20 0)), (1, .int a)] [] σ from key _ rfl
  intro Q hQ
  refine G.iload_n C 1 dX6_isMap_0 rfl rfl ?_
  refine G.iconst (v := 0) C dX6_isMap_1 (by decide) ?_
  refine G.aload_n C 0 dX6_isMap_2 rfl rfl ?_
  refine G.get (g := 20) (i := 0) C 17 none dX6_isMap_3 (by decide) rfl rfl uX_X6 (by decide) uf_RX6_108 rfl rfl ?_
  refine G.iconst (v := 1) C dX6_isMap_6 (by decide) ?_
  refine G.isub C dX6_isMap_7 ?_
  have hM_0 := ok_X6_in hw σ a 0 ((σ.1 20 0 17) - 1)
  refine G.callS C none hM_0 dX6_isMap_8 us_X6_in ul_RX6_65 rfl rfl (by decide) (Nat.le_of_ble_eq_true rfl) (fun r_8 τ_8 h_8 => ?_)
  obtain ⟨h_8, e_8⟩ := h_8; subst h_8
  subst hQ
  exact G.zret C hr (by exact wb_nar e_8) dX6_isMap_11 (by
      exact ⟨rfl, e_8.trans (by rw [hc]; exact wb_iff (in_pred (by omega)))⟩)
set_option maxHeartbeats 4000000 in
set_option maxRecDepth 100000 in
theorem ok_X6_isBook {w : wD} (hw : wOK w) (σ : wSt) (a : Int32)  : MI w yX6_isBook cX6_isBook 1 (some .boolean) 1 22 [.int a] σ (fun r τ => σ = τ ∧ r = wb (0 ≤ a ∧ a < 4)) := by
  refine MI.of hw (by decide +kernel) (Nat.le_of_ble_eq_true rfl) (fun x C hr => ?_)
  suffices key : ∀ Q, Q = QI w x (fun r τ => σ = τ ∧ r = wb (0 ≤ a ∧ a < 4)) → G w x 1 Q 0 [(0, .int a)] [] σ from key _ rfl
  intro Q hQ
  refine G.iload_n C 0 dX6_isBook_0 rfl rfl ?_
  refine G.iconst (v := 0) C dX6_isBook_1 (by decide) ?_
  refine G.iconst (v := 3) C dX6_isBook_2 (by decide) ?_
  have hM_0 := ok_X6_in hw σ a 0 3
  refine G.callS C none hM_0 dX6_isBook_3 us_X6_in ul_RX6_65 rfl rfl (by decide) (Nat.le_of_ble_eq_true rfl) (fun r_3 τ_3 h_3 => ?_)
  obtain ⟨h_3, e_3⟩ := h_3; subst h_3
  subst hQ
  exact G.zret C hr (by exact wb_nar e_3) dX6_isBook_6 (by
      exact ⟨rfl, e_3.trans (wb_iff w_le3)⟩)
set_option maxHeartbeats 4000000 in
set_option maxRecDepth 100000 in
theorem ok_X6_state {w : wD} (hw : wOK w) (σ : wSt) (a b c : Int32) (hz : σ.1 20 0 0 = 0) {n : Nat} (hn : σ.1 20 0 2 = nI n) (h6 : n ≤ 6) : MI w yX6_state cX6_state 4 (some .int) 2 43 [.ref (w.2.2.2.1 20 0), .int a, .int b, .int c] σ (fun r τ => (¬ (rng12 a ∧ okYY b c) ∧ σ = τ ∧ r = -1) ∨ ((rng12 a ∧ okYY b c) ∧ ((6 ≤ n ∧ σ = τ ∧ r = -3) ∨ (n < 6 ∧ wUp (wUp (wUp (wUp σ 21 0 n a) 22 0 n b) 23 0 n c) 20 0 2 (nI (n + 1)) = τ ∧ r = nI n)))) := by
  refine MI.of hw (by decide +kernel) (Nat.le_of_ble_eq_true rfl) (fun x C hr => ?_)
  suffices key : ∀ Q, Q = QI w x (fun r τ => (¬ (rng12 a ∧ okYY b c) ∧ σ = τ ∧ r = -1) ∨ ((rng12 a ∧ okYY b c) ∧ ((6 ≤ n ∧ σ = τ ∧ r = -3) ∨ (n < 6 ∧ wUp (wUp (wUp (wUp σ 21 0 n a) 22 0 n b) 23 0 n c) 20 0 2 (nI (n + 1)) = τ ∧ r = nI n)))) → G w x 4 Q 0 [(0, .ref (w.2.2.2.1 20 0)), (1, .int a), (2, .int b), (3, .int c)] [] σ from key _ rfl
  intro Q hQ
  refine G.aload_n C 0 dX6_state_0 rfl rfl ?_
  refine G.iconst (v := 0) C dX6_state_1 (by decide) ?_
  refine G.put (g := 20) (i := 0) C 0 none dX6_state_2 (by decide) rfl rfl uX_X6 tyX6 tyX6_ok nmX6 (by decide) uf_RX6_61 rfl rfl (by decide +kernel) (Nat.le_of_ble_eq_true rfl) w_up_20_0 ?_
  rw [wUp_id hz]
  refine G.iload_n C 1 dX6_state_5 rfl rfl ?_
  refine G.iconst (v := 0) C dX6_state_6 (by decide) ?_
  refine G.sipush (v := 4095) C dX6_state_7 (by decide) ?_
  have hM_0 := ok_X6_in hw σ a 0 4095
  refine G.callS C none hM_0 dX6_state_10 us_X6_in ul_RX6_65 rfl rfl (by decide) (Nat.le_of_ble_eq_true rfl) (fun r_10 τ_10 h_10 => ?_)
  obtain ⟨h_10, e_10⟩ := h_10; subst h_10
  refine G.if_eq (tgt := 24) C dX6_state_13 (by decide) (fun c_13 => ?_) (fun c_13 => ?_)
  · have b_10 := wb_0 e_10 c_13
    refine G.iconst (v := -1) C dX6_state_24 (by decide) ?_
    subst hQ
    exact G.iret C hr dX6_state_25 (by
        refine Or.inl ⟨fun q => ?_, rfl, rfl⟩
        first | exact b_10 q.1 | exact b_18 q.2)
  · have b_10 := wb_1 e_10 c_13
    refine G.iload_n C 2 dX6_state_16 rfl rfl ?_
    refine G.iload_n C 3 dX6_state_17 rfl rfl ?_
    have hM_1 := ok_X6_isYears hw σ b c
    refine G.callS C none hM_1 dX6_state_18 us_X6_isYears ul_RX6_69 rfl rfl (by decide) (Nat.le_of_ble_eq_true rfl) (fun r_18 τ_18 h_18 => ?_)
    obtain ⟨h_18, e_18⟩ := h_18; subst h_18
    refine G.if_ne (tgt := 26) C dX6_state_21 (by decide) (fun c_21 => ?_) (fun c_21 => ?_)
    · have b_18 := wb_1 e_18 c_21
      refine G.aload_n C 0 dX6_state_26 rfl rfl ?_
      refine G.get (g := 20) (i := 0) C 2 none dX6_state_27 (by decide) rfl rfl uX_X6 (by decide) uf_RX6_73 rfl rfl ?_
      refine G.bipush (v := 6) C dX6_state_30 (by decide) ?_
      refine G.icmp_ne (tgt := 38) C dX6_state_32 (by decide) (fun c_32 => ?_) (fun c_32 => ?_)
      · have hh9 : n < 6 := by
          refine seven (by omega) (fun q => c_32 ?_)
          rw [hn, q]; rfl
        refine G.aload_n C 0 dX6_state_38 rfl rfl ?_
        refine G.get (g := 20) (i := 0) C 3 none dX6_state_39 (by decide) rfl rfl uX_X6 (by decide) uf_RX6_7 rfl rfl ?_
        refine G.aload_n C 0 dX6_state_42 rfl rfl ?_
        refine G.get (g := 20) (i := 0) C 2 none dX6_state_43 (by decide) rfl rfl uX_X6 (by decide) uf_RX6_73 rfl rfl ?_
        refine G.iload_n C 1 dX6_state_46 rfl rfl ?_
        have hin_47 : vp_in (σ.1 20 0 2) 6 := by
          simp only [hn]
          exact vp_in_nI (by omega) (by decide)
        refine G.iast (g := 21) (i := 0) (n := 6) C dX6_state_47 (by decide) rfl hin_47 w_ast_21 ?_
        refine G.aload_n C 0 dX6_state_48 rfl rfl ?_
        refine G.get (g := 20) (i := 0) C 4 none dX6_state_49 (by decide) rfl rfl uX_X6 (by decide) uf_RX6_13 rfl rfl ?_
        refine G.aload_n C 0 dX6_state_52 rfl rfl ?_
        refine G.get (g := 20) (i := 0) C 2 none dX6_state_53 (by decide) rfl rfl uX_X6 (by decide) uf_RX6_73 rfl rfl ?_
        refine G.iload_n C 2 dX6_state_56 rfl rfl ?_
        have hin_57 : vp_in ((wUp σ 21 0 (σ.1 20 0 2).toNatClampNeg a).1 20 0 2) 6 := by
          simp only [wUp_ng (show 20 ≠ 21 by decide), hn]
          exact vp_in_nI (by omega) (by decide)
        refine G.iast (g := 22) (i := 0) (n := 6) C dX6_state_57 (by decide) rfl hin_57 w_ast_22 ?_
        refine G.aload_n C 0 dX6_state_58 rfl rfl ?_
        refine G.get (g := 20) (i := 0) C 5 none dX6_state_59 (by decide) rfl rfl uX_X6 (by decide) uf_RX6_16 rfl rfl ?_
        refine G.aload_n C 0 dX6_state_62 rfl rfl ?_
        refine G.get (g := 20) (i := 0) C 2 none dX6_state_63 (by decide) rfl rfl uX_X6 (by decide) uf_RX6_73 rfl rfl ?_
        refine G.iload_n C 3 dX6_state_66 rfl rfl ?_
        have hin_67 : vp_in ((wUp (wUp σ 21 0 (σ.1 20 0 2).toNatClampNeg a) 22 0 ((wUp σ 21 0 (σ.1 20 0 2).toNatClampNeg a).1 20 0 2).toNatClampNeg b).1 20 0 2) 6 := by
          simp only [wUp_ng (show 20 ≠ 21 by decide), wUp_ng (show 20 ≠ 22 by decide), hn]
          exact vp_in_nI (by omega) (by decide)
        refine G.iast (g := 23) (i := 0) (n := 6) C dX6_state_67 (by decide) rfl hin_67 w_ast_23 ?_
        refine G.aload_n C 0 dX6_state_68 rfl rfl ?_
        refine G.dup C dX6_state_69 rfl ?_
        refine G.get (g := 20) (i := 0) C 2 none dX6_state_70 (by decide) rfl rfl uX_X6 (by decide) uf_RX6_73 rfl rfl ?_
        refine G.iconst (v := 1) C dX6_state_73 (by decide) ?_
        refine G.iadd C dX6_state_74 ?_
        refine G.put (g := 20) (i := 0) C 2 none dX6_state_75 (by decide) rfl rfl uX_X6 tyX6 tyX6_ok nmX6 (by decide) uf_RX6_73 rfl rfl (by decide +kernel) (Nat.le_of_ble_eq_true rfl) w_up_20_2 ?_
        refine G.aload_n C 0 dX6_state_78 rfl rfl ?_
        refine G.get (g := 20) (i := 0) C 2 none dX6_state_79 (by decide) rfl rfl uX_X6 (by decide) uf_RX6_73 rfl rfl ?_
        refine G.iconst (v := 1) C dX6_state_82 (by decide) ?_
        refine G.isub C dX6_state_83 ?_
        subst hQ
        exact G.iret C hr dX6_state_84 (by
            refine Or.inr ⟨⟨b_10, b_18⟩, Or.inr ⟨hh9, ?_, ?_⟩⟩
            · simp only [wUp_ng (show 20 ≠ 21 by decide), wUp_ng (show 20 ≠ 22 by decide), wUp_ng (show 20 ≠ 23 by decide), wUp_eq, hn, nI_clamp (show n < 2 ^ 31 by omega), nI_1, nI_pred]
            · simp only [wUp_ng (show 20 ≠ 21 by decide), wUp_ng (show 20 ≠ 22 by decide), wUp_ng (show 20 ≠ 23 by decide), wUp_eq, hn, nI_clamp (show n < 2 ^ 31 by omega), nI_1, nI_pred])
      · have hh9 : 6 ≤ n := by
          rw [hn, show (6 : Int32) = nI 6 from rfl, nI_eq (by omega) (by decide)] at c_32
          omega
        refine G.bipush (v := -3) C dX6_state_35 (by decide) ?_
        subst hQ
        exact G.iret C hr dX6_state_37 (by
            exact Or.inr ⟨⟨b_10, b_18⟩, Or.inl ⟨hh9, rfl, rfl⟩⟩)
    · have b_18 := wb_0 e_18 c_21
      refine G.iconst (v := -1) C dX6_state_24 (by decide) ?_
      subst hQ
      exact G.iret C hr dX6_state_25 (by
          refine Or.inl ⟨fun q => ?_, rfl, rfl⟩
          first | exact b_10 q.1 | exact b_18 q.2)
set_option maxHeartbeats 4000000 in
set_option maxRecDepth 100000 in
theorem ok_X6_about {w : wD} (hw : wOK w) (σ : wSt) (a b : Int32) (hz : σ.1 20 0 0 = 0) {n : Nat} (hn : σ.1 20 0 2 = nI n) (h6 : n ≤ 6) : MI w yX6_about cX6_about 3 (some .int) 1 22 [.ref (w.2.2.2.1 20 0), .int a, .int b] σ (fun r τ => σ = τ ∧ ((¬ (inN (σ.1 20 0 2) a ∧ 0 ≤ b ∧ b ≤ 2) ∧ r = -1) ∨ ((inN (σ.1 20 0 2) a ∧ 0 ≤ b ∧ b ≤ 2) ∧ r = if b = 0 then σ.1 21 0 a.toNatClampNeg else if b = 1 then σ.1 22 0 a.toNatClampNeg else σ.1 23 0 a.toNatClampNeg))) := by
  refine MI.of hw (by decide +kernel) (Nat.le_of_ble_eq_true rfl) (fun x C hr => ?_)
  suffices key : ∀ Q, Q = QI w x (fun r τ => σ = τ ∧ ((¬ (inN (σ.1 20 0 2) a ∧ 0 ≤ b ∧ b ≤ 2) ∧ r = -1) ∨ ((inN (σ.1 20 0 2) a ∧ 0 ≤ b ∧ b ≤ 2) ∧ r = if b = 0 then σ.1 21 0 a.toNatClampNeg else if b = 1 then σ.1 22 0 a.toNatClampNeg else σ.1 23 0 a.toNatClampNeg))) → G w x 3 Q 0 [(0, .ref (w.2.2.2.1 20 0)), (1, .int a), (2, .int b)] [] σ from key _ rfl
  intro Q hQ
  refine G.aload_n C 0 dX6_about_0 rfl rfl ?_
  refine G.iconst (v := 0) C dX6_about_1 (by decide) ?_
  refine G.put (g := 20) (i := 0) C 0 none dX6_about_2 (by decide) rfl rfl uX_X6 tyX6 tyX6_ok nmX6 (by decide) uf_RX6_61 rfl rfl (by decide +kernel) (Nat.le_of_ble_eq_true rfl) w_up_20_0 ?_
  rw [wUp_id hz]
  refine G.iload_n C 1 dX6_about_5 rfl rfl ?_
  refine G.iconst (v := 0) C dX6_about_6 (by decide) ?_
  refine G.aload_n C 0 dX6_about_7 rfl rfl ?_
  refine G.get (g := 20) (i := 0) C 2 none dX6_about_8 (by decide) rfl rfl uX_X6 (by decide) uf_RX6_73 rfl rfl ?_
  refine G.iconst (v := 1) C dX6_about_11 (by decide) ?_
  refine G.isub C dX6_about_12 ?_
  have hM_0 := ok_X6_in hw σ a 0 ((σ.1 20 0 2) - 1)
  refine G.callS C none hM_0 dX6_about_13 us_X6_in ul_RX6_65 rfl rfl (by decide) (Nat.le_of_ble_eq_true rfl) (fun r_13 τ_13 h_13 => ?_)
  obtain ⟨h_13, e_13⟩ := h_13; subst h_13
  rw [hn] at e_13
  rw [wb_iff (in_pred (by omega))] at e_13
  rw [← hn] at e_13
  refine G.if_eq (tgt := 28) C dX6_about_16 (by decide) (fun c_16 => ?_) (fun c_16 => ?_)
  · have b_13 := wb_0 e_13 c_16
    refine G.iconst (v := -1) C dX6_about_28 (by decide) ?_
    subst hQ
    exact G.iret C hr dX6_about_29 (by
        refine ⟨rfl, Or.inl ⟨fun q => ?_, rfl⟩⟩
        first | exact b_13 q.1 | exact b_22 q.2)
  · have b_13 := wb_1 e_13 c_16
    refine G.iload_n C 2 dX6_about_19 rfl rfl ?_
    refine G.iconst (v := 0) C dX6_about_20 (by decide) ?_
    refine G.iconst (v := 2) C dX6_about_21 (by decide) ?_
    have hM_1 := ok_X6_in hw σ b 0 2
    refine G.callS C none hM_1 dX6_about_22 us_X6_in ul_RX6_65 rfl rfl (by decide) (Nat.le_of_ble_eq_true rfl) (fun r_22 τ_22 h_22 => ?_)
    obtain ⟨h_22, e_22⟩ := h_22; subst h_22
    refine G.if_ne (tgt := 30) C dX6_about_25 (by decide) (fun c_25 => ?_) (fun c_25 => ?_)
    · have b_22 := wb_1 e_22 c_25
      refine G.iload_n C 2 dX6_about_30 rfl rfl ?_
      refine G.if_ne (tgt := 43) C dX6_about_31 (by decide) (fun c_31 => ?_) (fun c_31 => ?_)
      · refine G.iload_n C 2 dX6_about_43 rfl rfl ?_
        refine G.iconst (v := 1) C dX6_about_44 (by decide) ?_
        refine G.icmp_ne (tgt := 57) C dX6_about_45 (by decide) (fun c_45 => ?_) (fun c_45 => ?_)
        · refine G.aload_n C 0 dX6_about_57 rfl rfl ?_
          refine G.get (g := 20) (i := 0) C 5 none dX6_about_58 (by decide) rfl rfl uX_X6 (by decide) uf_RX6_16 rfl rfl ?_
          refine G.iload_n C 1 dX6_about_61 rfl rfl ?_
          have hin_62 : vp_in a 6 := by
            exact vp_ofc b_13 hn h6 (by decide)
          refine G.iald (g := 23) (i := 0) (n := 6) C dX6_about_62 (by decide) rfl hin_62 ?_
          subst hQ
          exact G.iret C hr dX6_about_63 (by
              refine ⟨rfl, Or.inr ⟨⟨b_13, b_22⟩, ?_⟩⟩
              rw [if_neg c_31, if_neg c_45])
        · refine G.aload_n C 0 dX6_about_48 rfl rfl ?_
          refine G.get (g := 20) (i := 0) C 4 none dX6_about_49 (by decide) rfl rfl uX_X6 (by decide) uf_RX6_13 rfl rfl ?_
          refine G.iload_n C 1 dX6_about_52 rfl rfl ?_
          have hin_53 : vp_in a 6 := by
            exact vp_ofc b_13 hn h6 (by decide)
          refine G.iald (g := 22) (i := 0) (n := 6) C dX6_about_53 (by decide) rfl hin_53 ?_
          refine G.goto (tgt := 63) C dX6_about_54 (by decide) ?_
          subst hQ
          exact G.iret C hr dX6_about_63 (by
              refine ⟨rfl, Or.inr ⟨⟨b_13, b_22⟩, ?_⟩⟩
              rw [if_neg c_31, if_pos c_45])
      · refine G.aload_n C 0 dX6_about_34 rfl rfl ?_
        refine G.get (g := 20) (i := 0) C 3 none dX6_about_35 (by decide) rfl rfl uX_X6 (by decide) uf_RX6_7 rfl rfl ?_
        refine G.iload_n C 1 dX6_about_38 rfl rfl ?_
        have hin_39 : vp_in a 6 := by
          exact vp_ofc b_13 hn h6 (by decide)
        refine G.iald (g := 21) (i := 0) (n := 6) C dX6_about_39 (by decide) rfl hin_39 ?_
        refine G.goto (tgt := 63) C dX6_about_40 (by decide) ?_
        subst hQ
        exact G.iret C hr dX6_about_63 (by
            refine ⟨rfl, Or.inr ⟨⟨b_13, b_22⟩, ?_⟩⟩
            rw [if_pos c_31])
    · have b_22 := wb_0 e_22 c_25
      refine G.iconst (v := -1) C dX6_about_28 (by decide) ?_
      subst hQ
      exact G.iret C hr dX6_about_29 (by
          refine ⟨rfl, Or.inl ⟨fun q => ?_, rfl⟩⟩
          first | exact b_13 q.1 | exact b_22 q.2)
set_option maxHeartbeats 4000000 in
set_option maxRecDepth 100000 in
theorem ok_X6_set {w : wD} (hw : wOK w) (σ : wSt) (a b : Int32) (hz : σ.1 20 0 0 = 0) : MI w yX6_set cX6_set 4 (some .int) 1 22 [.ref (w.2.2.2.1 20 0), .int a, .int b] σ (fun r τ => (¬ (0 ≤ b ∧ b ≤ mostC a) ∧ σ = τ ∧ r = -1) ∨ ((0 ≤ b ∧ b ≤ mostC a) ∧ (0 ≤ a ∧ a ≤ 4) ∧ wUp σ 24 0 a.toNatClampNeg b = τ ∧ r = σ.1 24 0 a.toNatClampNeg)) := by
  refine MI.of hw (by decide +kernel) (Nat.le_of_ble_eq_true rfl) (fun x C hr => ?_)
  suffices key : ∀ Q, Q = QI w x (fun r τ => (¬ (0 ≤ b ∧ b ≤ mostC a) ∧ σ = τ ∧ r = -1) ∨ ((0 ≤ b ∧ b ≤ mostC a) ∧ (0 ≤ a ∧ a ≤ 4) ∧ wUp σ 24 0 a.toNatClampNeg b = τ ∧ r = σ.1 24 0 a.toNatClampNeg)) → G w x 4 Q 0 [(0, .ref (w.2.2.2.1 20 0)), (1, .int a), (2, .int b)] [] σ from key _ rfl
  intro Q hQ
  refine G.aload_n C 0 dX6_set_0 rfl rfl ?_
  refine G.iconst (v := 0) C dX6_set_1 (by decide) ?_
  refine G.put (g := 20) (i := 0) C 0 none dX6_set_2 (by decide) rfl rfl uX_X6 tyX6 tyX6_ok nmX6 (by decide) uf_RX6_61 rfl rfl (by decide +kernel) (Nat.le_of_ble_eq_true rfl) w_up_20_0 ?_
  rw [wUp_id hz]
  refine G.iload_n C 1 dX6_set_5 rfl rfl ?_
  refine G.iconst (v := 0) C dX6_set_6 (by decide) ?_
  refine G.iconst (v := 4) C dX6_set_7 (by decide) ?_
  have hM_0 := ok_X6_in hw σ a 0 4
  refine G.callS C none hM_0 dX6_set_8 us_X6_in ul_RX6_65 rfl rfl (by decide) (Nat.le_of_ble_eq_true rfl) (fun r_8 τ_8 h_8 => ?_)
  obtain ⟨h_8, e_8⟩ := h_8; subst h_8
  refine G.if_eq (tgt := 44) C dX6_set_11 (by decide) (fun c_11 => ?_) (fun c_11 => ?_)
  · have b_8 := wb_0 e_8 c_11
    refine G.iconst (v := -1) C dX6_set_44 (by decide) ?_
    subst hQ
    exact G.iret C hr dX6_set_45 (by
        refine Or.inl ⟨fun q => ?_, rfl, rfl⟩
        exact b_8 (mostC_in q.1 q.2))
  · have b_8 := wb_1 e_8 c_11
    refine G.iload_n C 2 dX6_set_14 rfl rfl ?_
    refine G.iconst (v := 0) C dX6_set_15 (by decide) ?_
    refine G.iload_n C 1 dX6_set_16 rfl rfl ?_
    refine G.iconst (v := 2) C dX6_set_17 (by decide) ?_
    refine G.icmp_ne (tgt := 26) C dX6_set_18 (by decide) (fun c_18 => ?_) (fun c_18 => ?_)
    · refine G.iload_n C 1 dX6_set_26 rfl rfl ?_
      refine G.iconst (v := 4) C dX6_set_27 (by decide) ?_
      refine G.icmp_ne (tgt := 36) C dX6_set_28 (by decide) (fun c_28 => ?_) (fun c_28 => ?_)
      · refine G.bipush (v := 9) C dX6_set_36 (by decide) ?_
        have hM_1 := ok_X6_in hw σ b 0 9
        refine G.callS C none hM_1 dX6_set_38 us_X6_in ul_RX6_65 rfl rfl (by decide) (Nat.le_of_ble_eq_true rfl) (fun r_38 τ_38 h_38 => ?_)
        obtain ⟨h_38, e_38⟩ := h_38; subst h_38
        refine G.if_ne (tgt := 46) C dX6_set_41 (by decide) (fun c_41 => ?_) (fun c_41 => ?_)
        · have b_38 := wb_1 e_38 c_41
          refine G.aload_n C 0 dX6_set_46 rfl rfl ?_
          refine G.get (g := 20) (i := 0) C 6 none dX6_set_47 (by decide) rfl rfl uX_X6 (by decide) uf_RX6_19 rfl rfl ?_
          refine G.iload_n C 1 dX6_set_50 rfl rfl ?_
          have hin_51 : vp_in a 5 := by
            exact vp_04 b_8
          refine G.iald (g := 24) (i := 0) (n := 5) C dX6_set_51 (by decide) rfl hin_51 ?_
          refine G.topi (fun x3_52 ex3_52 => ?_)
          refine G.istore_n (L1 := [(3, .int x3_52), (0, .ref (w.2.2.2.1 20 0)), (1, .int a), (2, .int b)]) C dX6_set_52 rfl (by decide) rfl ?_
          refine G.aload_n C 1 dX6_set_53 rfl rfl ?_
          refine G.get (g := 20) (i := 0) C 6 none dX6_set_54 (by decide) rfl rfl uX_X6 (by decide) uf_RX6_19 rfl rfl ?_
          refine G.iload_n C 2 dX6_set_57 rfl rfl ?_
          refine G.iload_n C 3 dX6_set_58 rfl rfl ?_
          have hin_59 : vp_in a 5 := by
            exact vp_04 b_8
          refine G.iast (g := 24) (i := 0) (n := 5) C dX6_set_59 (by decide) rfl hin_59 w_ast_24 ?_
          refine G.iload_n C 0 dX6_set_60 rfl rfl ?_
          subst hQ
          exact G.iret C hr dX6_set_61 (by
              refine Or.inr ⟨?_, b_8, rfl, ex3_52⟩
              rw [mostM b_8, if_neg c_18, if_neg c_28]
              exact b_38)
        · have b_38 := wb_0 e_38 c_41
          refine G.iconst (v := -1) C dX6_set_44 (by decide) ?_
          subst hQ
          exact G.iret C hr dX6_set_45 (by
              refine Or.inl ⟨fun q => ?_, rfl, rfl⟩
              rw [mostM b_8] at q
              rw [if_neg c_18, if_neg c_28] at q
              exact b_38 q)
      · refine G.bipush (v := 20) C dX6_set_31 (by decide) ?_
        refine G.goto (tgt := 38) C dX6_set_33 (by decide) ?_
        have hM_2 := ok_X6_in hw σ b 0 20
        refine G.callS C none hM_2 dX6_set_38 us_X6_in ul_RX6_65 rfl rfl (by decide) (Nat.le_of_ble_eq_true rfl) (fun r_38 τ_38 h_38 => ?_)
        obtain ⟨h_38, e_38⟩ := h_38; subst h_38
        refine G.if_ne (tgt := 46) C dX6_set_41 (by decide) (fun c_41 => ?_) (fun c_41 => ?_)
        · have b_38 := wb_1 e_38 c_41
          refine G.aload_n C 0 dX6_set_46 rfl rfl ?_
          refine G.get (g := 20) (i := 0) C 6 none dX6_set_47 (by decide) rfl rfl uX_X6 (by decide) uf_RX6_19 rfl rfl ?_
          refine G.iload_n C 1 dX6_set_50 rfl rfl ?_
          have hin_51 : vp_in a 5 := by
            exact vp_04 b_8
          refine G.iald (g := 24) (i := 0) (n := 5) C dX6_set_51 (by decide) rfl hin_51 ?_
          refine G.topi (fun x3_52 ex3_52 => ?_)
          refine G.istore_n (L1 := [(3, .int x3_52), (0, .ref (w.2.2.2.1 20 0)), (1, .int a), (2, .int b)]) C dX6_set_52 rfl (by decide) rfl ?_
          refine G.aload_n C 1 dX6_set_53 rfl rfl ?_
          refine G.get (g := 20) (i := 0) C 6 none dX6_set_54 (by decide) rfl rfl uX_X6 (by decide) uf_RX6_19 rfl rfl ?_
          refine G.iload_n C 2 dX6_set_57 rfl rfl ?_
          refine G.iload_n C 3 dX6_set_58 rfl rfl ?_
          have hin_59 : vp_in a 5 := by
            exact vp_04 b_8
          refine G.iast (g := 24) (i := 0) (n := 5) C dX6_set_59 (by decide) rfl hin_59 w_ast_24 ?_
          refine G.iload_n C 0 dX6_set_60 rfl rfl ?_
          subst hQ
          exact G.iret C hr dX6_set_61 (by
              refine Or.inr ⟨?_, b_8, rfl, ex3_52⟩
              rw [mostM b_8, if_neg c_18, if_pos c_28]
              exact b_38)
        · have b_38 := wb_0 e_38 c_41
          refine G.iconst (v := -1) C dX6_set_44 (by decide) ?_
          subst hQ
          exact G.iret C hr dX6_set_45 (by
              refine Or.inl ⟨fun q => ?_, rfl, rfl⟩
              rw [mostM b_8] at q
              rw [if_neg c_18, if_pos c_28] at q
              exact b_38 q)
    · refine G.bipush (v := 50) C dX6_set_21 (by decide) ?_
      refine G.goto (tgt := 38) C dX6_set_23 (by decide) ?_
      have hM_3 := ok_X6_in hw σ b 0 50
      refine G.callS C none hM_3 dX6_set_38 us_X6_in ul_RX6_65 rfl rfl (by decide) (Nat.le_of_ble_eq_true rfl) (fun r_38 τ_38 h_38 => ?_)
      obtain ⟨h_38, e_38⟩ := h_38; subst h_38
      refine G.if_ne (tgt := 46) C dX6_set_41 (by decide) (fun c_41 => ?_) (fun c_41 => ?_)
      · have b_38 := wb_1 e_38 c_41
        refine G.aload_n C 0 dX6_set_46 rfl rfl ?_
        refine G.get (g := 20) (i := 0) C 6 none dX6_set_47 (by decide) rfl rfl uX_X6 (by decide) uf_RX6_19 rfl rfl ?_
        refine G.iload_n C 1 dX6_set_50 rfl rfl ?_
        have hin_51 : vp_in a 5 := by
          exact vp_04 b_8
        refine G.iald (g := 24) (i := 0) (n := 5) C dX6_set_51 (by decide) rfl hin_51 ?_
        refine G.topi (fun x3_52 ex3_52 => ?_)
        refine G.istore_n (L1 := [(3, .int x3_52), (0, .ref (w.2.2.2.1 20 0)), (1, .int a), (2, .int b)]) C dX6_set_52 rfl (by decide) rfl ?_
        refine G.aload_n C 1 dX6_set_53 rfl rfl ?_
        refine G.get (g := 20) (i := 0) C 6 none dX6_set_54 (by decide) rfl rfl uX_X6 (by decide) uf_RX6_19 rfl rfl ?_
        refine G.iload_n C 2 dX6_set_57 rfl rfl ?_
        refine G.iload_n C 3 dX6_set_58 rfl rfl ?_
        have hin_59 : vp_in a 5 := by
          exact vp_04 b_8
        refine G.iast (g := 24) (i := 0) (n := 5) C dX6_set_59 (by decide) rfl hin_59 w_ast_24 ?_
        refine G.iload_n C 0 dX6_set_60 rfl rfl ?_
        subst hQ
        exact G.iret C hr dX6_set_61 (by
            refine Or.inr ⟨?_, b_8, rfl, ex3_52⟩
            rw [mostM b_8, if_pos c_18]
            exact b_38)
      · have b_38 := wb_0 e_38 c_41
        refine G.iconst (v := -1) C dX6_set_44 (by decide) ?_
        subst hQ
        exact G.iret C hr dX6_set_45 (by
            refine Or.inl ⟨fun q => ?_, rfl, rfl⟩
            rw [mostM b_8] at q
            rw [if_pos c_18] at q
            exact b_38 q)
set_option maxHeartbeats 4000000 in
set_option maxRecDepth 100000 in
theorem ok_X6_leaf {w : wD} (hw : wOK w) (σ : wSt) (a b c d : Int32) (hz : σ.1 20 0 0 = 0) {l : Nat} (hl : σ.1 20 0 7 = nI l) (hl20 : l ≤ 20) : MI w yX6_leaf cX6_leaf 5 (some .int) 1 22 [.ref (w.2.2.2.1 20 0), .int a, .int b, .int c, .int d] σ (fun r τ => (¬ okLeaf a b c d ∧ σ = τ ∧ r = -1) ∨ (okLeaf a b c d ∧ 20 ≤ l ∧ σ = τ ∧ r = -3) ∨ (okLeaf a b c d ∧ l < 20 ∧ wUp (wUp (wUp (wUp (wUp (wUp (wUp σ 25 0 l a) 26 0 l b) 27 0 l c) 28 0 l d) 29 0 l (-9)) 30 0 l (-9)) 20 0 7 (nI (l + 1)) = τ ∧ r = nI l)) := by
  refine MI.of hw (by decide +kernel) (Nat.le_of_ble_eq_true rfl) (fun x C hr => ?_)
  suffices key : ∀ Q, Q = QI w x (fun r τ => (¬ okLeaf a b c d ∧ σ = τ ∧ r = -1) ∨ (okLeaf a b c d ∧ 20 ≤ l ∧ σ = τ ∧ r = -3) ∨ (okLeaf a b c d ∧ l < 20 ∧ wUp (wUp (wUp (wUp (wUp (wUp (wUp σ 25 0 l a) 26 0 l b) 27 0 l c) 28 0 l d) 29 0 l (-9)) 30 0 l (-9)) 20 0 7 (nI (l + 1)) = τ ∧ r = nI l)) → G w x 5 Q 0 [(0, .ref (w.2.2.2.1 20 0)), (1, .int a), (2, .int b), (3, .int c), (4, .int d)] [] σ from key _ rfl
  intro Q hQ
  refine G.aload_n C 0 dX6_leaf_0 rfl rfl ?_
  refine G.iconst (v := 0) C dX6_leaf_1 (by decide) ?_
  refine G.put (g := 20) (i := 0) C 0 none dX6_leaf_2 (by decide) rfl rfl uX_X6 tyX6 tyX6_ok nmX6 (by decide) uf_RX6_61 rfl rfl (by decide +kernel) (Nat.le_of_ble_eq_true rfl) w_up_20_0 ?_
  rw [wUp_id hz]
  refine G.iload_n C 1 dX6_leaf_5 rfl rfl ?_
  refine G.iconst (v := 0) C dX6_leaf_6 (by decide) ?_
  refine G.sipush (v := 4095) C dX6_leaf_7 (by decide) ?_
  have hM_0 := ok_X6_in hw σ a 0 4095
  refine G.callS C none hM_0 dX6_leaf_10 us_X6_in ul_RX6_65 rfl rfl (by decide) (Nat.le_of_ble_eq_true rfl) (fun r_10 τ_10 h_10 => ?_)
  obtain ⟨h_10, e_10⟩ := h_10; subst h_10
  refine G.if_eq (tgt := 54) C dX6_leaf_13 (by decide) (fun c_13 => ?_) (fun c_13 => ?_)
  · have b_10 := wb_0 e_10 c_13
    refine G.iconst (v := -1) C dX6_leaf_54 (by decide) ?_
    subst hQ
    exact G.iret C hr dX6_leaf_55 (by
        refine Or.inl ⟨fun q => ?_, rfl, rfl⟩
        obtain ⟨q1, q2, q3, q4, q5⟩ := q
        first | exact b_10 q1 | exact b_21 q2 | exact c_30 q3 | exact b_38 q4 | exact b_48 q5)
  · have b_10 := wb_1 e_10 c_13
    refine G.iload_n C 2 dX6_leaf_16 rfl rfl ?_
    refine G.iconst (v := 0) C dX6_leaf_17 (by decide) ?_
    refine G.sipush (v := 4095) C dX6_leaf_18 (by decide) ?_
    have hM_1 := ok_X6_in hw σ b 0 4095
    refine G.callS C none hM_1 dX6_leaf_21 us_X6_in ul_RX6_65 rfl rfl (by decide) (Nat.le_of_ble_eq_true rfl) (fun r_21 τ_21 h_21 => ?_)
    obtain ⟨h_21, e_21⟩ := h_21; subst h_21
    refine G.if_eq (tgt := 54) C dX6_leaf_24 (by decide) (fun c_24 => ?_) (fun c_24 => ?_)
    · have b_21 := wb_0 e_21 c_24
      refine G.iconst (v := -1) C dX6_leaf_54 (by decide) ?_
      subst hQ
      exact G.iret C hr dX6_leaf_55 (by
          refine Or.inl ⟨fun q => ?_, rfl, rfl⟩
          obtain ⟨q1, q2, q3, q4, q5⟩ := q
          first | exact b_10 q1 | exact b_21 q2 | exact c_30 q3 | exact b_38 q4 | exact b_48 q5)
    · have b_21 := wb_1 e_21 c_24
      refine G.iload_n C 1 dX6_leaf_27 rfl rfl ?_
      refine G.iload_n C 2 dX6_leaf_28 rfl rfl ?_
      refine G.iand C dX6_leaf_29 ?_
      refine G.if_ne (tgt := 54) C dX6_leaf_30 (by decide) (fun c_30 => ?_) (fun c_30 => ?_)
      · refine G.iconst (v := -1) C dX6_leaf_54 (by decide) ?_
        subst hQ
        exact G.iret C hr dX6_leaf_55 (by
            refine Or.inl ⟨fun q => ?_, rfl, rfl⟩
            obtain ⟨q1, q2, q3, q4, q5⟩ := q
            first | exact b_10 q1 | exact b_21 q2 | exact c_30 q3 | exact b_38 q4 | exact b_48 q5)
      · refine G.iload_n C 3 dX6_leaf_33 rfl rfl ?_
        refine G.iconst (v := 0) C dX6_leaf_34 (by decide) ?_
        refine G.sipush (v := 1000) C dX6_leaf_35 (by decide) ?_
        have hM_2 := ok_X6_in hw σ c 0 1000
        refine G.callS C none hM_2 dX6_leaf_38 us_X6_in ul_RX6_65 rfl rfl (by decide) (Nat.le_of_ble_eq_true rfl) (fun r_38 τ_38 h_38 => ?_)
        obtain ⟨h_38, e_38⟩ := h_38; subst h_38
        refine G.if_eq (tgt := 54) C dX6_leaf_41 (by decide) (fun c_41 => ?_) (fun c_41 => ?_)
        · have b_38 := wb_0 e_38 c_41
          refine G.iconst (v := -1) C dX6_leaf_54 (by decide) ?_
          subst hQ
          exact G.iret C hr dX6_leaf_55 (by
              refine Or.inl ⟨fun q => ?_, rfl, rfl⟩
              obtain ⟨q1, q2, q3, q4, q5⟩ := q
              first | exact b_10 q1 | exact b_21 q2 | exact c_30 q3 | exact b_38 q4 | exact b_48 q5)
        · have b_38 := wb_1 e_38 c_41
          refine G.iload C 4 dX6_leaf_44 rfl ?_
          refine G.iconst (v := 0) C dX6_leaf_46 (by decide) ?_
          refine G.iconst (v := 2) C dX6_leaf_47 (by decide) ?_
          have hM_3 := ok_X6_in hw σ d 0 2
          refine G.callS C none hM_3 dX6_leaf_48 us_X6_in ul_RX6_65 rfl rfl (by decide) (Nat.le_of_ble_eq_true rfl) (fun r_48 τ_48 h_48 => ?_)
          obtain ⟨h_48, e_48⟩ := h_48; subst h_48
          refine G.if_ne (tgt := 56) C dX6_leaf_51 (by decide) (fun c_51 => ?_) (fun c_51 => ?_)
          · have b_48 := wb_1 e_48 c_51
            have hok : okLeaf a b c d := ⟨b_10, b_21, c_30, b_38, b_48⟩
            refine G.aload_n C 0 dX6_leaf_56 rfl rfl ?_
            refine G.get (g := 20) (i := 0) C 7 none dX6_leaf_57 (by decide) rfl rfl uX_X6 (by decide) uf_RX6_88 rfl rfl ?_
            refine G.bipush (v := 20) C dX6_leaf_60 (by decide) ?_
            refine G.icmp_ne (tgt := 68) C dX6_leaf_62 (by decide) (fun c_62 => ?_) (fun c_62 => ?_)
            · have hh9 : l < 20 := by
                refine seven (by omega) (fun q => c_62 ?_)
                rw [hl, q]; rfl
              refine G.aload_n C 0 dX6_leaf_68 rfl rfl ?_
              refine G.get (g := 20) (i := 0) C 8 none dX6_leaf_69 (by decide) rfl rfl uX_X6 (by decide) uf_RX6_22 rfl rfl ?_
              refine G.aload_n C 0 dX6_leaf_72 rfl rfl ?_
              refine G.get (g := 20) (i := 0) C 7 none dX6_leaf_73 (by decide) rfl rfl uX_X6 (by decide) uf_RX6_88 rfl rfl ?_
              refine G.iload_n C 1 dX6_leaf_76 rfl rfl ?_
              have hin_77 : vp_in (σ.1 20 0 7) 20 := by
                simp only [hl]
                exact vp_in_nI (by omega) (by decide)
              refine G.iast (g := 25) (i := 0) (n := 20) C dX6_leaf_77 (by decide) rfl hin_77 w_ast_25 ?_
              refine G.aload_n C 0 dX6_leaf_78 rfl rfl ?_
              refine G.get (g := 20) (i := 0) C 9 none dX6_leaf_79 (by decide) rfl rfl uX_X6 (by decide) uf_RX6_25 rfl rfl ?_
              refine G.aload_n C 0 dX6_leaf_82 rfl rfl ?_
              refine G.get (g := 20) (i := 0) C 7 none dX6_leaf_83 (by decide) rfl rfl uX_X6 (by decide) uf_RX6_88 rfl rfl ?_
              refine G.iload_n C 2 dX6_leaf_86 rfl rfl ?_
              have hin_87 : vp_in ((wUp σ 25 0 (σ.1 20 0 7).toNatClampNeg a).1 20 0 7) 20 := by
                simp only [wUp_ng (show 20 ≠ 25 by decide), hl]
                exact vp_in_nI (by omega) (by decide)
              refine G.iast (g := 26) (i := 0) (n := 20) C dX6_leaf_87 (by decide) rfl hin_87 w_ast_26 ?_
              refine G.aload_n C 0 dX6_leaf_88 rfl rfl ?_
              refine G.get (g := 20) (i := 0) C 10 none dX6_leaf_89 (by decide) rfl rfl uX_X6 (by decide) uf_RX6_28 rfl rfl ?_
              refine G.aload_n C 0 dX6_leaf_92 rfl rfl ?_
              refine G.get (g := 20) (i := 0) C 7 none dX6_leaf_93 (by decide) rfl rfl uX_X6 (by decide) uf_RX6_88 rfl rfl ?_
              refine G.iload_n C 3 dX6_leaf_96 rfl rfl ?_
              have hin_97 : vp_in ((wUp (wUp σ 25 0 (σ.1 20 0 7).toNatClampNeg a) 26 0 ((wUp σ 25 0 (σ.1 20 0 7).toNatClampNeg a).1 20 0 7).toNatClampNeg b).1 20 0 7) 20 := by
                simp only [wUp_ng (show 20 ≠ 25 by decide), wUp_ng (show 20 ≠ 26 by decide), hl]
                exact vp_in_nI (by omega) (by decide)
              refine G.iast (g := 27) (i := 0) (n := 20) C dX6_leaf_97 (by decide) rfl hin_97 w_ast_27 ?_
              refine G.aload_n C 0 dX6_leaf_98 rfl rfl ?_
              refine G.get (g := 20) (i := 0) C 11 none dX6_leaf_99 (by decide) rfl rfl uX_X6 (by decide) uf_RX6_31 rfl rfl ?_
              refine G.aload_n C 0 dX6_leaf_102 rfl rfl ?_
              refine G.get (g := 20) (i := 0) C 7 none dX6_leaf_103 (by decide) rfl rfl uX_X6 (by decide) uf_RX6_88 rfl rfl ?_
              refine G.iload C 4 dX6_leaf_106 rfl ?_
              have hin_108 : vp_in ((wUp (wUp (wUp σ 25 0 (σ.1 20 0 7).toNatClampNeg a) 26 0 ((wUp σ 25 0 (σ.1 20 0 7).toNatClampNeg a).1 20 0 7).toNatClampNeg b) 27 0 ((wUp (wUp σ 25 0 (σ.1 20 0 7).toNatClampNeg a) 26 0 ((wUp σ 25 0 (σ.1 20 0 7).toNatClampNeg a).1 20 0 7).toNatClampNeg b).1 20 0 7).toNatClampNeg c).1 20 0 7) 20 := by
                simp only [wUp_ng (show 20 ≠ 25 by decide), wUp_ng (show 20 ≠ 26 by decide), wUp_ng (show 20 ≠ 27 by decide), hl]
                exact vp_in_nI (by omega) (by decide)
              refine G.iast (g := 28) (i := 0) (n := 20) C dX6_leaf_108 (by decide) rfl hin_108 w_ast_28 ?_
              refine G.aload_n C 0 dX6_leaf_109 rfl rfl ?_
              refine G.get (g := 20) (i := 0) C 12 none dX6_leaf_110 (by decide) rfl rfl uX_X6 (by decide) uf_RX6_34 rfl rfl ?_
              refine G.aload_n C 0 dX6_leaf_113 rfl rfl ?_
              refine G.get (g := 20) (i := 0) C 7 none dX6_leaf_114 (by decide) rfl rfl uX_X6 (by decide) uf_RX6_88 rfl rfl ?_
              refine G.bipush (v := -9) C dX6_leaf_117 (by decide) ?_
              have hin_119 : vp_in ((wUp (wUp (wUp (wUp σ 25 0 (σ.1 20 0 7).toNatClampNeg a) 26 0 ((wUp σ 25 0 (σ.1 20 0 7).toNatClampNeg a).1 20 0 7).toNatClampNeg b) 27 0 ((wUp (wUp σ 25 0 (σ.1 20 0 7).toNatClampNeg a) 26 0 ((wUp σ 25 0 (σ.1 20 0 7).toNatClampNeg a).1 20 0 7).toNatClampNeg b).1 20 0 7).toNatClampNeg c) 28 0 ((wUp (wUp (wUp σ 25 0 (σ.1 20 0 7).toNatClampNeg a) 26 0 ((wUp σ 25 0 (σ.1 20 0 7).toNatClampNeg a).1 20 0 7).toNatClampNeg b) 27 0 ((wUp (wUp σ 25 0 (σ.1 20 0 7).toNatClampNeg a) 26 0 ((wUp σ 25 0 (σ.1 20 0 7).toNatClampNeg a).1 20 0 7).toNatClampNeg b).1 20 0 7).toNatClampNeg c).1 20 0 7).toNatClampNeg d).1 20 0 7) 20 := by
                simp only [wUp_ng (show 20 ≠ 25 by decide), wUp_ng (show 20 ≠ 26 by decide), wUp_ng (show 20 ≠ 27 by decide), wUp_ng (show 20 ≠ 28 by decide), hl]
                exact vp_in_nI (by omega) (by decide)
              refine G.iast (g := 29) (i := 0) (n := 20) C dX6_leaf_119 (by decide) rfl hin_119 w_ast_29 ?_
              refine G.aload_n C 0 dX6_leaf_120 rfl rfl ?_
              refine G.get (g := 20) (i := 0) C 13 none dX6_leaf_121 (by decide) rfl rfl uX_X6 (by decide) uf_RX6_37 rfl rfl ?_
              refine G.aload_n C 0 dX6_leaf_124 rfl rfl ?_
              refine G.get (g := 20) (i := 0) C 7 none dX6_leaf_125 (by decide) rfl rfl uX_X6 (by decide) uf_RX6_88 rfl rfl ?_
              refine G.bipush (v := -9) C dX6_leaf_128 (by decide) ?_
              have hin_130 : vp_in ((wUp (wUp (wUp (wUp (wUp σ 25 0 (σ.1 20 0 7).toNatClampNeg a) 26 0 ((wUp σ 25 0 (σ.1 20 0 7).toNatClampNeg a).1 20 0 7).toNatClampNeg b) 27 0 ((wUp (wUp σ 25 0 (σ.1 20 0 7).toNatClampNeg a) 26 0 ((wUp σ 25 0 (σ.1 20 0 7).toNatClampNeg a).1 20 0 7).toNatClampNeg b).1 20 0 7).toNatClampNeg c) 28 0 ((wUp (wUp (wUp σ 25 0 (σ.1 20 0 7).toNatClampNeg a) 26 0 ((wUp σ 25 0 (σ.1 20 0 7).toNatClampNeg a).1 20 0 7).toNatClampNeg b) 27 0 ((wUp (wUp σ 25 0 (σ.1 20 0 7).toNatClampNeg a) 26 0 ((wUp σ 25 0 (σ.1 20 0 7).toNatClampNeg a).1 20 0 7).toNatClampNeg b).1 20 0 7).toNatClampNeg c).1 20 0 7).toNatClampNeg d) 29 0 ((wUp (wUp (wUp (wUp σ 25 0 (σ.1 20 0 7).toNatClampNeg a) 26 0 ((wUp σ 25 0 (σ.1 20 0 7).toNatClampNeg a).1 20 0 7).toNatClampNeg b) 27 0 ((wUp (wUp σ 25 0 (σ.1 20 0 7).toNatClampNeg a) 26 0 ((wUp σ 25 0 (σ.1 20 0 7).toNatClampNeg a).1 20 0 7).toNatClampNeg b).1 20 0 7).toNatClampNeg c) 28 0 ((wUp (wUp (wUp σ 25 0 (σ.1 20 0 7).toNatClampNeg a) 26 0 ((wUp σ 25 0 (σ.1 20 0 7).toNatClampNeg a).1 20 0 7).toNatClampNeg b) 27 0 ((wUp (wUp σ 25 0 (σ.1 20 0 7).toNatClampNeg a) 26 0 ((wUp σ 25 0 (σ.1 20 0 7).toNatClampNeg a).1 20 0 7).toNatClampNeg b).1 20 0 7).toNatClampNeg c).1 20 0 7).toNatClampNeg d).1 20 0 7).toNatClampNeg (-9)).1 20 0 7) 20 := by
                simp only [wUp_ng (show 20 ≠ 25 by decide), wUp_ng (show 20 ≠ 26 by decide), wUp_ng (show 20 ≠ 27 by decide), wUp_ng (show 20 ≠ 28 by decide), wUp_ng (show 20 ≠ 29 by decide), hl]
                exact vp_in_nI (by omega) (by decide)
              refine G.iast (g := 30) (i := 0) (n := 20) C dX6_leaf_130 (by decide) rfl hin_130 w_ast_30 ?_
              refine G.aload_n C 0 dX6_leaf_131 rfl rfl ?_
              refine G.dup C dX6_leaf_132 rfl ?_
              refine G.get (g := 20) (i := 0) C 7 none dX6_leaf_133 (by decide) rfl rfl uX_X6 (by decide) uf_RX6_88 rfl rfl ?_
              refine G.iconst (v := 1) C dX6_leaf_136 (by decide) ?_
              refine G.iadd C dX6_leaf_137 ?_
              refine G.put (g := 20) (i := 0) C 7 none dX6_leaf_138 (by decide) rfl rfl uX_X6 tyX6 tyX6_ok nmX6 (by decide) uf_RX6_88 rfl rfl (by decide +kernel) (Nat.le_of_ble_eq_true rfl) w_up_20_7 ?_
              refine G.aload_n C 0 dX6_leaf_141 rfl rfl ?_
              refine G.get (g := 20) (i := 0) C 7 none dX6_leaf_142 (by decide) rfl rfl uX_X6 (by decide) uf_RX6_88 rfl rfl ?_
              refine G.iconst (v := 1) C dX6_leaf_145 (by decide) ?_
              refine G.isub C dX6_leaf_146 ?_
              subst hQ
              exact G.iret C hr dX6_leaf_147 (by
                  refine Or.inr (Or.inr ⟨hok, hh9, ?_, ?_⟩)
                  · simp only [wUp_ng (show 20 ≠ 25 by decide), wUp_ng (show 20 ≠ 26 by decide), wUp_ng (show 20 ≠ 27 by decide), wUp_ng (show 20 ≠ 28 by decide), wUp_ng (show 20 ≠ 29 by decide), wUp_ng (show 20 ≠ 30 by decide), wUp_eq, hl, nI_clamp (show l < 2 ^ 31 by omega), nI_1, nI_pred]
                  · simp only [wUp_ng (show 20 ≠ 25 by decide), wUp_ng (show 20 ≠ 26 by decide), wUp_ng (show 20 ≠ 27 by decide), wUp_ng (show 20 ≠ 28 by decide), wUp_ng (show 20 ≠ 29 by decide), wUp_ng (show 20 ≠ 30 by decide), wUp_eq, hl, nI_clamp (show l < 2 ^ 31 by omega), nI_1, nI_pred])
            · have hh9 : 20 ≤ l := by
                rw [hl, show (20 : Int32) = nI 20 from rfl, nI_eq (by omega) (by decide)] at c_62
                omega
              refine G.bipush (v := -3) C dX6_leaf_65 (by decide) ?_
              subst hQ
              exact G.iret C hr dX6_leaf_67 (by
                  exact Or.inr (Or.inl ⟨hok, hh9, rfl, rfl⟩))
          · have b_48 := wb_0 e_48 c_51
            refine G.iconst (v := -1) C dX6_leaf_54 (by decide) ?_
            subst hQ
            exact G.iret C hr dX6_leaf_55 (by
                refine Or.inl ⟨fun q => ?_, rfl, rfl⟩
                obtain ⟨q1, q2, q3, q4, q5⟩ := q
                first | exact b_10 q1 | exact b_21 q2 | exact c_30 q3 | exact b_38 q4 | exact b_48 q5)
set_option maxHeartbeats 4000000 in
set_option maxRecDepth 100000 in
theorem ok_X6_see {w : wD} (hw : wOK w) (σ : wSt) (a b c : Int32) (hz : σ.1 20 0 0 = 0) {l : Nat} (hl : σ.1 20 0 7 = nI l) (hl20 : l ≤ 20) : MI w yX6_see cX6_see 5 (some .int) 2 43 [.ref (w.2.2.2.1 20 0), .int a, .int b, .int c] σ (fun r τ => (¬ (inN (σ.1 20 0 7) a ∧ (0 ≤ b ∧ b < 12) ∧ 0 ≤ c ∧ c ≤ 2) ∧ σ = τ ∧ r = -1) ∨ ((inN (σ.1 20 0 7) a ∧ (0 ≤ b ∧ b < 12) ∧ 0 ≤ c ∧ c ≤ 2) ∧ wUp (wUp σ 25 0 a.toNatClampNeg (seeT (σ.1 25 0 a.toNatClampNeg) b c 1)) 26 0 a.toNatClampNeg (seeT (σ.1 26 0 a.toNatClampNeg) b c 2) = τ ∧ r = seeF (σ.1 25 0 a.toNatClampNeg) (σ.1 26 0 a.toNatClampNeg) b)) := by
  refine MI.of hw (by decide +kernel) (Nat.le_of_ble_eq_true rfl) (fun x C hr => ?_)
  suffices key : ∀ Q, Q = QI w x (fun r τ => (¬ (inN (σ.1 20 0 7) a ∧ (0 ≤ b ∧ b < 12) ∧ 0 ≤ c ∧ c ≤ 2) ∧ σ = τ ∧ r = -1) ∨ ((inN (σ.1 20 0 7) a ∧ (0 ≤ b ∧ b < 12) ∧ 0 ≤ c ∧ c ≤ 2) ∧ wUp (wUp σ 25 0 a.toNatClampNeg (seeT (σ.1 25 0 a.toNatClampNeg) b c 1)) 26 0 a.toNatClampNeg (seeT (σ.1 26 0 a.toNatClampNeg) b c 2) = τ ∧ r = seeF (σ.1 25 0 a.toNatClampNeg) (σ.1 26 0 a.toNatClampNeg) b)) → G w x 5 Q 0 [(0, .ref (w.2.2.2.1 20 0)), (1, .int a), (2, .int b), (3, .int c)] [] σ from key _ rfl
  intro Q hQ
  refine G.aload_n C 0 dX6_see_0 rfl rfl ?_
  refine G.iconst (v := 0) C dX6_see_1 (by decide) ?_
  refine G.put (g := 20) (i := 0) C 0 none dX6_see_2 (by decide) rfl rfl uX_X6 tyX6 tyX6_ok nmX6 (by decide) uf_RX6_61 rfl rfl (by decide +kernel) (Nat.le_of_ble_eq_true rfl) w_up_20_0 ?_
  rw [wUp_id hz]
  refine G.aload_n C 0 dX6_see_5 rfl rfl ?_
  refine G.iload_n C 1 dX6_see_6 rfl rfl ?_
  have hM_0 := ok_X6_isLeaf hw σ a hl hl20
  refine G.callV C (g := 20) (i := 0) none hM_0 dX6_see_7 (by decide) rfl rfl rfl uv_X6_isLeaf ul_RX6_91 rfl rfl (by decide) (Nat.le_of_ble_eq_true rfl) (fun r_7 τ_7 h_7 => ?_)
  obtain ⟨h_7, e_7⟩ := h_7; subst h_7
  refine G.if_eq (tgt := 32) C dX6_see_10 (by decide) (fun c_10 => ?_) (fun c_10 => ?_)
  · have b_7 := wb_0 e_7 c_10
    refine G.iconst (v := -1) C dX6_see_32 (by decide) ?_
    subst hQ
    exact G.iret C hr dX6_see_33 (by
        refine Or.inl ⟨fun q => ?_, rfl, rfl⟩
        first | exact b_7 q.1 | exact b_17 (w_le11.mpr q.2.1) | exact b_26 q.2.2)
  · have b_7 := wb_1 e_7 c_10
    refine G.iload_n C 2 dX6_see_13 rfl rfl ?_
    refine G.iconst (v := 0) C dX6_see_14 (by decide) ?_
    refine G.bipush (v := 11) C dX6_see_15 (by decide) ?_
    have hM_1 := ok_X6_in hw σ b 0 11
    refine G.callS C none hM_1 dX6_see_17 us_X6_in ul_RX6_65 rfl rfl (by decide) (Nat.le_of_ble_eq_true rfl) (fun r_17 τ_17 h_17 => ?_)
    obtain ⟨h_17, e_17⟩ := h_17; subst h_17
    refine G.if_eq (tgt := 32) C dX6_see_20 (by decide) (fun c_20 => ?_) (fun c_20 => ?_)
    · have b_17 := wb_0 e_17 c_20
      refine G.iconst (v := -1) C dX6_see_32 (by decide) ?_
      subst hQ
      exact G.iret C hr dX6_see_33 (by
          refine Or.inl ⟨fun q => ?_, rfl, rfl⟩
          first | exact b_7 q.1 | exact b_17 (w_le11.mpr q.2.1) | exact b_26 q.2.2)
    · have b_17 := wb_1 e_17 c_20
      refine G.iload_n C 3 dX6_see_23 rfl rfl ?_
      refine G.iconst (v := 0) C dX6_see_24 (by decide) ?_
      refine G.iconst (v := 2) C dX6_see_25 (by decide) ?_
      have hM_2 := ok_X6_in hw σ c 0 2
      refine G.callS C none hM_2 dX6_see_26 us_X6_in ul_RX6_65 rfl rfl (by decide) (Nat.le_of_ble_eq_true rfl) (fun r_26 τ_26 h_26 => ?_)
      obtain ⟨h_26, e_26⟩ := h_26; subst h_26
      refine G.if_ne (tgt := 34) C dX6_see_29 (by decide) (fun c_29 => ?_) (fun c_29 => ?_)
      · have b_26 := wb_1 e_26 c_29
        refine G.aload_n C 0 dX6_see_34 rfl rfl ?_
        refine G.get (g := 20) (i := 0) C 8 none dX6_see_35 (by decide) rfl rfl uX_X6 (by decide) uf_RX6_22 rfl rfl ?_
        refine G.iload_n C 1 dX6_see_38 rfl rfl ?_
        have hin_39 : vp_in a 20 := by
          exact vp_ofc b_7 hl hl20 (by decide)
        refine G.iald (g := 25) (i := 0) (n := 20) C dX6_see_39 (by decide) rfl hin_39 ?_
        refine G.iload_n C 2 dX6_see_40 rfl rfl ?_
        refine G.ishr C dX6_see_41 ?_
        refine G.iconst (v := 1) C dX6_see_42 (by decide) ?_
        refine G.iand C dX6_see_43 ?_
        refine G.iconst (v := 2) C dX6_see_44 (by decide) ?_
        refine G.aload_n C 0 dX6_see_45 rfl rfl ?_
        refine G.get (g := 20) (i := 0) C 9 none dX6_see_46 (by decide) rfl rfl uX_X6 (by decide) uf_RX6_25 rfl rfl ?_
        refine G.iload_n C 1 dX6_see_49 rfl rfl ?_
        have hin_50 : vp_in a 20 := by
          exact vp_ofc b_7 hl hl20 (by decide)
        refine G.iald (g := 26) (i := 0) (n := 20) C dX6_see_50 (by decide) rfl hin_50 ?_
        refine G.iload_n C 2 dX6_see_51 rfl rfl ?_
        refine G.ishr C dX6_see_52 ?_
        refine G.iconst (v := 1) C dX6_see_53 (by decide) ?_
        refine G.iand C dX6_see_54 ?_
        refine G.imul C dX6_see_55 ?_
        refine G.iadd C dX6_see_56 ?_
        refine G.topi (fun x4_57 ex4_57 => ?_)
        refine G.istore (L1 := [(4, .int x4_57), (0, .ref (w.2.2.2.1 20 0)), (1, .int a), (2, .int b), (3, .int c)]) C dX6_see_57 (by decide) rfl ?_
        refine G.aload_n C 1 dX6_see_59 rfl rfl ?_
        refine G.get (g := 20) (i := 0) C 8 none dX6_see_60 (by decide) rfl rfl uX_X6 (by decide) uf_RX6_22 rfl rfl ?_
        refine G.iload_n C 2 dX6_see_63 rfl rfl ?_
        refine G.aload_n C 1 dX6_see_64 rfl rfl ?_
        refine G.get (g := 20) (i := 0) C 8 none dX6_see_65 (by decide) rfl rfl uX_X6 (by decide) uf_RX6_22 rfl rfl ?_
        refine G.iload_n C 2 dX6_see_68 rfl rfl ?_
        have hin_69 : vp_in a 20 := by
          exact vp_ofc b_7 hl hl20 (by decide)
        refine G.iald (g := 25) (i := 0) (n := 20) C dX6_see_69 (by decide) rfl hin_69 ?_
        refine G.iconst (v := 1) C dX6_see_70 (by decide) ?_
        refine G.iload_n C 3 dX6_see_71 rfl rfl ?_
        refine G.ishl C dX6_see_72 ?_
        refine G.iconst (v := -1) C dX6_see_73 (by decide) ?_
        refine G.ixor C dX6_see_74 ?_
        refine G.iand C dX6_see_75 ?_
        refine G.iload_n C 4 dX6_see_76 rfl rfl ?_
        refine G.iconst (v := 1) C dX6_see_77 (by decide) ?_
        refine G.icmp_ne (tgt := 87) C dX6_see_78 (by decide) (fun c_78 => ?_) (fun c_78 => ?_)
        · refine G.iconst (v := 0) C dX6_see_87 (by decide) ?_
          refine G.ior C dX6_see_88 ?_
          have hin_89 : vp_in a 20 := by
            exact vp_ofc b_7 hl hl20 (by decide)
          refine G.iast (g := 25) (i := 0) (n := 20) C dX6_see_89 (by decide) rfl hin_89 w_ast_25 ?_
          refine G.aload_n C 1 dX6_see_90 rfl rfl ?_
          refine G.get (g := 20) (i := 0) C 9 none dX6_see_91 (by decide) rfl rfl uX_X6 (by decide) uf_RX6_25 rfl rfl ?_
          refine G.iload_n C 2 dX6_see_94 rfl rfl ?_
          refine G.aload_n C 1 dX6_see_95 rfl rfl ?_
          refine G.get (g := 20) (i := 0) C 9 none dX6_see_96 (by decide) rfl rfl uX_X6 (by decide) uf_RX6_25 rfl rfl ?_
          refine G.iload_n C 2 dX6_see_99 rfl rfl ?_
          have hin_100 : vp_in a 20 := by
            exact vp_ofc b_7 hl hl20 (by decide)
          refine G.iald (g := 26) (i := 0) (n := 20) C dX6_see_100 (by decide) rfl hin_100 ?_
          refine G.iconst (v := 1) C dX6_see_101 (by decide) ?_
          refine G.iload_n C 3 dX6_see_102 rfl rfl ?_
          refine G.ishl C dX6_see_103 ?_
          refine G.iconst (v := -1) C dX6_see_104 (by decide) ?_
          refine G.ixor C dX6_see_105 ?_
          refine G.iand C dX6_see_106 ?_
          refine G.iload_n C 4 dX6_see_107 rfl rfl ?_
          refine G.iconst (v := 2) C dX6_see_108 (by decide) ?_
          refine G.icmp_ne (tgt := 118) C dX6_see_109 (by decide) (fun c_109 => ?_) (fun c_109 => ?_)
          · refine G.iconst (v := 0) C dX6_see_118 (by decide) ?_
            refine G.ior C dX6_see_119 ?_
            have hin_120 : vp_in a 20 := by
              exact vp_ofc b_7 hl hl20 (by decide)
            refine G.iast (g := 26) (i := 0) (n := 20) C dX6_see_120 (by decide) rfl hin_120 w_ast_26 ?_
            refine G.iload C 0 dX6_see_121 rfl ?_
            subst hQ
            exact G.iret C hr dX6_see_123 (by
                refine Or.inr ⟨⟨b_7, w_le11.mp b_17, b_26⟩, ?_, ex4_57⟩
                simp only [seeT, wUp_ng (show 26 ≠ 25 by decide), if_neg c_78, if_neg c_109])
          · refine G.iconst (v := 1) C dX6_see_112 (by decide) ?_
            refine G.iload_n C 3 dX6_see_113 rfl rfl ?_
            refine G.ishl C dX6_see_114 ?_
            refine G.goto (tgt := 119) C dX6_see_115 (by decide) ?_
            refine G.ior C dX6_see_119 ?_
            have hin_120 : vp_in a 20 := by
              exact vp_ofc b_7 hl hl20 (by decide)
            refine G.iast (g := 26) (i := 0) (n := 20) C dX6_see_120 (by decide) rfl hin_120 w_ast_26 ?_
            refine G.iload C 0 dX6_see_121 rfl ?_
            subst hQ
            exact G.iret C hr dX6_see_123 (by
                refine Or.inr ⟨⟨b_7, w_le11.mp b_17, b_26⟩, ?_, ex4_57⟩
                simp only [seeT, wUp_ng (show 26 ≠ 25 by decide), if_neg c_78, if_pos c_109])
        · refine G.iconst (v := 1) C dX6_see_81 (by decide) ?_
          refine G.iload_n C 3 dX6_see_82 rfl rfl ?_
          refine G.ishl C dX6_see_83 ?_
          refine G.goto (tgt := 88) C dX6_see_84 (by decide) ?_
          refine G.ior C dX6_see_88 ?_
          have hin_89 : vp_in a 20 := by
            exact vp_ofc b_7 hl hl20 (by decide)
          refine G.iast (g := 25) (i := 0) (n := 20) C dX6_see_89 (by decide) rfl hin_89 w_ast_25 ?_
          refine G.aload_n C 1 dX6_see_90 rfl rfl ?_
          refine G.get (g := 20) (i := 0) C 9 none dX6_see_91 (by decide) rfl rfl uX_X6 (by decide) uf_RX6_25 rfl rfl ?_
          refine G.iload_n C 2 dX6_see_94 rfl rfl ?_
          refine G.aload_n C 1 dX6_see_95 rfl rfl ?_
          refine G.get (g := 20) (i := 0) C 9 none dX6_see_96 (by decide) rfl rfl uX_X6 (by decide) uf_RX6_25 rfl rfl ?_
          refine G.iload_n C 2 dX6_see_99 rfl rfl ?_
          have hin_100 : vp_in a 20 := by
            exact vp_ofc b_7 hl hl20 (by decide)
          refine G.iald (g := 26) (i := 0) (n := 20) C dX6_see_100 (by decide) rfl hin_100 ?_
          refine G.iconst (v := 1) C dX6_see_101 (by decide) ?_
          refine G.iload_n C 3 dX6_see_102 rfl rfl ?_
          refine G.ishl C dX6_see_103 ?_
          refine G.iconst (v := -1) C dX6_see_104 (by decide) ?_
          refine G.ixor C dX6_see_105 ?_
          refine G.iand C dX6_see_106 ?_
          refine G.iload_n C 4 dX6_see_107 rfl rfl ?_
          refine G.iconst (v := 2) C dX6_see_108 (by decide) ?_
          refine G.icmp_ne (tgt := 118) C dX6_see_109 (by decide) (fun c_109 => ?_) (fun c_109 => ?_)
          · refine G.iconst (v := 0) C dX6_see_118 (by decide) ?_
            refine G.ior C dX6_see_119 ?_
            have hin_120 : vp_in a 20 := by
              exact vp_ofc b_7 hl hl20 (by decide)
            refine G.iast (g := 26) (i := 0) (n := 20) C dX6_see_120 (by decide) rfl hin_120 w_ast_26 ?_
            refine G.iload C 0 dX6_see_121 rfl ?_
            subst hQ
            exact G.iret C hr dX6_see_123 (by
                refine Or.inr ⟨⟨b_7, w_le11.mp b_17, b_26⟩, ?_, ex4_57⟩
                simp only [seeT, wUp_ng (show 26 ≠ 25 by decide), if_pos c_78, if_neg c_109])
          · refine G.iconst (v := 1) C dX6_see_112 (by decide) ?_
            refine G.iload_n C 3 dX6_see_113 rfl rfl ?_
            refine G.ishl C dX6_see_114 ?_
            refine G.goto (tgt := 119) C dX6_see_115 (by decide) ?_
            refine G.ior C dX6_see_119 ?_
            have hin_120 : vp_in a 20 := by
              exact vp_ofc b_7 hl hl20 (by decide)
            refine G.iast (g := 26) (i := 0) (n := 20) C dX6_see_120 (by decide) rfl hin_120 w_ast_26 ?_
            refine G.iload C 0 dX6_see_121 rfl ?_
            subst hQ
            exact G.iret C hr dX6_see_123 (by
                refine Or.inr ⟨⟨b_7, w_le11.mp b_17, b_26⟩, ?_, ex4_57⟩
                simp only [seeT, wUp_ng (show 26 ≠ 25 by decide), if_pos c_78, if_pos c_109])
      · have b_26 := wb_0 e_26 c_29
        refine G.iconst (v := -1) C dX6_see_32 (by decide) ?_
        subst hQ
        exact G.iret C hr dX6_see_33 (by
            refine Or.inl ⟨fun q => ?_, rfl, rfl⟩
            first | exact b_7 q.1 | exact b_17 (w_le11.mpr q.2.1) | exact b_26 q.2.2)
set_option maxHeartbeats 4000000 in
set_option maxRecDepth 100000 in
theorem ok_X6_candidatesOf {w : wD} (hw : wOK w) (σ : wSt) (a : Int32) {n : Nat} (hn : σ.1 20 0 2 = nI n) (h6 : n ≤ 6) (hva : vp_in a 20) : MI w yX6_candidatesOf cX6_candidatesOf 4 (some .int) 0 0 [.ref (w.2.2.2.1 20 0), .int a] σ (fun r τ => σ = τ ∧ r = candU (σ.1 21 0) (σ.1 25 0 a.toNatClampNeg) (σ.1 26 0 a.toNatClampNeg) n) := by
  refine MI.of hw (by decide +kernel) (Nat.le_of_ble_eq_true rfl) (fun x C hr => ?_)
  suffices key : ∀ Q, Q = QI w x (fun r τ => σ = τ ∧ r = candU (σ.1 21 0) (σ.1 25 0 a.toNatClampNeg) (σ.1 26 0 a.toNatClampNeg) n) → G w x 4 Q 0 [(0, .ref (w.2.2.2.1 20 0)), (1, .int a)] [] σ from key _ rfl
  intro Q hQ
  refine G.iconst (v := 0) C dX6_candidatesOf_0 (by decide) ?_
  refine G.istore_n (L1 := [(2, .int 0), (0, .ref (w.2.2.2.1 20 0)), (1, .int a)]) C dX6_candidatesOf_1 rfl (by decide) rfl ?_
  refine G.iconst (v := 0) C dX6_candidatesOf_2 (by decide) ?_
  refine G.istore_n (L1 := [(3, .int 0), (2, .int 0), (0, .ref (w.2.2.2.1 20 0)), (1, .int a)]) C dX6_candidatesOf_3 rfl (by decide) rfl ?_
  have cut_4 : ∀ (m9 : Nat) (j : Nat) (x3 x2 : Int32), j ≤ n → n < j + m9 → x3 = nI j → x2 = candU (σ.1 21 0) (σ.1 25 0 a.toNatClampNeg) (σ.1 26 0 a.toNatClampNeg) j → G w x 4 Q 4 [(3, .int x3), (2, .int x2), (0, .ref (w.2.2.2.1 20 0)), (1, .int a)] [] σ := by
    intro m9
    induction m9 with
    | zero =>
      intro j x3 x2 hj hm hx3 hx2
      exfalso
      omega
    | succ m9 ih =>
      intro j x3 x2 hj hm hx3 hx2
      subst hx3
      subst hx2
      refine G.iload_n C 0 dX6_candidatesOf_4 rfl rfl ?_
      refine G.aload_n C 2 dX6_candidatesOf_5 rfl rfl ?_
      refine G.get (g := 20) (i := 0) C 2 none dX6_candidatesOf_6 (by decide) rfl rfl uX_X6 (by decide) uf_RX6_73 rfl rfl ?_
      refine G.icmp_ge (tgt := 62) C dX6_candidatesOf_9 (by decide) (fun c_9 => ?_) (fun c_9 => ?_)
      · have hjn : j = n := by
          rw [hn, nI_leI (by omega) (by omega)] at c_9; omega
        refine G.iload_n C 1 dX6_candidatesOf_62 rfl rfl ?_
        subst hQ
        exact G.iret C hr dX6_candidatesOf_63 (by
            rw [hjn]
            exact ⟨rfl, rfl⟩)
      · have hjn : j < n := by
          rw [hn, nI_leI (by omega) (by omega)] at c_9; omega
        refine G.iload_n C 1 dX6_candidatesOf_12 rfl rfl ?_
        refine G.aload_n C 2 dX6_candidatesOf_13 rfl rfl ?_
        refine G.get (g := 20) (i := 0) C 8 none dX6_candidatesOf_14 (by decide) rfl rfl uX_X6 (by decide) uf_RX6_22 rfl rfl ?_
        refine G.iload_n C 3 dX6_candidatesOf_17 rfl rfl ?_
        have hin_18 : vp_in a 20 := by
          exact hva
        refine G.iald (g := 25) (i := 0) (n := 20) C dX6_candidatesOf_18 (by decide) rfl hin_18 ?_
        refine G.aload_n C 2 dX6_candidatesOf_19 rfl rfl ?_
        refine G.get (g := 20) (i := 0) C 3 none dX6_candidatesOf_20 (by decide) rfl rfl uX_X6 (by decide) uf_RX6_7 rfl rfl ?_
        refine G.iload_n C 0 dX6_candidatesOf_23 rfl rfl ?_
        have hin_24 : vp_in (nI j) 6 := by
          exact vp_in_nI (by omega) (by decide)
        refine G.iald (g := 21) (i := 0) (n := 6) C dX6_candidatesOf_24 (by decide) rfl hin_24 ?_
        refine G.iconst (v := -1) C dX6_candidatesOf_25 (by decide) ?_
        refine G.ixor C dX6_candidatesOf_26 ?_
        refine G.iand C dX6_candidatesOf_27 ?_
        refine G.if_ne (tgt := 53) C dX6_candidatesOf_28 (by decide) (fun c_28 => ?_) (fun c_28 => ?_)
        · refine G.iconst (v := 0) C dX6_candidatesOf_53 (by decide) ?_
          refine G.ior C dX6_candidatesOf_54 ?_
          refine G.topi (fun x2_55 ex2_55 => ?_)
          refine G.istore_n (L1 := [(2, .int x2_55), (3, .int (nI j)), (0, .ref (w.2.2.2.1 20 0)), (1, .int a)]) C dX6_candidatesOf_55 rfl (by decide) rfl ?_
          obtain ⟨x3_56, ex3_56⟩ : ∃ z : Int32, z = (nI j) + 1 := ⟨_, rfl⟩
          refine G.iinc (v := x3_56) (L1 := [(3, .int x3_56), (2, .int x2_55), (0, .ref (w.2.2.2.1 20 0)), (1, .int a)]) C 1 dX6_candidatesOf_56 rfl (by rw [ex3_56]; rfl) (by decide) rfl ?_
          refine G.goto (tgt := 4) C dX6_candidatesOf_59 (by decide) ?_
          refine ih  (j + 1) _ _ ?_ ?_ ?_ ?_
          · omega
          · omega
          · rw [ex3_56]; exact nI_1 j
          · rw [nI_clamp (by omega)] at c_28
            rw [ex2_55, i_or0, candU_f _ rfl rfl (fun q => c_28 (candM.mpr q).1)]
        · refine G.aload_n C 2 dX6_candidatesOf_31 rfl rfl ?_
          refine G.get (g := 20) (i := 0) C 9 none dX6_candidatesOf_32 (by decide) rfl rfl uX_X6 (by decide) uf_RX6_25 rfl rfl ?_
          refine G.iload_n C 3 dX6_candidatesOf_35 rfl rfl ?_
          have hin_36 : vp_in a 20 := by
            exact hva
          refine G.iald (g := 26) (i := 0) (n := 20) C dX6_candidatesOf_36 (by decide) rfl hin_36 ?_
          refine G.aload_n C 2 dX6_candidatesOf_37 rfl rfl ?_
          refine G.get (g := 20) (i := 0) C 3 none dX6_candidatesOf_38 (by decide) rfl rfl uX_X6 (by decide) uf_RX6_7 rfl rfl ?_
          refine G.iload_n C 0 dX6_candidatesOf_41 rfl rfl ?_
          have hin_42 : vp_in (nI j) 6 := by
            exact vp_in_nI (by omega) (by decide)
          refine G.iald (g := 21) (i := 0) (n := 6) C dX6_candidatesOf_42 (by decide) rfl hin_42 ?_
          refine G.iand C dX6_candidatesOf_43 ?_
          refine G.if_ne (tgt := 53) C dX6_candidatesOf_44 (by decide) (fun c_44 => ?_) (fun c_44 => ?_)
          · refine G.iconst (v := 0) C dX6_candidatesOf_53 (by decide) ?_
            refine G.ior C dX6_candidatesOf_54 ?_
            refine G.topi (fun x2_55 ex2_55 => ?_)
            refine G.istore_n (L1 := [(2, .int x2_55), (3, .int (nI j)), (0, .ref (w.2.2.2.1 20 0)), (1, .int a)]) C dX6_candidatesOf_55 rfl (by decide) rfl ?_
            obtain ⟨x3_56, ex3_56⟩ : ∃ z : Int32, z = (nI j) + 1 := ⟨_, rfl⟩
            refine G.iinc (v := x3_56) (L1 := [(3, .int x3_56), (2, .int x2_55), (0, .ref (w.2.2.2.1 20 0)), (1, .int a)]) C 1 dX6_candidatesOf_56 rfl (by rw [ex3_56]; rfl) (by decide) rfl ?_
            refine G.goto (tgt := 4) C dX6_candidatesOf_59 (by decide) ?_
            refine ih  (j + 1) _ _ ?_ ?_ ?_ ?_
            · omega
            · omega
            · rw [ex3_56]; exact nI_1 j
            · rw [nI_clamp (by omega)] at c_28 c_44
              rw [ex2_55, i_or0, candU_f _ rfl rfl (fun q => c_44 (candM.mpr q).2)]
          · refine G.iconst (v := 1) C dX6_candidatesOf_47 (by decide) ?_
            refine G.iload_n C 0 dX6_candidatesOf_48 rfl rfl ?_
            refine G.ishl C dX6_candidatesOf_49 ?_
            refine G.goto (tgt := 54) C dX6_candidatesOf_50 (by decide) ?_
            refine G.ior C dX6_candidatesOf_54 ?_
            refine G.topi (fun x2_55 ex2_55 => ?_)
            refine G.istore_n (L1 := [(2, .int x2_55), (3, .int (nI j)), (0, .ref (w.2.2.2.1 20 0)), (1, .int a)]) C dX6_candidatesOf_55 rfl (by decide) rfl ?_
            obtain ⟨x3_56, ex3_56⟩ : ∃ z : Int32, z = (nI j) + 1 := ⟨_, rfl⟩
            refine G.iinc (v := x3_56) (L1 := [(3, .int x3_56), (2, .int x2_55), (0, .ref (w.2.2.2.1 20 0)), (1, .int a)]) C 1 dX6_candidatesOf_56 rfl (by rw [ex3_56]; rfl) (by decide) rfl ?_
            refine G.goto (tgt := 4) C dX6_candidatesOf_59 (by decide) ?_
            refine ih  (j + 1) _ _ ?_ ?_ ?_ ?_
            · omega
            · omega
            · rw [ex3_56]; exact nI_1 j
            · rw [nI_clamp (by omega)] at c_28 c_44
              rw [ex2_55, candU_t _ rfl rfl (candM.mp ⟨c_28, c_44⟩)]
  refine cut_4 (n + 1) 0 _ _ ?_ ?_ ?_ ?_
  · omega
  · omega
  · rfl
  · rfl
set_option maxHeartbeats 4000000 in
set_option maxRecDepth 100000 in
theorem ok_X6_candidates {w : wD} (hw : wOK w) (σ : wSt) (a : Int32) (hz : σ.1 20 0 0 = 0) {n : Nat} (hn : σ.1 20 0 2 = nI n) (h6 : n ≤ 6) {l : Nat} (hl : σ.1 20 0 7 = nI l) (hl20 : l ≤ 20) : MI w yX6_candidates cX6_candidates 2 (some .int) 2 43 [.ref (w.2.2.2.1 20 0), .int a] σ (fun r τ => σ = τ ∧ ((¬ inN (σ.1 20 0 7) a ∧ r = -1) ∨ (inN (σ.1 20 0 7) a ∧ r = candU (σ.1 21 0) (σ.1 25 0 a.toNatClampNeg) (σ.1 26 0 a.toNatClampNeg) n))) := by
  refine MI.of hw (by decide +kernel) (Nat.le_of_ble_eq_true rfl) (fun x C hr => ?_)
  suffices key : ∀ Q, Q = QI w x (fun r τ => σ = τ ∧ ((¬ inN (σ.1 20 0 7) a ∧ r = -1) ∨ (inN (σ.1 20 0 7) a ∧ r = candU (σ.1 21 0) (σ.1 25 0 a.toNatClampNeg) (σ.1 26 0 a.toNatClampNeg) n))) → G w x 2 Q 0 [(0, .ref (w.2.2.2.1 20 0)), (1, .int a)] [] σ from key _ rfl
  intro Q hQ
  refine G.aload_n C 0 dX6_candidates_0 rfl rfl ?_
  refine G.iconst (v := 0) C dX6_candidates_1 (by decide) ?_
  refine G.put (g := 20) (i := 0) C 0 none dX6_candidates_2 (by decide) rfl rfl uX_X6 tyX6 tyX6_ok nmX6 (by decide) uf_RX6_61 rfl rfl (by decide +kernel) (Nat.le_of_ble_eq_true rfl) w_up_20_0 ?_
  rw [wUp_id hz]
  refine G.aload_n C 0 dX6_candidates_5 rfl rfl ?_
  refine G.iload_n C 1 dX6_candidates_6 rfl rfl ?_
  have hM_0 := ok_X6_isLeaf hw σ a hl hl20
  refine G.callV C (g := 20) (i := 0) none hM_0 dX6_candidates_7 (by decide) rfl rfl rfl uv_X6_isLeaf ul_RX6_91 rfl rfl (by decide) (Nat.le_of_ble_eq_true rfl) (fun r_7 τ_7 h_7 => ?_)
  obtain ⟨h_7, e_7⟩ := h_7; subst h_7
  refine G.if_eq (tgt := 21) C dX6_candidates_10 (by decide) (fun c_10 => ?_) (fun c_10 => ?_)
  · have b_7 := wb_0 e_7 c_10
    refine G.iconst (v := -1) C dX6_candidates_21 (by decide) ?_
    subst hQ
    exact G.iret C hr dX6_candidates_22 (by
        exact ⟨rfl, Or.inl ⟨b_7, rfl⟩⟩)
  · have b_7 := wb_1 e_7 c_10
    refine G.aload_n C 0 dX6_candidates_13 rfl rfl ?_
    refine G.iload_n C 1 dX6_candidates_14 rfl rfl ?_
    have hM_1 := ok_X6_candidatesOf hw σ a hn h6 (vp_ofc b_7 hl hl20 (by decide))
    refine G.callV C (g := 20) (i := 0) none hM_1 dX6_candidates_15 (by decide) rfl rfl rfl uv_X6_candidatesOf ul_RX6_94 rfl rfl (by decide) (Nat.le_of_ble_eq_true rfl) (fun r_15 τ_15 h_15 => ?_)
    obtain ⟨h_15, e_15⟩ := h_15; subst h_15
    refine G.goto (tgt := 22) C dX6_candidates_18 (by decide) ?_
    subst hQ
    exact G.iret C hr dX6_candidates_22 (by
        exact ⟨rfl, Or.inr ⟨b_7, e_15⟩⟩)
set_option maxHeartbeats 4000000 in
set_option maxRecDepth 100000 in
theorem ok_X6_mould {w : wD} (hw : wOK w) (σ : wSt) (a b : Int32) (hz : σ.1 20 0 0 = 0) {m : Nat} (hm0 : σ.1 20 0 14 = nI m) (hm8 : m ≤ 8) : MI w yX6_mould cX6_mould 3 (some .int) 2 43 [.ref (w.2.2.2.1 20 0), .int a, .int b] σ (fun r τ => (¬ okYY a b ∧ σ = τ ∧ r = -1) ∨ (okYY a b ∧ 8 ≤ m ∧ σ = τ ∧ r = -3) ∨ (okYY a b ∧ m < 8 ∧ wUp (wUp (wUp σ 31 0 m a) 32 0 m b) 20 0 14 (nI (m + 1)) = τ ∧ r = nI m)) := by
  refine MI.of hw (by decide +kernel) (Nat.le_of_ble_eq_true rfl) (fun x C hr => ?_)
  suffices key : ∀ Q, Q = QI w x (fun r τ => (¬ okYY a b ∧ σ = τ ∧ r = -1) ∨ (okYY a b ∧ 8 ≤ m ∧ σ = τ ∧ r = -3) ∨ (okYY a b ∧ m < 8 ∧ wUp (wUp (wUp σ 31 0 m a) 32 0 m b) 20 0 14 (nI (m + 1)) = τ ∧ r = nI m)) → G w x 3 Q 0 [(0, .ref (w.2.2.2.1 20 0)), (1, .int a), (2, .int b)] [] σ from key _ rfl
  intro Q hQ
  refine G.aload_n C 0 dX6_mould_0 rfl rfl ?_
  refine G.iconst (v := 0) C dX6_mould_1 (by decide) ?_
  refine G.put (g := 20) (i := 0) C 0 none dX6_mould_2 (by decide) rfl rfl uX_X6 tyX6 tyX6_ok nmX6 (by decide) uf_RX6_61 rfl rfl (by decide +kernel) (Nat.le_of_ble_eq_true rfl) w_up_20_0 ?_
  rw [wUp_id hz]
  refine G.iload_n C 1 dX6_mould_5 rfl rfl ?_
  refine G.iload_n C 2 dX6_mould_6 rfl rfl ?_
  have hM_0 := ok_X6_isYears hw σ a b
  refine G.callS C none hM_0 dX6_mould_7 us_X6_isYears ul_RX6_69 rfl rfl (by decide) (Nat.le_of_ble_eq_true rfl) (fun r_7 τ_7 h_7 => ?_)
  obtain ⟨h_7, e_7⟩ := h_7; subst h_7
  refine G.if_ne (tgt := 15) C dX6_mould_10 (by decide) (fun c_10 => ?_) (fun c_10 => ?_)
  · have b_7 := wb_1 e_7 c_10
    refine G.aload_n C 0 dX6_mould_15 rfl rfl ?_
    refine G.get (g := 20) (i := 0) C 14 none dX6_mould_16 (by decide) rfl rfl uX_X6 (by decide) uf_RX6_97 rfl rfl ?_
    refine G.bipush (v := 8) C dX6_mould_19 (by decide) ?_
    refine G.icmp_ne (tgt := 27) C dX6_mould_21 (by decide) (fun c_21 => ?_) (fun c_21 => ?_)
    · have hh9 : m < 8 := by
        refine seven (by omega) (fun q => c_21 ?_)
        rw [hm0, q]; rfl
      refine G.aload_n C 0 dX6_mould_27 rfl rfl ?_
      refine G.get (g := 20) (i := 0) C 15 none dX6_mould_28 (by decide) rfl rfl uX_X6 (by decide) uf_RX6_40 rfl rfl ?_
      refine G.aload_n C 0 dX6_mould_31 rfl rfl ?_
      refine G.get (g := 20) (i := 0) C 14 none dX6_mould_32 (by decide) rfl rfl uX_X6 (by decide) uf_RX6_97 rfl rfl ?_
      refine G.iload_n C 1 dX6_mould_35 rfl rfl ?_
      have hin_36 : vp_in (σ.1 20 0 14) 8 := by
        simp only [hm0]
        exact vp_in_nI (by omega) (by decide)
      refine G.iast (g := 31) (i := 0) (n := 8) C dX6_mould_36 (by decide) rfl hin_36 w_ast_31 ?_
      refine G.aload_n C 0 dX6_mould_37 rfl rfl ?_
      refine G.get (g := 20) (i := 0) C 16 none dX6_mould_38 (by decide) rfl rfl uX_X6 (by decide) uf_RX6_43 rfl rfl ?_
      refine G.aload_n C 0 dX6_mould_41 rfl rfl ?_
      refine G.get (g := 20) (i := 0) C 14 none dX6_mould_42 (by decide) rfl rfl uX_X6 (by decide) uf_RX6_97 rfl rfl ?_
      refine G.iload_n C 2 dX6_mould_45 rfl rfl ?_
      have hin_46 : vp_in ((wUp σ 31 0 (σ.1 20 0 14).toNatClampNeg a).1 20 0 14) 8 := by
        simp only [wUp_ng (show 20 ≠ 31 by decide), hm0]
        exact vp_in_nI (by omega) (by decide)
      refine G.iast (g := 32) (i := 0) (n := 8) C dX6_mould_46 (by decide) rfl hin_46 w_ast_32 ?_
      refine G.aload_n C 0 dX6_mould_47 rfl rfl ?_
      refine G.dup C dX6_mould_48 rfl ?_
      refine G.get (g := 20) (i := 0) C 14 none dX6_mould_49 (by decide) rfl rfl uX_X6 (by decide) uf_RX6_97 rfl rfl ?_
      refine G.iconst (v := 1) C dX6_mould_52 (by decide) ?_
      refine G.iadd C dX6_mould_53 ?_
      refine G.put (g := 20) (i := 0) C 14 none dX6_mould_54 (by decide) rfl rfl uX_X6 tyX6 tyX6_ok nmX6 (by decide) uf_RX6_97 rfl rfl (by decide +kernel) (Nat.le_of_ble_eq_true rfl) w_up_20_14 ?_
      refine G.aload_n C 0 dX6_mould_57 rfl rfl ?_
      refine G.get (g := 20) (i := 0) C 14 none dX6_mould_58 (by decide) rfl rfl uX_X6 (by decide) uf_RX6_97 rfl rfl ?_
      refine G.iconst (v := 1) C dX6_mould_61 (by decide) ?_
      refine G.isub C dX6_mould_62 ?_
      subst hQ
      exact G.iret C hr dX6_mould_63 (by
          refine Or.inr (Or.inr ⟨b_7, hh9, ?_, ?_⟩)
          · simp only [wUp_ng (show 20 ≠ 31 by decide), wUp_ng (show 20 ≠ 32 by decide), wUp_eq, hm0, nI_clamp (show m < 2 ^ 31 by omega), nI_1, nI_pred]
          · simp only [wUp_ng (show 20 ≠ 31 by decide), wUp_ng (show 20 ≠ 32 by decide), wUp_eq, hm0, nI_clamp (show m < 2 ^ 31 by omega), nI_1, nI_pred])
    · have hh9 : 8 ≤ m := by
        rw [hm0, show (8 : Int32) = nI 8 from rfl, nI_eq (by omega) (by decide)] at c_21
        omega
      refine G.bipush (v := -3) C dX6_mould_24 (by decide) ?_
      subst hQ
      exact G.iret C hr dX6_mould_26 (by
          exact Or.inr (Or.inl ⟨b_7, hh9, rfl, rfl⟩))
  · have b_7 := wb_0 e_7 c_10
    refine G.iconst (v := -1) C dX6_mould_13 (by decide) ?_
    subst hQ
    exact G.iret C hr dX6_mould_14 (by
        refine Or.inl ⟨fun q => ?_, rfl, rfl⟩
        first | exact b_7 q)
set_option maxHeartbeats 4000000 in
set_option maxRecDepth 100000 in
theorem ok_X6_paper {w : wD} (hw : wOK w) (σ : wSt) (a b : Int32) (hz : σ.1 20 0 0 = 0) {l : Nat} (hl : σ.1 20 0 7 = nI l) (hl20 : l ≤ 20) {m : Nat} (hm0 : σ.1 20 0 14 = nI m) (hm8 : m ≤ 8) : MI w yX6_paper cX6_paper 4 (some .int) 2 43 [.ref (w.2.2.2.1 20 0), .int a, .int b] σ (fun r τ => (¬ (inN (σ.1 20 0 7) a ∧ (b = -9 ∨ inN (σ.1 20 0 14) b)) ∧ σ = τ ∧ r = -2) ∨ ((inN (σ.1 20 0 7) a ∧ (b = -9 ∨ inN (σ.1 20 0 14) b)) ∧ wUp σ 29 0 a.toNatClampNeg b = τ ∧ r = σ.1 29 0 a.toNatClampNeg)) := by
  refine MI.of hw (by decide +kernel) (Nat.le_of_ble_eq_true rfl) (fun x C hr => ?_)
  suffices key : ∀ Q, Q = QI w x (fun r τ => (¬ (inN (σ.1 20 0 7) a ∧ (b = -9 ∨ inN (σ.1 20 0 14) b)) ∧ σ = τ ∧ r = -2) ∨ ((inN (σ.1 20 0 7) a ∧ (b = -9 ∨ inN (σ.1 20 0 14) b)) ∧ wUp σ 29 0 a.toNatClampNeg b = τ ∧ r = σ.1 29 0 a.toNatClampNeg)) → G w x 4 Q 0 [(0, .ref (w.2.2.2.1 20 0)), (1, .int a), (2, .int b)] [] σ from key _ rfl
  intro Q hQ
  refine G.aload_n C 0 dX6_paper_0 rfl rfl ?_
  refine G.iconst (v := 0) C dX6_paper_1 (by decide) ?_
  refine G.put (g := 20) (i := 0) C 0 none dX6_paper_2 (by decide) rfl rfl uX_X6 tyX6 tyX6_ok nmX6 (by decide) uf_RX6_61 rfl rfl (by decide +kernel) (Nat.le_of_ble_eq_true rfl) w_up_20_0 ?_
  rw [wUp_id hz]
  refine G.aload_n C 0 dX6_paper_5 rfl rfl ?_
  refine G.iload_n C 1 dX6_paper_6 rfl rfl ?_
  have hM_0 := ok_X6_isLeaf hw σ a hl hl20
  refine G.callV C (g := 20) (i := 0) none hM_0 dX6_paper_7 (by decide) rfl rfl rfl uv_X6_isLeaf ul_RX6_91 rfl rfl (by decide) (Nat.le_of_ble_eq_true rfl) (fun r_7 τ_7 h_7 => ?_)
  obtain ⟨h_7, e_7⟩ := h_7; subst h_7
  refine G.if_eq (tgt := 33) C dX6_paper_10 (by decide) (fun c_10 => ?_) (fun c_10 => ?_)
  · have b_7 := wb_0 e_7 c_10
    refine G.bipush (v := -2) C dX6_paper_33 (by decide) ?_
    subst hQ
    exact G.iret C hr dX6_paper_35 (by
        refine Or.inl ⟨fun q => ?_, rfl, rfl⟩
        first | exact b_7 q.1 | exact q.2.elim c_16 b_27)
  · have b_7 := wb_1 e_7 c_10
    refine G.iload_n C 2 dX6_paper_13 rfl rfl ?_
    refine G.bipush (v := -9) C dX6_paper_14 (by decide) ?_
    refine G.icmp_eq (tgt := 36) C dX6_paper_16 (by decide) (fun c_16 => ?_) (fun c_16 => ?_)
    · refine G.aload_n C 0 dX6_paper_36 rfl rfl ?_
      refine G.get (g := 20) (i := 0) C 12 none dX6_paper_37 (by decide) rfl rfl uX_X6 (by decide) uf_RX6_34 rfl rfl ?_
      refine G.iload_n C 1 dX6_paper_40 rfl rfl ?_
      have hin_41 : vp_in a 20 := by
        exact vp_ofc b_7 hl hl20 (by decide)
      refine G.iald (g := 29) (i := 0) (n := 20) C dX6_paper_41 (by decide) rfl hin_41 ?_
      refine G.topi (fun x3_42 ex3_42 => ?_)
      refine G.istore_n (L1 := [(3, .int x3_42), (0, .ref (w.2.2.2.1 20 0)), (1, .int a), (2, .int b)]) C dX6_paper_42 rfl (by decide) rfl ?_
      refine G.aload_n C 1 dX6_paper_43 rfl rfl ?_
      refine G.get (g := 20) (i := 0) C 12 none dX6_paper_44 (by decide) rfl rfl uX_X6 (by decide) uf_RX6_34 rfl rfl ?_
      refine G.iload_n C 2 dX6_paper_47 rfl rfl ?_
      refine G.iload_n C 3 dX6_paper_48 rfl rfl ?_
      have hin_49 : vp_in a 20 := by
        exact vp_ofc b_7 hl hl20 (by decide)
      refine G.iast (g := 29) (i := 0) (n := 20) C dX6_paper_49 (by decide) rfl hin_49 w_ast_29 ?_
      refine G.iload_n C 0 dX6_paper_50 rfl rfl ?_
      subst hQ
      exact G.iret C hr dX6_paper_51 (by
          exact Or.inr ⟨⟨b_7, Or.inl c_16⟩, rfl, ex3_42⟩)
    · refine G.iload_n C 2 dX6_paper_19 rfl rfl ?_
      refine G.iconst (v := 0) C dX6_paper_20 (by decide) ?_
      refine G.aload_n C 0 dX6_paper_21 rfl rfl ?_
      refine G.get (g := 20) (i := 0) C 14 none dX6_paper_22 (by decide) rfl rfl uX_X6 (by decide) uf_RX6_97 rfl rfl ?_
      refine G.iconst (v := 1) C dX6_paper_25 (by decide) ?_
      refine G.isub C dX6_paper_26 ?_
      have hM_1 := ok_X6_in hw σ b 0 ((σ.1 20 0 14) - 1)
      refine G.callS C none hM_1 dX6_paper_27 us_X6_in ul_RX6_65 rfl rfl (by decide) (Nat.le_of_ble_eq_true rfl) (fun r_27 τ_27 h_27 => ?_)
      obtain ⟨h_27, e_27⟩ := h_27; subst h_27
      rw [hm0] at e_27
      rw [wb_iff (in_pred (by omega))] at e_27
      rw [← hm0] at e_27
      refine G.if_ne (tgt := 36) C dX6_paper_30 (by decide) (fun c_30 => ?_) (fun c_30 => ?_)
      · have b_27 := wb_1 e_27 c_30
        refine G.aload_n C 0 dX6_paper_36 rfl rfl ?_
        refine G.get (g := 20) (i := 0) C 12 none dX6_paper_37 (by decide) rfl rfl uX_X6 (by decide) uf_RX6_34 rfl rfl ?_
        refine G.iload_n C 1 dX6_paper_40 rfl rfl ?_
        have hin_41 : vp_in a 20 := by
          exact vp_ofc b_7 hl hl20 (by decide)
        refine G.iald (g := 29) (i := 0) (n := 20) C dX6_paper_41 (by decide) rfl hin_41 ?_
        refine G.topi (fun x3_42 ex3_42 => ?_)
        refine G.istore_n (L1 := [(3, .int x3_42), (0, .ref (w.2.2.2.1 20 0)), (1, .int a), (2, .int b)]) C dX6_paper_42 rfl (by decide) rfl ?_
        refine G.aload_n C 1 dX6_paper_43 rfl rfl ?_
        refine G.get (g := 20) (i := 0) C 12 none dX6_paper_44 (by decide) rfl rfl uX_X6 (by decide) uf_RX6_34 rfl rfl ?_
        refine G.iload_n C 2 dX6_paper_47 rfl rfl ?_
        refine G.iload_n C 3 dX6_paper_48 rfl rfl ?_
        have hin_49 : vp_in a 20 := by
          exact vp_ofc b_7 hl hl20 (by decide)
        refine G.iast (g := 29) (i := 0) (n := 20) C dX6_paper_49 (by decide) rfl hin_49 w_ast_29 ?_
        refine G.iload_n C 0 dX6_paper_50 rfl rfl ?_
        subst hQ
        exact G.iret C hr dX6_paper_51 (by
            exact Or.inr ⟨⟨b_7, Or.inr b_27⟩, rfl, ex3_42⟩)
      · have b_27 := wb_0 e_27 c_30
        refine G.bipush (v := -2) C dX6_paper_33 (by decide) ?_
        subst hQ
        exact G.iret C hr dX6_paper_35 (by
            refine Or.inl ⟨fun q => ?_, rfl, rfl⟩
            first | exact b_7 q.1 | exact q.2.elim c_16 b_27)
set_option maxHeartbeats 4000000 in
set_option maxRecDepth 100000 in
theorem ok_X6_imprint {w : wD} (hw : wOK w) (σ : wSt) (a b : Int32) (hz : σ.1 20 0 0 = 0) {l : Nat} (hl : σ.1 20 0 7 = nI l) (hl20 : l ≤ 20) : MI w yX6_imprint cX6_imprint 4 (some .int) 2 43 [.ref (w.2.2.2.1 20 0), .int a, .int b] σ (fun r τ => (¬ (inN (σ.1 20 0 7) a ∧ (b = -9 ∨ okY b)) ∧ σ = τ ∧ r = -2) ∨ ((inN (σ.1 20 0 7) a ∧ (b = -9 ∨ okY b)) ∧ wUp σ 30 0 a.toNatClampNeg b = τ ∧ r = σ.1 30 0 a.toNatClampNeg)) := by
  refine MI.of hw (by decide +kernel) (Nat.le_of_ble_eq_true rfl) (fun x C hr => ?_)
  suffices key : ∀ Q, Q = QI w x (fun r τ => (¬ (inN (σ.1 20 0 7) a ∧ (b = -9 ∨ okY b)) ∧ σ = τ ∧ r = -2) ∨ ((inN (σ.1 20 0 7) a ∧ (b = -9 ∨ okY b)) ∧ wUp σ 30 0 a.toNatClampNeg b = τ ∧ r = σ.1 30 0 a.toNatClampNeg)) → G w x 4 Q 0 [(0, .ref (w.2.2.2.1 20 0)), (1, .int a), (2, .int b)] [] σ from key _ rfl
  intro Q hQ
  refine G.aload_n C 0 dX6_imprint_0 rfl rfl ?_
  refine G.iconst (v := 0) C dX6_imprint_1 (by decide) ?_
  refine G.put (g := 20) (i := 0) C 0 none dX6_imprint_2 (by decide) rfl rfl uX_X6 tyX6 tyX6_ok nmX6 (by decide) uf_RX6_61 rfl rfl (by decide +kernel) (Nat.le_of_ble_eq_true rfl) w_up_20_0 ?_
  rw [wUp_id hz]
  refine G.aload_n C 0 dX6_imprint_5 rfl rfl ?_
  refine G.iload_n C 1 dX6_imprint_6 rfl rfl ?_
  have hM_0 := ok_X6_isLeaf hw σ a hl hl20
  refine G.callV C (g := 20) (i := 0) none hM_0 dX6_imprint_7 (by decide) rfl rfl rfl uv_X6_isLeaf ul_RX6_91 rfl rfl (by decide) (Nat.le_of_ble_eq_true rfl) (fun r_7 τ_7 h_7 => ?_)
  obtain ⟨h_7, e_7⟩ := h_7; subst h_7
  refine G.if_eq (tgt := 32) C dX6_imprint_10 (by decide) (fun c_10 => ?_) (fun c_10 => ?_)
  · have b_7 := wb_0 e_7 c_10
    refine G.bipush (v := -2) C dX6_imprint_32 (by decide) ?_
    subst hQ
    exact G.iret C hr dX6_imprint_34 (by
        refine Or.inl ⟨fun q => ?_, rfl, rfl⟩
        first | exact b_7 q.1 | exact q.2.elim c_16 b_26)
  · have b_7 := wb_1 e_7 c_10
    refine G.iload_n C 2 dX6_imprint_13 rfl rfl ?_
    refine G.bipush (v := -9) C dX6_imprint_14 (by decide) ?_
    refine G.icmp_eq (tgt := 35) C dX6_imprint_16 (by decide) (fun c_16 => ?_) (fun c_16 => ?_)
    · refine G.aload_n C 0 dX6_imprint_35 rfl rfl ?_
      refine G.get (g := 20) (i := 0) C 13 none dX6_imprint_36 (by decide) rfl rfl uX_X6 (by decide) uf_RX6_37 rfl rfl ?_
      refine G.iload_n C 1 dX6_imprint_39 rfl rfl ?_
      have hin_40 : vp_in a 20 := by
        exact vp_ofc b_7 hl hl20 (by decide)
      refine G.iald (g := 30) (i := 0) (n := 20) C dX6_imprint_40 (by decide) rfl hin_40 ?_
      refine G.topi (fun x3_41 ex3_41 => ?_)
      refine G.istore_n (L1 := [(3, .int x3_41), (0, .ref (w.2.2.2.1 20 0)), (1, .int a), (2, .int b)]) C dX6_imprint_41 rfl (by decide) rfl ?_
      refine G.aload_n C 1 dX6_imprint_42 rfl rfl ?_
      refine G.get (g := 20) (i := 0) C 13 none dX6_imprint_43 (by decide) rfl rfl uX_X6 (by decide) uf_RX6_37 rfl rfl ?_
      refine G.iload_n C 2 dX6_imprint_46 rfl rfl ?_
      refine G.iload_n C 3 dX6_imprint_47 rfl rfl ?_
      have hin_48 : vp_in a 20 := by
        exact vp_ofc b_7 hl hl20 (by decide)
      refine G.iast (g := 30) (i := 0) (n := 20) C dX6_imprint_48 (by decide) rfl hin_48 w_ast_30 ?_
      refine G.iload_n C 0 dX6_imprint_49 rfl rfl ?_
      subst hQ
      exact G.iret C hr dX6_imprint_50 (by
          exact Or.inr ⟨⟨b_7, Or.inl c_16⟩, rfl, ex3_41⟩)
    · refine G.iload_n C 2 dX6_imprint_19 rfl rfl ?_
      refine G.sipush (v := 1500) C dX6_imprint_20 (by decide) ?_
      refine G.sipush (v := 1900) C dX6_imprint_23 (by decide) ?_
      have hM_1 := ok_X6_in hw σ b 1500 1900
      refine G.callS C none hM_1 dX6_imprint_26 us_X6_in ul_RX6_65 rfl rfl (by decide) (Nat.le_of_ble_eq_true rfl) (fun r_26 τ_26 h_26 => ?_)
      obtain ⟨h_26, e_26⟩ := h_26; subst h_26
      refine G.if_ne (tgt := 35) C dX6_imprint_29 (by decide) (fun c_29 => ?_) (fun c_29 => ?_)
      · have b_26 := wb_1 e_26 c_29
        refine G.aload_n C 0 dX6_imprint_35 rfl rfl ?_
        refine G.get (g := 20) (i := 0) C 13 none dX6_imprint_36 (by decide) rfl rfl uX_X6 (by decide) uf_RX6_37 rfl rfl ?_
        refine G.iload_n C 1 dX6_imprint_39 rfl rfl ?_
        have hin_40 : vp_in a 20 := by
          exact vp_ofc b_7 hl hl20 (by decide)
        refine G.iald (g := 30) (i := 0) (n := 20) C dX6_imprint_40 (by decide) rfl hin_40 ?_
        refine G.topi (fun x3_41 ex3_41 => ?_)
        refine G.istore_n (L1 := [(3, .int x3_41), (0, .ref (w.2.2.2.1 20 0)), (1, .int a), (2, .int b)]) C dX6_imprint_41 rfl (by decide) rfl ?_
        refine G.aload_n C 1 dX6_imprint_42 rfl rfl ?_
        refine G.get (g := 20) (i := 0) C 13 none dX6_imprint_43 (by decide) rfl rfl uX_X6 (by decide) uf_RX6_37 rfl rfl ?_
        refine G.iload_n C 2 dX6_imprint_46 rfl rfl ?_
        refine G.iload_n C 3 dX6_imprint_47 rfl rfl ?_
        have hin_48 : vp_in a 20 := by
          exact vp_ofc b_7 hl hl20 (by decide)
        refine G.iast (g := 30) (i := 0) (n := 20) C dX6_imprint_48 (by decide) rfl hin_48 w_ast_30 ?_
        refine G.iload_n C 0 dX6_imprint_49 rfl rfl ?_
        subst hQ
        exact G.iret C hr dX6_imprint_50 (by
            exact Or.inr ⟨⟨b_7, Or.inr b_26⟩, rfl, ex3_41⟩)
      · have b_26 := wb_0 e_26 c_29
        refine G.bipush (v := -2) C dX6_imprint_32 (by decide) ?_
        subst hQ
        exact G.iret C hr dX6_imprint_34 (by
            refine Or.inl ⟨fun q => ?_, rfl, rfl⟩
            first | exact b_7 q.1 | exact q.2.elim c_16 b_26)
end
