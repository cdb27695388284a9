-- ===== PART A: goes FIRST, ahead of the names: the tables' words, and 'selects' of the private methods out of them =====
/-- a private method of a class that the tables say can be made, by its rows of tables_1 -/
def lw_okq (q : MethodName × Nat) : Prop := (q.1.cls ≠ "java/lang/invoke/MethodHandle" ∧ q.1.cls ≠ "java/lang/invoke/VarHandle") ∧ Cond.instantiable q.1.cls q.2 ∈ tables_1 ∧ Cond.privateMethod q.1 ∈ tables_1 ∧ Cond.instanceMethod q.1 ∈ tables_1
theorem lw_p0 : lw_okq (⟨"StrawDraws", "changeSetting", "(II)I"⟩, 8) := ⟨⟨by decide +kernel, by decide +kernel⟩, List.mem_of_getElem? (i := 13) (by decide +kernel), List.mem_of_getElem? (i := 213) (by decide +kernel), List.mem_of_getElem? (i := 214) (by decide +kernel)⟩
theorem lw_p1 : lw_okq (⟨"StrawDraws", "findMoves", "()I"⟩, 8) := ⟨⟨by decide +kernel, by decide +kernel⟩, List.mem_of_getElem? (i := 13) (by decide +kernel), List.mem_of_getElem? (i := 217) (by decide +kernel), List.mem_of_getElem? (i := 218) (by decide +kernel)⟩
theorem lw_p2 : lw_okq (⟨"StrawDraws", "layAll", "(LStrawDraws$Layout;)V"⟩, 8) := ⟨⟨by decide +kernel, by decide +kernel⟩, List.mem_of_getElem? (i := 13) (by decide +kernel), List.mem_of_getElem? (i := 221) (by decide +kernel), List.mem_of_getElem? (i := 222) (by decide +kernel)⟩
theorem lw_p3 : lw_okq (⟨"StrawDraws$Straws", "highest", "(LStrawDraws$State;II)I"⟩, 2) := ⟨⟨by decide +kernel, by decide +kernel⟩, List.mem_of_getElem? (i := 107) (by decide +kernel), List.mem_of_getElem? (i := 256) (by decide +kernel), List.mem_of_getElem? (i := 257) (by decide +kernel)⟩
theorem lw_p4 : lw_okq (⟨"StrawDraws", "recorded", "(I)I"⟩, 8) := ⟨⟨by decide +kernel, by decide +kernel⟩, List.mem_of_getElem? (i := 13) (by decide +kernel), List.mem_of_getElem? (i := 275) (by decide +kernel), List.mem_of_getElem? (i := 276) (by decide +kernel)⟩
theorem lw_p5 : lw_okq (⟨"StrawDraws", "buildServer", "(II)I"⟩, 8) := ⟨⟨by decide +kernel, by decide +kernel⟩, List.mem_of_getElem? (i := 13) (by decide +kernel), List.mem_of_getElem? (i := 287) (by decide +kernel), List.mem_of_getElem? (i := 288) (by decide +kernel)⟩
theorem lw_p6 : lw_okq (⟨"StrawDraws", "changeWeight", "(II)I"⟩, 8) := ⟨⟨by decide +kernel, by decide +kernel⟩, List.mem_of_getElem? (i := 13) (by decide +kernel), List.mem_of_getElem? (i := 301) (by decide +kernel), List.mem_of_getElem? (i := 302) (by decide +kernel)⟩
theorem lw_p7 : lw_okq (⟨"StrawDraws", "weightError", "(II)I"⟩, 8) := ⟨⟨by decide +kernel, by decide +kernel⟩, List.mem_of_getElem? (i := 13) (by decide +kernel), List.mem_of_getElem? (i := 305) (by decide +kernel), List.mem_of_getElem? (i := 306) (by decide +kernel)⟩
theorem lw_p8 : lw_okq (⟨"StrawDraws", "changeRack", "(II)I"⟩, 8) := ⟨⟨by decide +kernel, by decide +kernel⟩, List.mem_of_getElem? (i := 13) (by decide +kernel), List.mem_of_getElem? (i := 317) (by decide +kernel), List.mem_of_getElem? (i := 318) (by decide +kernel)⟩
theorem lw_p9 : lw_okq (⟨"StrawDraws", "changeDown", "(IZ)I"⟩, 8) := ⟨⟨by decide +kernel, by decide +kernel⟩, List.mem_of_getElem? (i := 13) (by decide +kernel), List.mem_of_getElem? (i := 325) (by decide +kernel), List.mem_of_getElem? (i := 326) (by decide +kernel)⟩
theorem lw_p10 : lw_okq (⟨"StrawDraws", "keepObject", "(I)I"⟩, 8) := ⟨⟨by decide +kernel, by decide +kernel⟩, List.mem_of_getElem? (i := 13) (by decide +kernel), List.mem_of_getElem? (i := 333) (by decide +kernel), List.mem_of_getElem? (i := 334) (by decide +kernel)⟩
theorem lw_p11 : lw_okq (⟨"StrawDraws", "dropObject", "(I)I"⟩, 8) := ⟨⟨by decide +kernel, by decide +kernel⟩, List.mem_of_getElem? (i := 13) (by decide +kernel), List.mem_of_getElem? (i := 349) (by decide +kernel), List.mem_of_getElem? (i := 350) (by decide +kernel)⟩
theorem lw_p12 : lw_okq (⟨"StrawDraws", "changePin", "(II)I"⟩, 8) := ⟨⟨by decide +kernel, by decide +kernel⟩, List.mem_of_getElem? (i := 13) (by decide +kernel), List.mem_of_getElem? (i := 361) (by decide +kernel), List.mem_of_getElem? (i := 362) (by decide +kernel)⟩
theorem lw_p13 : lw_okq (⟨"StrawDraws", "fairShare", "(ILStrawDraws$Layout;I)I"⟩, 8) := ⟨⟨by decide +kernel, by decide +kernel⟩, List.mem_of_getElem? (i := 13) (by decide +kernel), List.mem_of_getElem? (i := 374) (by decide +kernel), List.mem_of_getElem? (i := 375) (by decide +kernel)⟩
theorem lw_p14 : lw_okq (⟨"StrawDraws", "mostOverloaded", "()I"⟩, 8) := ⟨⟨by decide +kernel, by decide +kernel⟩, List.mem_of_getElem? (i := 13) (by decide +kernel), List.mem_of_getElem? (i := 421) (by decide +kernel), List.mem_of_getElem? (i := 422) (by decide +kernel)⟩
theorem lw_p15 : lw_okq (⟨"StrawDraws", "unevenness", "(LStrawDraws$Layout;)I"⟩, 8) := ⟨⟨by decide +kernel, by decide +kernel⟩, List.mem_of_getElem? (i := 13) (by decide +kernel), List.mem_of_getElem? (i := 444) (by decide +kernel), List.mem_of_getElem? (i := 445) (by decide +kernel)⟩
def lw_privs_1 : List (MethodName × Nat) := [(⟨"StrawDraws", "changeSetting", "(II)I"⟩, 8), (⟨"StrawDraws", "findMoves", "()I"⟩, 8), (⟨"StrawDraws", "layAll", "(LStrawDraws$Layout;)V"⟩, 8), (⟨"StrawDraws$Straws", "highest", "(LStrawDraws$State;II)I"⟩, 2), (⟨"StrawDraws", "recorded", "(I)I"⟩, 8), (⟨"StrawDraws", "buildServer", "(II)I"⟩, 8), (⟨"StrawDraws", "changeWeight", "(II)I"⟩, 8), (⟨"StrawDraws", "weightError", "(II)I"⟩, 8), (⟨"StrawDraws", "changeRack", "(II)I"⟩, 8), (⟨"StrawDraws", "changeDown", "(IZ)I"⟩, 8), (⟨"StrawDraws", "keepObject", "(I)I"⟩, 8), (⟨"StrawDraws", "dropObject", "(I)I"⟩, 8), (⟨"StrawDraws", "changePin", "(II)I"⟩, 8), (⟨"StrawDraws", "fairShare", "(ILStrawDraws$Layout;I)I"⟩, 8), (⟨"StrawDraws", "mostOverloaded", "()I"⟩, 8), (⟨"StrawDraws", "unevenness", "(LStrawDraws$Layout;)I"⟩, 8)]
theorem lw_r1 : ∀ q ∈ lw_privs_1, lw_okq q := List.forall_mem_cons.mpr ⟨lw_p0, List.forall_mem_cons.mpr ⟨lw_p1, List.forall_mem_cons.mpr ⟨lw_p2, List.forall_mem_cons.mpr ⟨lw_p3, List.forall_mem_cons.mpr ⟨lw_p4, List.forall_mem_cons.mpr ⟨lw_p5, List.forall_mem_cons.mpr ⟨lw_p6, List.forall_mem_cons.mpr ⟨lw_p7, List.forall_mem_cons.mpr ⟨lw_p8, List.forall_mem_cons.mpr ⟨lw_p9, List.forall_mem_cons.mpr ⟨lw_p10, List.forall_mem_cons.mpr ⟨lw_p11, List.forall_mem_cons.mpr ⟨lw_p12, List.forall_mem_cons.mpr ⟨lw_p13, List.forall_mem_cons.mpr ⟨lw_p14, List.forall_mem_cons.mpr ⟨lw_p15, fun _ h => absurd h List.not_mem_nil⟩⟩⟩⟩⟩⟩⟩⟩⟩⟩⟩⟩⟩⟩⟩⟩
theorem lw_p16 : lw_okq (⟨"StrawDraws$Pad", "readFirst", "()Z"⟩, 6) := ⟨⟨by decide +kernel, by decide +kernel⟩, List.mem_of_getElem? (i := 120) (by decide +kernel), List.mem_of_getElem? (i := 481) (by decide +kernel), List.mem_of_getElem? (i := 482) (by decide +kernel)⟩
theorem lw_p17 : lw_okq (⟨"StrawDraws$Pad", "readNumber", "()I"⟩, 6) := ⟨⟨by decide +kernel, by decide +kernel⟩, List.mem_of_getElem? (i := 120) (by decide +kernel), List.mem_of_getElem? (i := 485) (by decide +kernel), List.mem_of_getElem? (i := 486) (by decide +kernel)⟩
theorem lw_p18 : lw_okq (⟨"StrawDraws$Pad", "readSecond", "()Z"⟩, 6) := ⟨⟨by decide +kernel, by decide +kernel⟩, List.mem_of_getElem? (i := 120) (by decide +kernel), List.mem_of_getElem? (i := 493) (by decide +kernel), List.mem_of_getElem? (i := 494) (by decide +kernel)⟩
theorem lw_p19 : lw_okq (⟨"StrawDraws$Pad", "readNone", "()Z"⟩, 6) := ⟨⟨by decide +kernel, by decide +kernel⟩, List.mem_of_getElem? (i := 120) (by decide +kernel), List.mem_of_getElem? (i := 497) (by decide +kernel), List.mem_of_getElem? (i := 498) (by decide +kernel)⟩
theorem lw_p20 : lw_okq (⟨"StrawDraws", "carryOrder", "()I"⟩, 8) := ⟨⟨by decide +kernel, by decide +kernel⟩, List.mem_of_getElem? (i := 13) (by decide +kernel), List.mem_of_getElem? (i := 506) (by decide +kernel), List.mem_of_getElem? (i := 507) (by decide +kernel)⟩
theorem lw_p21 : lw_okq (⟨"StrawDrawsModel", "keep", "()V"⟩, 21) := ⟨⟨by decide +kernel, by decide +kernel⟩, List.mem_of_getElem? (i := 528) (by decide +kernel), List.mem_of_getElem? (i := 602) (by decide +kernel), List.mem_of_getElem? (i := 603) (by decide +kernel)⟩
theorem lw_p22 : lw_okq (⟨"StrawDrawsModel", "doSet", "(II)I"⟩, 21) := ⟨⟨by decide +kernel, by decide +kernel⟩, List.mem_of_getElem? (i := 528) (by decide +kernel), List.mem_of_getElem? (i := 606) (by decide +kernel), List.mem_of_getElem? (i := 607) (by decide +kernel)⟩
theorem lw_p23 : lw_okq (⟨"StrawDrawsModel", "noteBefore", "()V"⟩, 21) := ⟨⟨by decide +kernel, by decide +kernel⟩, List.mem_of_getElem? (i := 528) (by decide +kernel), List.mem_of_getElem? (i := 615) (by decide +kernel), List.mem_of_getElem? (i := 616) (by decide +kernel)⟩
theorem lw_p24 : lw_okq (⟨"StrawDrawsModel", "setOf", "(I)I"⟩, 21) := ⟨⟨by decide +kernel, by decide +kernel⟩, List.mem_of_getElem? (i := 528) (by decide +kernel), List.mem_of_getElem? (i := 619) (by decide +kernel), List.mem_of_getElem? (i := 620) (by decide +kernel)⟩
theorem lw_p25 : lw_okq (⟨"StrawDrawsModel", "findPlacesAt", "(I)V"⟩, 21) := ⟨⟨by decide +kernel, by decide +kernel⟩, List.mem_of_getElem? (i := 528) (by decide +kernel), List.mem_of_getElem? (i := 623) (by decide +kernel), List.mem_of_getElem? (i := 624) (by decide +kernel)⟩
theorem lw_p26 : lw_okq (⟨"StrawDrawsModel", "findPlaces", "(II)V"⟩, 21) := ⟨⟨by decide +kernel, by decide +kernel⟩, List.mem_of_getElem? (i := 528) (by decide +kernel), List.mem_of_getElem? (i := 627) (by decide +kernel), List.mem_of_getElem? (i := 628) (by decide +kernel)⟩
theorem lw_p27 : lw_okq (⟨"StrawDrawsModel", "takesPart", "(I)Z"⟩, 21) := ⟨⟨by decide +kernel, by decide +kernel⟩, List.mem_of_getElem? (i := 528) (by decide +kernel), List.mem_of_getElem? (i := 631) (by decide +kernel), List.mem_of_getElem? (i := 632) (by decide +kernel)⟩
theorem lw_p28 : lw_okq (⟨"StrawDrawsModel", "strawOf", "(II)I"⟩, 21) := ⟨⟨by decide +kernel, by decide +kernel⟩, List.mem_of_getElem? (i := 528) (by decide +kernel), List.mem_of_getElem? (i := 635) (by decide +kernel), List.mem_of_getElem? (i := 636) (by decide +kernel)⟩
theorem lw_p29 : lw_okq (⟨"StrawDrawsModel", "puts", "(I)V"⟩, 21) := ⟨⟨by decide +kernel, by decide +kernel⟩, List.mem_of_getElem? (i := 528) (by decide +kernel), List.mem_of_getElem? (i := 649) (by decide +kernel), List.mem_of_getElem? (i := 650) (by decide +kernel)⟩
theorem lw_p30 : lw_okq (⟨"StrawDrawsModel", "findMoves", "()I"⟩, 21) := ⟨⟨by decide +kernel, by decide +kernel⟩, List.mem_of_getElem? (i := 528) (by decide +kernel), List.mem_of_getElem? (i := 653) (by decide +kernel), List.mem_of_getElem? (i := 654) (by decide +kernel)⟩
theorem lw_p31 : lw_okq (⟨"StrawDrawsModel", "changed", "(I)I"⟩, 21) := ⟨⟨by decide +kernel, by decide +kernel⟩, List.mem_of_getElem? (i := 528) (by decide +kernel), List.mem_of_getElem? (i := 660) (by decide +kernel), List.mem_of_getElem? (i := 661) (by decide +kernel)⟩
def lw_privs_2 : List (MethodName × Nat) := [(⟨"StrawDraws$Pad", "readFirst", "()Z"⟩, 6), (⟨"StrawDraws$Pad", "readNumber", "()I"⟩, 6), (⟨"StrawDraws$Pad", "readSecond", "()Z"⟩, 6), (⟨"StrawDraws$Pad", "readNone", "()Z"⟩, 6), (⟨"StrawDraws", "carryOrder", "()I"⟩, 8), (⟨"StrawDrawsModel", "keep", "()V"⟩, 21), (⟨"StrawDrawsModel", "doSet", "(II)I"⟩, 21), (⟨"StrawDrawsModel", "noteBefore", "()V"⟩, 21), (⟨"StrawDrawsModel", "setOf", "(I)I"⟩, 21), (⟨"StrawDrawsModel", "findPlacesAt", "(I)V"⟩, 21), (⟨"StrawDrawsModel", "findPlaces", "(II)V"⟩, 21), (⟨"StrawDrawsModel", "takesPart", "(I)Z"⟩, 21), (⟨"StrawDrawsModel", "strawOf", "(II)I"⟩, 21), (⟨"StrawDrawsModel", "puts", "(I)V"⟩, 21), (⟨"StrawDrawsModel", "findMoves", "()I"⟩, 21), (⟨"StrawDrawsModel", "changed", "(I)I"⟩, 21)]
theorem lw_r2 : ∀ q ∈ lw_privs_2, lw_okq q := List.forall_mem_cons.mpr ⟨lw_p16, List.forall_mem_cons.mpr ⟨lw_p17, List.forall_mem_cons.mpr ⟨lw_p18, List.forall_mem_cons.mpr ⟨lw_p19, List.forall_mem_cons.mpr ⟨lw_p20, List.forall_mem_cons.mpr ⟨lw_p21, List.forall_mem_cons.mpr ⟨lw_p22, List.forall_mem_cons.mpr ⟨lw_p23, List.forall_mem_cons.mpr ⟨lw_p24, List.forall_mem_cons.mpr ⟨lw_p25, List.forall_mem_cons.mpr ⟨lw_p26, List.forall_mem_cons.mpr ⟨lw_p27, List.forall_mem_cons.mpr ⟨lw_p28, List.forall_mem_cons.mpr ⟨lw_p29, List.forall_mem_cons.mpr ⟨lw_p30, List.forall_mem_cons.mpr ⟨lw_p31, fun _ h => absurd h List.not_mem_nil⟩⟩⟩⟩⟩⟩⟩⟩⟩⟩⟩⟩⟩⟩⟩⟩
theorem lw_p32 : lw_okq (⟨"StrawDrawsModel", "doServer", "(II)I"⟩, 21) := ⟨⟨by decide +kernel, by decide +kernel⟩, List.mem_of_getElem? (i := 528) (by decide +kernel), List.mem_of_getElem? (i := 668) (by decide +kernel), List.mem_of_getElem? (i := 669) (by decide +kernel)⟩
theorem lw_p33 : lw_okq (⟨"StrawDrawsModel", "doWeigh", "(II)I"⟩, 21) := ⟨⟨by decide +kernel, by decide +kernel⟩, List.mem_of_getElem? (i := 528) (by decide +kernel), List.mem_of_getElem? (i := 684) (by decide +kernel), List.mem_of_getElem? (i := 685) (by decide +kernel)⟩
theorem lw_p34 : lw_okq (⟨"StrawDrawsModel", "isServer", "(I)Z"⟩, 21) := ⟨⟨by decide +kernel, by decide +kernel⟩, List.mem_of_getElem? (i := 528) (by decide +kernel), List.mem_of_getElem? (i := 688) (by decide +kernel), List.mem_of_getElem? (i := 689) (by decide +kernel)⟩
theorem lw_p35 : lw_okq (⟨"StrawDrawsModel", "doToRack", "(II)I"⟩, 21) := ⟨⟨by decide +kernel, by decide +kernel⟩, List.mem_of_getElem? (i := 528) (by decide +kernel), List.mem_of_getElem? (i := 696) (by decide +kernel), List.mem_of_getElem? (i := 697) (by decide +kernel)⟩
theorem lw_p36 : lw_okq (⟨"StrawDrawsModel", "doDown", "(II)I"⟩, 21) := ⟨⟨by decide +kernel, by decide +kernel⟩, List.mem_of_getElem? (i := 528) (by decide +kernel), List.mem_of_getElem? (i := 704) (by decide +kernel), List.mem_of_getElem? (i := 705) (by decide +kernel)⟩
theorem lw_p37 : lw_okq (⟨"StrawDrawsModel", "doStore", "(I)I"⟩, 21) := ⟨⟨by decide +kernel, by decide +kernel⟩, List.mem_of_getElem? (i := 528) (by decide +kernel), List.mem_of_getElem? (i := 712) (by decide +kernel), List.mem_of_getElem? (i := 713) (by decide +kernel)⟩
theorem lw_p38 : lw_okq (⟨"StrawDrawsModel", "placeOf", "(I)I"⟩, 21) := ⟨⟨by decide +kernel, by decide +kernel⟩, List.mem_of_getElem? (i := 528) (by decide +kernel), List.mem_of_getElem? (i := 720) (by decide +kernel), List.mem_of_getElem? (i := 721) (by decide +kernel)⟩
theorem lw_p39 : lw_okq (⟨"StrawDrawsModel", "doDrop", "(I)I"⟩, 21) := ⟨⟨by decide +kernel, by decide +kernel⟩, List.mem_of_getElem? (i := 528) (by decide +kernel), List.mem_of_getElem? (i := 728) (by decide +kernel), List.mem_of_getElem? (i := 729) (by decide +kernel)⟩
theorem lw_p40 : lw_okq (⟨"StrawDrawsModel", "doPin", "(II)I"⟩, 21) := ⟨⟨by decide +kernel, by decide +kernel⟩, List.mem_of_getElem? (i := 528) (by decide +kernel), List.mem_of_getElem? (i := 736) (by decide +kernel), List.mem_of_getElem? (i := 737) (by decide +kernel)⟩
theorem lw_p41 : lw_okq (⟨"StrawDrawsModel", "findLoads", "()V"⟩, 21) := ⟨⟨by decide +kernel, by decide +kernel⟩, List.mem_of_getElem? (i := 528) (by decide +kernel), List.mem_of_getElem? (i := 744) (by decide +kernel), List.mem_of_getElem? (i := 745) (by decide +kernel)⟩
theorem lw_p42 : lw_okq (⟨"StrawDrawsModel", "fairShare", "(I)I"⟩, 21) := ⟨⟨by decide +kernel, by decide +kernel⟩, List.mem_of_getElem? (i := 528) (by decide +kernel), List.mem_of_getElem? (i := 748) (by decide +kernel), List.mem_of_getElem? (i := 749) (by decide +kernel)⟩
theorem lw_p43 : lw_okq (⟨"StrawDrawsModel", "weights", "()I"⟩, 21) := ⟨⟨by decide +kernel, by decide +kernel⟩, List.mem_of_getElem? (i := 528) (by decide +kernel), List.mem_of_getElem? (i := 752) (by decide +kernel), List.mem_of_getElem? (i := 753) (by decide +kernel)⟩
theorem lw_p44 : lw_okq (⟨"StrawDrawsModel", "pinnedTo", "(I)I"⟩, 21) := ⟨⟨by decide +kernel, by decide +kernel⟩, List.mem_of_getElem? (i := 528) (by decide +kernel), List.mem_of_getElem? (i := 756) (by decide +kernel), List.mem_of_getElem? (i := 757) (by decide +kernel)⟩
theorem lw_p45 : lw_okq (⟨"StrawDrawsModel", "takingPart", "()I"⟩, 21) := ⟨⟨by decide +kernel, by decide +kernel⟩, List.mem_of_getElem? (i := 528) (by decide +kernel), List.mem_of_getElem? (i := 781) (by decide +kernel), List.mem_of_getElem? (i := 782) (by decide +kernel)⟩
theorem lw_p46 : lw_okq (⟨"StrawDrawsModel", "fullest", "()I"⟩, 21) := ⟨⟨by decide +kernel, by decide +kernel⟩, List.mem_of_getElem? (i := 528) (by decide +kernel), List.mem_of_getElem? (i := 785) (by decide +kernel), List.mem_of_getElem? (i := 786) (by decide +kernel)⟩
theorem lw_p47 : lw_okq (⟨"StrawDrawsModel", "above", "(I)I"⟩, 21) := ⟨⟨by decide +kernel, by decide +kernel⟩, List.mem_of_getElem? (i := 528) (by decide +kernel), List.mem_of_getElem? (i := 789) (by decide +kernel), List.mem_of_getElem? (i := 790) (by decide +kernel)⟩
def lw_privs_3 : List (MethodName × Nat) := [(⟨"StrawDrawsModel", "doServer", "(II)I"⟩, 21), (⟨"StrawDrawsModel", "doWeigh", "(II)I"⟩, 21), (⟨"StrawDrawsModel", "isServer", "(I)Z"⟩, 21), (⟨"StrawDrawsModel", "doToRack", "(II)I"⟩, 21), (⟨"StrawDrawsModel", "doDown", "(II)I"⟩, 21), (⟨"StrawDrawsModel", "doStore", "(I)I"⟩, 21), (⟨"StrawDrawsModel", "placeOf", "(I)I"⟩, 21), (⟨"StrawDrawsModel", "doDrop", "(I)I"⟩, 21), (⟨"StrawDrawsModel", "doPin", "(II)I"⟩, 21), (⟨"StrawDrawsModel", "findLoads", "()V"⟩, 21), (⟨"StrawDrawsModel", "fairShare", "(I)I"⟩, 21), (⟨"StrawDrawsModel", "weights", "()I"⟩, 21), (⟨"StrawDrawsModel", "pinnedTo", "(I)I"⟩, 21), (⟨"StrawDrawsModel", "takingPart", "()I"⟩, 21), (⟨"StrawDrawsModel", "fullest", "()I"⟩, 21), (⟨"StrawDrawsModel", "above", "(I)I"⟩, 21)]
theorem lw_r3 : ∀ q ∈ lw_privs_3, lw_okq q := List.forall_mem_cons.mpr ⟨lw_p32, List.forall_mem_cons.mpr ⟨lw_p33, List.forall_mem_cons.mpr ⟨lw_p34, List.forall_mem_cons.mpr ⟨lw_p35, List.forall_mem_cons.mpr ⟨lw_p36, List.forall_mem_cons.mpr ⟨lw_p37, List.forall_mem_cons.mpr ⟨lw_p38, List.forall_mem_cons.mpr ⟨lw_p39, List.forall_mem_cons.mpr ⟨lw_p40, List.forall_mem_cons.mpr ⟨lw_p41, List.forall_mem_cons.mpr ⟨lw_p42, List.forall_mem_cons.mpr ⟨lw_p43, List.forall_mem_cons.mpr ⟨lw_p44, List.forall_mem_cons.mpr ⟨lw_p45, List.forall_mem_cons.mpr ⟨lw_p46, List.forall_mem_cons.mpr ⟨lw_p47, fun _ h => absurd h List.not_mem_nil⟩⟩⟩⟩⟩⟩⟩⟩⟩⟩⟩⟩⟩⟩⟩⟩
theorem lw_p48 : lw_okq (⟨"StrawDrawsModel", "giveBack", "()V"⟩, 21) := ⟨⟨by decide +kernel, by decide +kernel⟩, List.mem_of_getElem? (i := 528) (by decide +kernel), List.mem_of_getElem? (i := 797) (by decide +kernel), List.mem_of_getElem? (i := 798) (by decide +kernel)⟩
theorem lw_p49 : lw_okq (⟨"StrawDrawsModel", "unevenness", "()I"⟩, 21) := ⟨⟨by decide +kernel, by decide +kernel⟩, List.mem_of_getElem? (i := 528) (by decide +kernel), List.mem_of_getElem? (i := 809) (by decide +kernel), List.mem_of_getElem? (i := 810) (by decide +kernel)⟩
theorem lw_p50 : lw_okq (⟨"StrawDrawsModel", "readsOrder", "()Z"⟩, 21) := ⟨⟨by decide +kernel, by decide +kernel⟩, List.mem_of_getElem? (i := 528) (by decide +kernel), List.mem_of_getElem? (i := 828) (by decide +kernel), List.mem_of_getElem? (i := 829) (by decide +kernel)⟩
theorem lw_p51 : lw_okq (⟨"StrawDrawsModel", "readsNumber", "()Z"⟩, 21) := ⟨⟨by decide +kernel, by decide +kernel⟩, List.mem_of_getElem? (i := 528) (by decide +kernel), List.mem_of_getElem? (i := 835) (by decide +kernel), List.mem_of_getElem? (i := 836) (by decide +kernel)⟩
theorem lw_p52 : lw_okq (⟨"StrawDrawsModel", "isHere", "(II)Z"⟩, 21) := ⟨⟨by decide +kernel, by decide +kernel⟩, List.mem_of_getElem? (i := 528) (by decide +kernel), List.mem_of_getElem? (i := 839) (by decide +kernel), List.mem_of_getElem? (i := 840) (by decide +kernel)⟩
theorem lw_p53 : lw_okq (⟨"StrawDrawsModel", "readsSecond", "()Z"⟩, 21) := ⟨⟨by decide +kernel, by decide +kernel⟩, List.mem_of_getElem? (i := 528) (by decide +kernel), List.mem_of_getElem? (i := 843) (by decide +kernel), List.mem_of_getElem? (i := 844) (by decide +kernel)⟩
theorem lw_p54 : lw_okq (⟨"StrawDrawsModel", "takes", "(I)Z"⟩, 21) := ⟨⟨by decide +kernel, by decide +kernel⟩, List.mem_of_getElem? (i := 528) (by decide +kernel), List.mem_of_getElem? (i := 847) (by decide +kernel), List.mem_of_getElem? (i := 848) (by decide +kernel)⟩
theorem lw_p55 : lw_okq (⟨"StrawDrawsModel", "doOrder", "()I"⟩, 21) := ⟨⟨by decide +kernel, by decide +kernel⟩, List.mem_of_getElem? (i := 528) (by decide +kernel), List.mem_of_getElem? (i := 856) (by decide +kernel), List.mem_of_getElem? (i := 857) (by decide +kernel)⟩
def lw_privs_4 : List (MethodName × Nat) := [(⟨"StrawDrawsModel", "giveBack", "()V"⟩, 21), (⟨"StrawDrawsModel", "unevenness", "()I"⟩, 21), (⟨"StrawDrawsModel", "readsOrder", "()Z"⟩, 21), (⟨"StrawDrawsModel", "readsNumber", "()Z"⟩, 21), (⟨"StrawDrawsModel", "isHere", "(II)Z"⟩, 21), (⟨"StrawDrawsModel", "readsSecond", "()Z"⟩, 21), (⟨"StrawDrawsModel", "takes", "(I)Z"⟩, 21), (⟨"StrawDrawsModel", "doOrder", "()I"⟩, 21)]
theorem lw_r4 : ∀ q ∈ lw_privs_4, lw_okq q := List.forall_mem_cons.mpr ⟨lw_p48, List.forall_mem_cons.mpr ⟨lw_p49, List.forall_mem_cons.mpr ⟨lw_p50, List.forall_mem_cons.mpr ⟨lw_p51, List.forall_mem_cons.mpr ⟨lw_p52, List.forall_mem_cons.mpr ⟨lw_p53, List.forall_mem_cons.mpr ⟨lw_p54, List.forall_mem_cons.mpr ⟨lw_p55, fun _ h => absurd h List.not_mem_nil⟩⟩⟩⟩⟩⟩⟩⟩
def lw_privs : List (MethodName × Nat) := lw_privs_1 ++ (lw_privs_2 ++ (lw_privs_3 ++ (lw_privs_4)))
def lw_tbl : List Cond := k2_sels lw_privs ++ tables_1
theorem lw_privs_ok : ∀ q ∈ lw_privs, lw_okq q := by
  show ∀ q ∈ lw_privs_1 ++ (lw_privs_2 ++ (lw_privs_3 ++ (lw_privs_4))), lw_okq q
  exact List.forall_mem_append.mpr ⟨lw_r1, List.forall_mem_append.mpr ⟨lw_r2, List.forall_mem_append.mpr ⟨lw_r3, lw_r4⟩⟩⟩
-- ===== end of PART A
def RX0 : String := "StrawDraws$History"
def TX0 : u_T := fun k => match k with
  | 0 => ("StrawDraws$History", "states", "[LStrawDraws$State;", true)
  | 1 => ("StrawDraws$History", "oldest", "I", false)
  | _ => ("StrawDraws$History", "size", "I", false)
def tyX0 : Nat → FieldType := fun k => match k with
  | 0 => .array (.object "StrawDraws$State")
  | 1 => .int
  | _ => .int
theorem nmX0 : ∀ a, a < 3 → ∀ b, b < 3 → a ≠ b → (TX0 a).2.1 ≠ (TX0 b).2.1 := by decide +kernel
theorem tyX0_ok : ∀ k, k < 3 → parseFieldDescriptor (TX0 k).2.2.1 = some (tyX0 k) := by decide +kernel
abbrev cX0_init : ByteArray := prog_2_method_1_code
def yX0_init : MethodName := ⟨RX0, "<init>", "()V"⟩
abbrev cX0_draft : ByteArray := prog_2_method_2_code
def yX0_draft : MethodName := ⟨RX0, "draft", "(LStrawDraws$State;)V"⟩
abbrev cX0_keepDraft : ByteArray := prog_2_method_3_code
def yX0_keepDraft : MethodName := ⟨RX0, "keepDraft", "()V"⟩
abbrev cX0_takeLatest : ByteArray := prog_2_method_4_code
def yX0_takeLatest : MethodName := ⟨RX0, "takeLatest", "(LStrawDraws$State;)V"⟩
def RX1 : String := "StrawDraws$Layout"
def TX1 : u_T := fun k => match k with
  | 0 => ("StrawDraws$Layout", "copies", "[I", true)
  | 1 => ("StrawDraws$Layout", "servers", "[I", true)
  | 2 => ("StrawDraws$Layout", "load", "[I", true)
  | _ => ("StrawDraws$Layout", "total", "I", false)
def tyX1 : Nat → FieldType := fun k => match k with
  | 0 => .array .int
  | 1 => .array .int
  | 2 => .array .int
  | _ => .int
theorem nmX1 : ∀ a, a < 4 → ∀ b, b < 4 → a ≠ b → (TX1 a).2.1 ≠ (TX1 b).2.1 := by decide +kernel
theorem tyX1_ok : ∀ k, k < 4 → parseFieldDescriptor (TX1 k).2.2.1 = some (tyX1 k) := by decide +kernel
abbrev cX1_init : ByteArray := prog_3_method_1_code
def yX1_init : MethodName := ⟨RX1, "<init>", "()V"⟩
abbrev cX1_clear : ByteArray := prog_3_method_2_code
def yX1_clear : MethodName := ⟨RX1, "clear", "()V"⟩
abbrev cX1_add : ByteArray := prog_3_method_3_code
def yX1_add : MethodName := ⟨RX1, "add", "(II)V"⟩
abbrev cX1_serverOf : ByteArray := prog_3_method_4_code
def yX1_serverOf : MethodName := ⟨RX1, "serverOf", "(II)I"⟩
abbrev cX1_serversOf : ByteArray := prog_3_method_5_code
def yX1_serversOf : MethodName := ⟨RX1, "serversOf", "(I)I"⟩
abbrev cX1_firstCopies : ByteArray := prog_3_method_6_code
def yX1_firstCopies : MethodName := ⟨RX1, "firstCopies", "(II)I"⟩
abbrev cX1_rowsBelow : ByteArray := prog_3_method_7_code
def yX1_rowsBelow : MethodName := ⟨RX1, "rowsBelow", "(II)I"⟩
def RX2 : String := "StrawDraws$Pad"
def TX2 : u_T := fun k => match k with
  | 0 => ("StrawDraws$Pad", "signs", "[C", true)
  | 1 => ("StrawDraws$Pad", "length", "I", false)
  | 2 => ("StrawDraws$Pad", "at", "I", false)
  | 3 => ("StrawDraws$Pad", "kind", "C", false)
  | 4 => ("StrawDraws$Pad", "first", "I", false)
  | _ => ("StrawDraws$Pad", "second", "I", false)
def tyX2 : Nat → FieldType := fun k => match k with
  | 0 => .array .char
  | 1 => .int
  | 2 => .int
  | 3 => .char
  | 4 => .int
  | _ => .int
theorem nmX2 : ∀ a, a < 6 → ∀ b, b < 6 → a ≠ b → (TX2 a).2.1 ≠ (TX2 b).2.1 := by decide +kernel
theorem tyX2_ok : ∀ k, k < 6 → parseFieldDescriptor (TX2 k).2.2.1 = some (tyX2 k) := by decide +kernel
abbrev cX2_init : ByteArray := prog_4_method_1_code
def yX2_init : MethodName := ⟨RX2, "<init>", "()V"⟩
abbrev cX2_signsIn : ByteArray := prog_4_method_2_code
def yX2_signsIn : MethodName := ⟨RX2, "signsIn", "(J)I"⟩
abbrev cX2_append : ByteArray := prog_4_method_3_code
def yX2_append : MethodName := ⟨RX2, "append", "(JI)V"⟩
abbrev cX2_firstFault : ByteArray := prog_4_method_4_code
def yX2_firstFault : MethodName := ⟨RX2, "firstFault", "()I"⟩
abbrev cX2_readOrder : ByteArray := prog_4_method_5_code
def yX2_readOrder : MethodName := ⟨RX2, "readOrder", "()Z"⟩
abbrev cX2_skip : ByteArray := prog_4_method_6_code
def yX2_skip : MethodName := ⟨RX2, "skip", "(C)Z"⟩
abbrev cX2_readNone : ByteArray := prog_4_method_7_code
def yX2_readNone : MethodName := ⟨RX2, "readNone", "()Z"⟩
abbrev cX2_readFirst : ByteArray := prog_4_method_8_code
def yX2_readFirst : MethodName := ⟨RX2, "readFirst", "()Z"⟩
abbrev cX2_readSecond : ByteArray := prog_4_method_9_code
def yX2_readSecond : MethodName := ⟨RX2, "readSecond", "()Z"⟩
abbrev cX2_readNumber : ByteArray := prog_4_method_10_code
def yX2_readNumber : MethodName := ⟨RX2, "readNumber", "()I"⟩
def RX3 : String := "StrawDraws$State"
def TX3 : u_T := fun k => match k with
  | 0 => ("StrawDraws$State", "copies", "I", false)
  | 1 => ("StrawDraws$State", "salt", "I", false)
  | 2 => ("StrawDraws$State", "servers", "I", false)
  | 3 => ("StrawDraws$State", "rack", "[I", true)
  | 4 => ("StrawDraws$State", "weight", "[I", true)
  | 5 => ("StrawDraws$State", "isDown", "[Z", true)
  | 6 => ("StrawDraws$State", "objects", "I", false)
  | 7 => ("StrawDraws$State", "object", "[I", true)
  | 8 => ("StrawDraws$State", "pinnedTo", "[I", true)
  | 9 => ("StrawDraws$State", "moves", "I", false)
  | 10 => ("StrawDraws$State", "moved", "[I", true)
  | 11 => ("StrawDraws$State", "movedFrom", "[I", true)
  | _ => ("StrawDraws$State", "movedTo", "[I", true)
def tyX3 : Nat → FieldType := fun k => match k with
  | 0 => .int
  | 1 => .int
  | 2 => .int
  | 3 => .array .int
  | 4 => .array .int
  | 5 => .array .boolean
  | 6 => .int
  | 7 => .array .int
  | 8 => .array .int
  | 9 => .int
  | 10 => .array .int
  | 11 => .array .int
  | _ => .array .int
theorem nmX3 : ∀ a, a < 13 → ∀ b, b < 13 → a ≠ b → (TX3 a).2.1 ≠ (TX3 b).2.1 := by decide +kernel
theorem tyX3_ok : ∀ k, k < 13 → parseFieldDescriptor (TX3 k).2.2.1 = some (tyX3 k) := by decide +kernel
abbrev cX3_init : ByteArray := prog_5_method_1_code
def yX3_init : MethodName := ⟨RX3, "<init>", "()V"⟩
abbrev cX3_copyFrom : ByteArray := prog_5_method_2_code
def yX3_copyFrom : MethodName := ⟨RX3, "copyFrom", "(LStrawDraws$State;)V"⟩
abbrev cX3_hasServer : ByteArray := prog_5_method_3_code
def yX3_hasServer : MethodName := ⟨RX3, "hasServer", "(I)Z"⟩
abbrev cX3_takesPart : ByteArray := prog_5_method_4_code
def yX3_takesPart : MethodName := ⟨RX3, "takesPart", "(I)Z"⟩
abbrev cX3_serversTakingPart : ByteArray := prog_5_method_5_code
def yX3_serversTakingPart : MethodName := ⟨RX3, "serversTakingPart", "()I"⟩
abbrev cX3_weightsTogether : ByteArray := prog_5_method_6_code
def yX3_weightsTogether : MethodName := ⟨RX3, "weightsTogether", "()I"⟩
abbrev cX3_pinsTo : ByteArray := prog_5_method_7_code
def yX3_pinsTo : MethodName := ⟨RX3, "pinsTo", "(I)I"⟩
abbrev cX3_rowOf : ByteArray := prog_5_method_8_code
def yX3_rowOf : MethodName := ⟨RX3, "rowOf", "(I)I"⟩
abbrev cX3_insert : ByteArray := prog_5_method_9_code
def yX3_insert : MethodName := ⟨RX3, "insert", "(I)I"⟩
abbrev cX3_remove : ByteArray := prog_5_method_10_code
def yX3_remove : MethodName := ⟨RX3, "remove", "(I)V"⟩
abbrev cX3_addMoves : ByteArray := prog_5_method_11_code
def yX3_addMoves : MethodName := ⟨RX3, "addMoves", "(III)V"⟩
abbrev cX3_nthServer : ByteArray := prog_5_method_12_code
def yX3_nthServer : MethodName := ⟨RX3, "nthServer", "(II)I"⟩
def RX4 : String := "StrawDraws$Straws"
def TX4 : u_T := fun k => match k with
  | 0 => ("StrawDraws$Straws", "length", "[I", true)
  | _ => ("StrawDraws$Straws", "drawnFor", "[I", true)
def tyX4 : Nat → FieldType := fun k => match k with
  | 0 => .array .int
  | _ => .array .int
theorem nmX4 : ∀ a, a < 2 → ∀ b, b < 2 → a ≠ b → (TX4 a).2.1 ≠ (TX4 b).2.1 := by decide +kernel
theorem tyX4_ok : ∀ k, k < 2 → parseFieldDescriptor (TX4 k).2.2.1 = some (tyX4 k) := by decide +kernel
abbrev cX4_init : ByteArray := prog_6_method_1_code
def yX4_init : MethodName := ⟨RX4, "<init>", "()V"⟩
abbrev cX4_draw : ByteArray := prog_6_method_2_code
def yX4_draw : MethodName := ⟨RX4, "draw", "(LStrawDraws$State;II)V"⟩
abbrev cX4_lay : ByteArray := prog_6_method_3_code
def yX4_lay : MethodName := ⟨RX4, "lay", "(LStrawDraws$State;IILStrawDraws$Layout;)V"⟩
abbrev cX4_highest : ByteArray := prog_6_method_4_code
def yX4_highest : MethodName := ⟨RX4, "highest", "(LStrawDraws$State;II)I"⟩
abbrev cX4_longest : ByteArray := prog_6_method_5_code
def yX4_longest : MethodName := ⟨RX4, "longest", "(III)I"⟩
abbrev cX4_stir : ByteArray := prog_6_method_6_code
def yX4_stir : MethodName := ⟨RX4, "stir", "(I)I"⟩
def RX5 : String := "StrawDraws"
def TX5 : u_T := fun k => match k with
  | 0 => ("StrawDraws", "now", "LStrawDraws$State;", true)
  | 1 => ("StrawDraws", "history", "LStrawDraws$History;", true)
  | 2 => ("StrawDraws", "slots", "[LStrawDraws$State;", true)
  | 3 => ("StrawDraws", "isSaved", "[Z", true)
  | 4 => ("StrawDraws", "straws", "LStrawDraws$Straws;", true)
  | 5 => ("StrawDraws", "pad", "LStrawDraws$Pad;", true)
  | 6 => ("StrawDraws", "places", "LStrawDraws$Layout;", false)
  | _ => ("StrawDraws", "tried", "LStrawDraws$Layout;", false)
def tyX5 : Nat → FieldType := fun k => match k with
  | 0 => .object "StrawDraws$State"
  | 1 => .object "StrawDraws$History"
  | 2 => .array (.object "StrawDraws$State")
  | 3 => .array .boolean
  | 4 => .object "StrawDraws$Straws"
  | 5 => .object "StrawDraws$Pad"
  | 6 => .object "StrawDraws$Layout"
  | _ => .object "StrawDraws$Layout"
theorem nmX5 : ∀ a, a < 8 → ∀ b, b < 8 → a ≠ b → (TX5 a).2.1 ≠ (TX5 b).2.1 := by decide +kernel
theorem tyX5_ok : ∀ k, k < 8 → parseFieldDescriptor (TX5 k).2.2.1 = some (tyX5 k) := by decide +kernel
abbrev cX5_init : ByteArray := prog_1_method_1_code
def yX5_init : MethodName := ⟨RX5, "<init>", "()V"⟩
abbrev cX5_set : ByteArray := prog_1_method_2_code
def yX5_set : MethodName := ⟨RX5, "set", "(II)I"⟩
abbrev cX5_server : ByteArray := prog_1_method_3_code
def yX5_server : MethodName := ⟨RX5, "server", "(II)I"⟩
abbrev cX5_weigh : ByteArray := prog_1_method_4_code
def yX5_weigh : MethodName := ⟨RX5, "weigh", "(II)I"⟩
abbrev cX5_toRack : ByteArray := prog_1_method_5_code
def yX5_toRack : MethodName := ⟨RX5, "toRack", "(II)I"⟩
abbrev cX5_down : ByteArray := prog_1_method_6_code
def yX5_down : MethodName := ⟨RX5, "down", "(IZ)I"⟩
abbrev cX5_store : ByteArray := prog_1_method_7_code
def yX5_store : MethodName := ⟨RX5, "store", "(I)I"⟩
abbrev cX5_drop : ByteArray := prog_1_method_8_code
def yX5_drop : MethodName := ⟨RX5, "drop", "(I)I"⟩
abbrev cX5_pin : ByteArray := prog_1_method_9_code
def yX5_pin : MethodName := ⟨RX5, "pin", "(II)I"⟩
abbrev cX5_ofServer : ByteArray := prog_1_method_10_code
def yX5_ofServer : MethodName := ⟨RX5, "ofServer", "(II)I"⟩
abbrev cX5_place : ByteArray := prog_1_method_11_code
def yX5_place : MethodName := ⟨RX5, "place", "(II)I"⟩
abbrev cX5_straw : ByteArray := prog_1_method_12_code
def yX5_straw : MethodName := ⟨RX5, "straw", "(II)I"⟩
abbrev cX5_move : ByteArray := prog_1_method_13_code
def yX5_move : MethodName := ⟨RX5, "move", "(II)I"⟩
abbrev cX5_object : ByteArray := prog_1_method_14_code
def yX5_object : MethodName := ⟨RX5, "object", "(II)I"⟩
abbrev cX5_count : ByteArray := prog_1_method_15_code
def yX5_count : MethodName := ⟨RX5, "count", "(I)I"⟩
abbrev cX5_movesIf : ByteArray := prog_1_method_16_code
def yX5_movesIf : MethodName := ⟨RX5, "movesIf", "(II)I"⟩
abbrev cX5_lostWith : ByteArray := prog_1_method_17_code
def yX5_lostWith : MethodName := ⟨RX5, "lostWith", "(II)I"⟩
abbrev cX5_bestWeight : ByteArray := prog_1_method_18_code
def yX5_bestWeight : MethodName := ⟨RX5, "bestWeight", "(II)I"⟩
abbrev cX5_put : ByteArray := prog_1_method_19_code
def yX5_put : MethodName := ⟨RX5, "put", "(J)I"⟩
abbrev cX5_wipe : ByteArray := prog_1_method_20_code
def yX5_wipe : MethodName := ⟨RX5, "wipe", "()I"⟩
abbrev cX5_fault : ByteArray := prog_1_method_21_code
def yX5_fault : MethodName := ⟨RX5, "fault", "()I"⟩
abbrev cX5_carryOut : ByteArray := prog_1_method_22_code
def yX5_carryOut : MethodName := ⟨RX5, "carryOut", "()I"⟩
abbrev cX5_undo : ByteArray := prog_1_method_23_code
def yX5_undo : MethodName := ⟨RX5, "undo", "()I"⟩
abbrev cX5_save : ByteArray := prog_1_method_24_code
def yX5_save : MethodName := ⟨RX5, "save", "(I)I"⟩
abbrev cX5_restore : ByteArray := prog_1_method_25_code
def yX5_restore : MethodName := ⟨RX5, "restore", "(I)I"⟩
abbrev cX5_changeSetting : ByteArray := prog_1_method_26_code
def yX5_changeSetting : MethodName := ⟨RX5, "changeSetting", "(II)I"⟩
abbrev cX5_buildServer : ByteArray := prog_1_method_27_code
def yX5_buildServer : MethodName := ⟨RX5, "buildServer", "(II)I"⟩
abbrev cX5_changeWeight : ByteArray := prog_1_method_28_code
def yX5_changeWeight : MethodName := ⟨RX5, "changeWeight", "(II)I"⟩
abbrev cX5_changeRack : ByteArray := prog_1_method_29_code
def yX5_changeRack : MethodName := ⟨RX5, "changeRack", "(II)I"⟩
abbrev cX5_changeDown : ByteArray := prog_1_method_30_code
def yX5_changeDown : MethodName := ⟨RX5, "changeDown", "(IZ)I"⟩
abbrev cX5_keepObject : ByteArray := prog_1_method_31_code
def yX5_keepObject : MethodName := ⟨RX5, "keepObject", "(I)I"⟩
abbrev cX5_dropObject : ByteArray := prog_1_method_32_code
def yX5_dropObject : MethodName := ⟨RX5, "dropObject", "(I)I"⟩
abbrev cX5_changePin : ByteArray := prog_1_method_33_code
def yX5_changePin : MethodName := ⟨RX5, "changePin", "(II)I"⟩
abbrev cX5_carryOrder : ByteArray := prog_1_method_34_code
def yX5_carryOrder : MethodName := ⟨RX5, "carryOrder", "()I"⟩
abbrev cX5_recorded : ByteArray := prog_1_method_35_code
def yX5_recorded : MethodName := ⟨RX5, "recorded", "(I)I"⟩
abbrev cX5_weightError : ByteArray := prog_1_method_36_code
def yX5_weightError : MethodName := ⟨RX5, "weightError", "(II)I"⟩
abbrev cX5_isWeight : ByteArray := prog_1_method_37_code
def yX5_isWeight : MethodName := ⟨RX5, "isWeight", "(I)Z"⟩
abbrev cX5_isRack : ByteArray := prog_1_method_38_code
def yX5_isRack : MethodName := ⟨RX5, "isRack", "(I)Z"⟩
abbrev cX5_layAll : ByteArray := prog_1_method_39_code
def yX5_layAll : MethodName := ⟨RX5, "layAll", "(LStrawDraws$Layout;)V"⟩
abbrev cX5_findMoves : ByteArray := prog_1_method_40_code
def yX5_findMoves : MethodName := ⟨RX5, "findMoves", "()I"⟩
abbrev cX5_fairShare : ByteArray := prog_1_method_41_code
def yX5_fairShare : MethodName := ⟨RX5, "fairShare", "(ILStrawDraws$Layout;I)I"⟩
abbrev cX5_unevenness : ByteArray := prog_1_method_42_code
def yX5_unevenness : MethodName := ⟨RX5, "unevenness", "(LStrawDraws$Layout;)I"⟩
abbrev cX5_mostOverloaded : ByteArray := prog_1_method_43_code
def yX5_mostOverloaded : MethodName := ⟨RX5, "mostOverloaded", "()I"⟩
def RX6 : String := "StrawDrawsModel"
def TX6 : u_T := fun k => match k with
  | 0 => ("StrawDrawsModel", "all", "[I", true)
  | 1 => ("StrawDrawsModel", "kept", "[I", true)
  | 2 => ("StrawDrawsModel", "history", "[I", true)
  | 3 => ("StrawDrawsModel", "historyLong", "I", false)
  | 4 => ("StrawDrawsModel", "slots", "[I", true)
  | 5 => ("StrawDrawsModel", "isSaved", "[I", true)
  | 6 => ("StrawDrawsModel", "straws", "[I", true)
  | 7 => ("StrawDrawsModel", "places", "[I", true)
  | 8 => ("StrawDrawsModel", "placed", "I", false)
  | 9 => ("StrawDrawsModel", "before", "[I", true)
  | 10 => ("StrawDrawsModel", "load", "[I", true)
  | 11 => ("StrawDrawsModel", "firsts", "[I", true)
  | 12 => ("StrawDrawsModel", "copies", "I", false)
  | 13 => ("StrawDrawsModel", "few", "I", false)
  | 14 => ("StrawDrawsModel", "pad", "[I", true)
  | 15 => ("StrawDrawsModel", "padLong", "I", false)
  | 16 => ("StrawDrawsModel", "spot", "I", false)
  | 17 => ("StrawDrawsModel", "order", "I", false)
  | 18 => ("StrawDrawsModel", "first", "I", false)
  | 19 => ("StrawDrawsModel", "second", "I", false)
  | _ => ("StrawDrawsModel", "number", "I", false)
def tyX6 : Nat → FieldType := fun k => match k with
  | 0 => .array .int
  | 1 => .array .int
  | 2 => .array .int
  | 3 => .int
  | 4 => .array .int
  | 5 => .array .int
  | 6 => .array .int
  | 7 => .array .int
  | 8 => .int
  | 9 => .array .int
  | 10 => .array .int
  | 11 => .array .int
  | 12 => .int
  | 13 => .int
  | 14 => .array .int
  | 15 => .int
  | 16 => .int
  | 17 => .int
  | 18 => .int
  | 19 => .int
  | _ => .int
theorem nmX6 : ∀ a, a < 21 → ∀ b, b < 21 → a ≠ b → (TX6 a).2.1 ≠ (TX6 b).2.1 := by decide +kernel
theorem tyX6_ok : ∀ k, k < 21 → parseFieldDescriptor (TX6 k).2.2.1 = some (tyX6 k) := by decide +kernel
abbrev cX6_init : ByteArray := prog_8_method_1_code
def yX6_init : MethodName := ⟨RX6, "<init>", "()V"⟩
abbrev cX6_in : ByteArray := prog_8_method_3_code
def yX6_in : MethodName := ⟨RX6, "in", "(JJJ)Z"⟩
abbrev cX6_keep : ByteArray := prog_8_method_4_code
def yX6_keep : MethodName := ⟨RX6, "keep", "()V"⟩
abbrev cX6_giveBack : ByteArray := prog_8_method_5_code
def yX6_giveBack : MethodName := ⟨RX6, "giveBack", "()V"⟩
abbrev cX6_changed : ByteArray := prog_8_method_6_code
def yX6_changed : MethodName := ⟨RX6, "changed", "(I)I"⟩
abbrev cX6_isServer : ByteArray := prog_8_method_7_code
def yX6_isServer : MethodName := ⟨RX6, "isServer", "(I)Z"⟩
abbrev cX6_isRack : ByteArray := prog_8_method_8_code
def yX6_isRack : MethodName := ⟨RX6, "isRack", "(I)Z"⟩
abbrev cX6_isWeight : ByteArray := prog_8_method_9_code
def yX6_isWeight : MethodName := ⟨RX6, "isWeight", "(I)Z"⟩
abbrev cX6_isObject : ByteArray := prog_8_method_10_code
def yX6_isObject : MethodName := ⟨RX6, "isObject", "(I)Z"⟩
abbrev cX6_takesPart : ByteArray := prog_8_method_11_code
def yX6_takesPart : MethodName := ⟨RX6, "takesPart", "(I)Z"⟩
abbrev cX6_stir : ByteArray := prog_8_method_12_code
def yX6_stir : MethodName := ⟨RX6, "stir", "(J)J"⟩
abbrev cX6_strawOf : ByteArray := prog_8_method_13_code
def yX6_strawOf : MethodName := ⟨RX6, "strawOf", "(II)I"⟩
abbrev cX6_placeOf : ByteArray := prog_8_method_14_code
def yX6_placeOf : MethodName := ⟨RX6, "placeOf", "(I)I"⟩
abbrev cX6_puts : ByteArray := prog_8_method_15_code
def yX6_puts : MethodName := ⟨RX6, "puts", "(I)V"⟩
abbrev cX6_findPlaces : ByteArray := prog_8_method_16_code
def yX6_findPlaces : MethodName := ⟨RX6, "findPlaces", "(II)V"⟩
abbrev cX6_findPlacesAt : ByteArray := prog_8_method_17_code
def yX6_findPlacesAt : MethodName := ⟨RX6, "findPlacesAt", "(I)V"⟩
abbrev cX6_setOf : ByteArray := prog_8_method_18_code
def yX6_setOf : MethodName := ⟨RX6, "setOf", "(I)I"⟩
abbrev cX6_noteBefore : ByteArray := prog_8_method_19_code
def yX6_noteBefore : MethodName := ⟨RX6, "noteBefore", "()V"⟩
abbrev cX6_lowest : ByteArray := prog_8_method_20_code
def yX6_lowest : MethodName := ⟨RX6, "lowest", "(I)I"⟩
abbrev cX6_findMoves : ByteArray := prog_8_method_21_code
def yX6_findMoves : MethodName := ⟨RX6, "findMoves", "()I"⟩
abbrev cX6_doSet : ByteArray := prog_8_method_22_code
def yX6_doSet : MethodName := ⟨RX6, "doSet", "(II)I"⟩
abbrev cX6_doServer : ByteArray := prog_8_method_23_code
def yX6_doServer : MethodName := ⟨RX6, "doServer", "(II)I"⟩
abbrev cX6_doWeigh : ByteArray := prog_8_method_24_code
def yX6_doWeigh : MethodName := ⟨RX6, "doWeigh", "(II)I"⟩
abbrev cX6_doToRack : ByteArray := prog_8_method_25_code
def yX6_doToRack : MethodName := ⟨RX6, "doToRack", "(II)I"⟩
abbrev cX6_doDown : ByteArray := prog_8_method_26_code
def yX6_doDown : MethodName := ⟨RX6, "doDown", "(II)I"⟩
abbrev cX6_doStore : ByteArray := prog_8_method_27_code
def yX6_doStore : MethodName := ⟨RX6, "doStore", "(I)I"⟩
abbrev cX6_doDrop : ByteArray := prog_8_method_28_code
def yX6_doDrop : MethodName := ⟨RX6, "doDrop", "(I)I"⟩
abbrev cX6_doPin : ByteArray := prog_8_method_29_code
def yX6_doPin : MethodName := ⟨RX6, "doPin", "(II)I"⟩
abbrev cX6_set : ByteArray := prog_8_method_30_code
def yX6_set : MethodName := ⟨RX6, "set", "(II)I"⟩
abbrev cX6_server : ByteArray := prog_8_method_31_code
def yX6_server : MethodName := ⟨RX6, "server", "(II)I"⟩
abbrev cX6_weigh : ByteArray := prog_8_method_32_code
def yX6_weigh : MethodName := ⟨RX6, "weigh", "(II)I"⟩
abbrev cX6_toRack : ByteArray := prog_8_method_33_code
def yX6_toRack : MethodName := ⟨RX6, "toRack", "(II)I"⟩
abbrev cX6_down : ByteArray := prog_8_method_34_code
def yX6_down : MethodName := ⟨RX6, "down", "(IZ)I"⟩
abbrev cX6_store : ByteArray := prog_8_method_35_code
def yX6_store : MethodName := ⟨RX6, "store", "(I)I"⟩
abbrev cX6_drop : ByteArray := prog_8_method_36_code
def yX6_drop : MethodName := ⟨RX6, "drop", "(I)I"⟩
abbrev cX6_pin : ByteArray := prog_8_method_37_code
def yX6_pin : MethodName := ⟨RX6, "pin", "(II)I"⟩
abbrev cX6_findLoads : ByteArray := prog_8_method_38_code
def yX6_findLoads : MethodName := ⟨RX6, "findLoads", "()V"⟩
abbrev cX6_weights : ByteArray := prog_8_method_39_code
def yX6_weights : MethodName := ⟨RX6, "weights", "()I"⟩
abbrev cX6_fairShare : ByteArray := prog_8_method_40_code
def yX6_fairShare : MethodName := ⟨RX6, "fairShare", "(I)I"⟩
abbrev cX6_pinnedTo : ByteArray := prog_8_method_41_code
def yX6_pinnedTo : MethodName := ⟨RX6, "pinnedTo", "(I)I"⟩
abbrev cX6_ofServer : ByteArray := prog_8_method_42_code
def yX6_ofServer : MethodName := ⟨RX6, "ofServer", "(II)I"⟩
abbrev cX6_place : ByteArray := prog_8_method_43_code
def yX6_place : MethodName := ⟨RX6, "place", "(II)I"⟩
abbrev cX6_straw : ByteArray := prog_8_method_44_code
def yX6_straw : MethodName := ⟨RX6, "straw", "(II)I"⟩
abbrev cX6_move : ByteArray := prog_8_method_45_code
def yX6_move : MethodName := ⟨RX6, "move", "(II)I"⟩
abbrev cX6_object : ByteArray := prog_8_method_46_code
def yX6_object : MethodName := ⟨RX6, "object", "(II)I"⟩
abbrev cX6_takingPart : ByteArray := prog_8_method_47_code
def yX6_takingPart : MethodName := ⟨RX6, "takingPart", "()I"⟩
abbrev cX6_above : ByteArray := prog_8_method_48_code
def yX6_above : MethodName := ⟨RX6, "above", "(I)I"⟩
abbrev cX6_fullest : ByteArray := prog_8_method_49_code
def yX6_fullest : MethodName := ⟨RX6, "fullest", "()I"⟩
abbrev cX6_count : ByteArray := prog_8_method_50_code
def yX6_count : MethodName := ⟨RX6, "count", "(I)I"⟩
abbrev cX6_movesIf : ByteArray := prog_8_method_51_code
def yX6_movesIf : MethodName := ⟨RX6, "movesIf", "(II)I"⟩
abbrev cX6_lostWith : ByteArray := prog_8_method_52_code
def yX6_lostWith : MethodName := ⟨RX6, "lostWith", "(II)I"⟩
abbrev cX6_unevenness : ByteArray := prog_8_method_53_code
def yX6_unevenness : MethodName := ⟨RX6, "unevenness", "()I"⟩
abbrev cX6_bestWeight : ByteArray := prog_8_method_54_code
def yX6_bestWeight : MethodName := ⟨RX6, "bestWeight", "(II)I"⟩
abbrev cX6_put : ByteArray := prog_8_method_55_code
def yX6_put : MethodName := ⟨RX6, "put", "(J)I"⟩
abbrev cX6_wipe : ByteArray := prog_8_method_56_code
def yX6_wipe : MethodName := ⟨RX6, "wipe", "()I"⟩
abbrev cX6_isHere : ByteArray := prog_8_method_57_code
def yX6_isHere : MethodName := ⟨RX6, "isHere", "(II)Z"⟩
abbrev cX6_takes : ByteArray := prog_8_method_58_code
def yX6_takes : MethodName := ⟨RX6, "takes", "(I)Z"⟩
abbrev cX6_readsNumber : ByteArray := prog_8_method_59_code
def yX6_readsNumber : MethodName := ⟨RX6, "readsNumber", "()Z"⟩
abbrev cX6_isOrder : ByteArray := prog_8_method_60_code
def yX6_isOrder : MethodName := ⟨RX6, "isOrder", "(I)Z"⟩
abbrev cX6_readsSecond : ByteArray := prog_8_method_61_code
def yX6_readsSecond : MethodName := ⟨RX6, "readsSecond", "()Z"⟩
abbrev cX6_readsOrder : ByteArray := prog_8_method_62_code
def yX6_readsOrder : MethodName := ⟨RX6, "readsOrder", "()Z"⟩
abbrev cX6_fault : ByteArray := prog_8_method_63_code
def yX6_fault : MethodName := ⟨RX6, "fault", "()I"⟩
abbrev cX6_doOrder : ByteArray := prog_8_method_64_code
def yX6_doOrder : MethodName := ⟨RX6, "doOrder", "()I"⟩
abbrev cX6_carryOut : ByteArray := prog_8_method_65_code
def yX6_carryOut : MethodName := ⟨RX6, "carryOut", "()I"⟩
abbrev cX6_undo : ByteArray := prog_8_method_66_code
def yX6_undo : MethodName := ⟨RX6, "undo", "()I"⟩
abbrev cX6_save : ByteArray := prog_8_method_67_code
def yX6_save : MethodName := ⟨RX6, "save", "(I)I"⟩
abbrev cX6_restore : ByteArray := prog_8_method_68_code
def yX6_restore : MethodName := ⟨RX6, "restore", "(I)I"⟩
def RJ6 : String := "java/lang/Integer"
def TJ6 : u_T := fun k => match k with
  | _ => ("", "", "", false)
def tyJ6 : Nat → FieldType := fun k => match k with
  | _ => .int
theorem nmJ6 : ∀ a, a < 0 → ∀ b, b < 0 → a ≠ b → (TJ6 a).2.1 ≠ (TJ6 b).2.1 := by decide +kernel
theorem tyJ6_ok : ∀ k, k < 0 → parseFieldDescriptor (TJ6 k).2.2.1 = some (tyJ6 k) := by decide +kernel
abbrev cJ6_bitCount_0f7a4 : ByteArray := prog_9_method_49_code
def yJ6_bitCount_0f7a4 : MethodName := ⟨RJ6, "bitCount", "(I)I"⟩
def RJ9 : String := "java/lang/Math"
def TJ9 : u_T := fun k => match k with
  | _ => ("", "", "", false)
def tyJ9 : Nat → FieldType := fun k => match k with
  | _ => .int
theorem nmJ9 : ∀ a, a < 0 → ∀ b, b < 0 → a ≠ b → (TJ9 a).2.1 ≠ (TJ9 b).2.1 := by decide +kernel
theorem tyJ9_ok : ∀ k, k < 0 → parseFieldDescriptor (TJ9 k).2.2.1 = some (tyJ9 k) := by decide +kernel
abbrev cJ9_abs_0f7a4 : ByteArray := prog_10_method_59_code
def yJ9_abs_0f7a4 : MethodName := ⟨RJ9, "abs", "(I)I"⟩
abbrev cJ9_max_7cf53 : ByteArray := prog_10_method_65_code
def yJ9_max_7cf53 : MethodName := ⟨RJ9, "max", "(II)I"⟩
def RJ10 : String := "java/lang/System"
def TJ10 : u_T := fun k => match k with
  | _ => ("", "", "", false)
def tyJ10 : Nat → FieldType := fun k => match k with
  | _ => .int
theorem nmJ10 : ∀ a, a < 0 → ∀ b, b < 0 → a ≠ b → (TJ10 a).2.1 ≠ (TJ10 b).2.1 := by decide +kernel
theorem tyJ10_ok : ∀ k, k < 0 → parseFieldDescriptor (TJ10 k).2.2.1 = some (tyJ10 k) := by decide +kernel
def RJ7 : String := "java/util/Arrays"
def TJ7 : u_T := fun k => match k with
  | _ => ("", "", "", false)
def tyJ7 : Nat → FieldType := fun k => match k with
  | _ => .int
theorem nmJ7 : ∀ a, a < 0 → ∀ b, b < 0 → a ≠ b → (TJ7 a).2.1 ≠ (TJ7 b).2.1 := by decide +kernel
theorem tyJ7_ok : ∀ k, k < 0 → parseFieldDescriptor (TJ7 k).2.2.1 = some (tyJ7 k) := by decide +kernel
abbrev cJ7_fill_53178 : ByteArray := prog_12_method_103_code
def yJ7_fill_53178 : MethodName := ⟨RJ7, "fill", "([II)V"⟩
def RL : String := "StrawDrawsLaw"
abbrev cL_law : ByteArray := code
def yL_law : MethodName := ⟨RL, "law", "([I)Z"⟩
def zO : List String := [RX0, RX1, RX2, RX3, RX4, RX5, RX6, RJ6, RJ7, RL]
abbrev zcl : List vw_C := [(RX0, TX0, 3), (RX1, TX1, 4), (RX2, TX2, 6), (RX3, TX3, 13), (RX4, TX4, 2), (RX5, TX5, 8), (RX6, TX6, 21)]
def zTT (c : Nat) : u_T := match c with
  | 0 => TX0
  | 1 => TX1
  | 2 => TX2
  | 3 => TX3
  | 4 => TX4
  | 5 => TX5
  | _ => TX6
def ztt (c : Nat) : Nat → FieldType := match c with
  | 0 => tyX0
  | 1 => tyX1
  | 2 => tyX2
  | 3 => tyX3
  | 4 => tyX4
  | 5 => tyX5
  | _ => tyX6
def zNF (c : Nat) : Nat := match c with
  | 0 => 3
  | 1 => 4
  | 2 => 6
  | 3 => 13
  | 4 => 2
  | 5 => 8
  | _ => 21
abbrev zM_t : Type := MethodName × ByteArray × Nat × Option FieldType × Nat × Nat × Nat × Nat
def zM : List zM_t := [
  (yX0_init, cX0_init, 2, none, 0, 0, 2, 46),
  (yX0_draft, cX0_draft, 2, none, 0, 1, 2, 47),
  (yX0_keepDraft, cX0_keepDraft, 1, none, 0, 0, 0, 0),
  (yX0_takeLatest, cX0_takeLatest, 2, none, 0, 1, 2, 47),
  (yX1_init, cX1_init, 1, none, 1, 0, 1, 26),
  (yX1_clear, cX1_clear, 1, none, 1, 0, 1, 23),
  (yX1_add, cX1_add, 3, none, 1, 2, 0, 0),
  (yX1_serverOf, cX1_serverOf, 3, (some .int), 1, 2, 0, 0),
  (yX1_serversOf, cX1_serversOf, 4, (some .int), 1, 1, 0, 0),
  (yX1_firstCopies, cX1_firstCopies, 5, (some .int), 1, 2, 1, 22),
  (yX1_rowsBelow, cX1_rowsBelow, 5, (some .int), 1, 2, 0, 0),
  (yX2_init, cX2_init, 1, none, 2, 0, 1, 26),
  (yX2_signsIn, cX2_signsIn, 7, (some .int), 2, 1, 0, 0),
  (yX2_append, cX2_append, 5, none, 2, 2, 0, 0),
  (yX2_firstFault, cX2_firstFault, 2, (some .int), 2, 0, 4, 83),
  (yX2_readOrder, cX2_readOrder, 1, (some .boolean), 2, 0, 3, 63),
  (yX2_skip, cX2_skip, 2, (some .boolean), 2, 1, 0, 0),
  (yX2_readNone, cX2_readNone, 1, (some .boolean), 2, 0, 1, 21),
  (yX2_readFirst, cX2_readFirst, 1, (some .boolean), 2, 0, 2, 43),
  (yX2_readSecond, cX2_readSecond, 1, (some .boolean), 2, 0, 2, 43),
  (yX2_readNumber, cX2_readNumber, 3, (some .int), 2, 0, 1, 21),
  (yX3_init, cX3_init, 1, none, 3, 0, 1, 26),
  (yX3_copyFrom, cX3_copyFrom, 2, none, 3, 1, 1, 26),
  (yX3_hasServer, cX3_hasServer, 2, (some .boolean), 3, 1, 0, 0),
  (yX3_takesPart, cX3_takesPart, 2, (some .boolean), 3, 1, 0, 0),
  (yX3_serversTakingPart, cX3_serversTakingPart, 3, (some .int), 3, 0, 1, 21),
  (yX3_weightsTogether, cX3_weightsTogether, 3, (some .int), 3, 0, 1, 21),
  (yX3_pinsTo, cX3_pinsTo, 4, (some .int), 3, 1, 0, 0),
  (yX3_rowOf, cX3_rowOf, 3, (some .int), 3, 1, 0, 0),
  (yX3_insert, cX3_insert, 3, (some .int), 3, 1, 0, 0),
  (yX3_remove, cX3_remove, 3, none, 3, 1, 0, 0),
  (yX3_addMoves, cX3_addMoves, 7, none, 3, 3, 1, 23),
  (yX3_nthServer, cX3_nthServer, 4, (some .int), 3, 2, 0, 0),
  (yX4_init, cX4_init, 1, none, 4, 0, 1, 26),
  (yX4_draw, cX4_draw, 9, none, 4, 3, 2, 51),
  (yX4_lay, cX4_lay, 9, none, 4, 4, 2, 48),
  (yX4_highest, cX4_highest, 8, (some .int), 4, 3, 1, 21),
  (yX4_longest, cX4_longest, 6, (some .int), 4, 3, 1, 26),
  (yX4_stir, cX4_stir, 1, (some .int), 4, 1, 0, 0),
  (yX5_init, cX5_init, 2, none, 5, 0, 3, 67),
  (yX5_set, cX5_set, 3, (some .int), 5, 2, 6, 146),
  (yX5_server, cX5_server, 3, (some .int), 5, 2, 6, 147),
  (yX5_weigh, cX5_weigh, 3, (some .int), 5, 2, 6, 147),
  (yX5_toRack, cX5_toRack, 3, (some .int), 5, 2, 6, 146),
  (yX5_down, cX5_down, 3, (some .int), 5, 2, 6, 146),
  (yX5_store, cX5_store, 2, (some .int), 5, 1, 5, 123),
  (yX5_drop, cX5_drop, 2, (some .int), 5, 1, 5, 123),
  (yX5_pin, cX5_pin, 3, (some .int), 5, 2, 6, 147),
  (yX5_ofServer, cX5_ofServer, 3, (some .int), 5, 2, 2, 46),
  (yX5_place, cX5_place, 4, (some .int), 5, 2, 3, 79),
  (yX5_straw, cX5_straw, 3, (some .int), 5, 2, 2, 51),
  (yX5_move, cX5_move, 3, (some .int), 5, 2, 0, 0),
  (yX5_object, cX5_object, 3, (some .int), 5, 2, 0, 0),
  (yX5_count, cX5_count, 2, (some .int), 5, 1, 3, 69),
  (yX5_movesIf, cX5_movesIf, 9, (some .int), 5, 2, 4, 101),
  (yX5_lostWith, cX5_lostWith, 6, (some .int), 5, 2, 1, 23),
  (yX5_bestWeight, cX5_bestWeight, 8, (some .int), 5, 2, 4, 101),
  (yX5_put, cX5_put, 4, (some .int), 5, 1, 1, 26),
  (yX5_wipe, cX5_wipe, 2, (some .int), 5, 0, 0, 0),
  (yX5_fault, cX5_fault, 1, (some .int), 5, 0, 5, 104),
  (yX5_carryOut, cX5_carryOut, 2, (some .int), 5, 0, 7, 167),
  (yX5_undo, cX5_undo, 1, (some .int), 5, 0, 4, 101),
  (yX5_save, cX5_save, 2, (some .int), 5, 1, 2, 47),
  (yX5_restore, cX5_restore, 2, (some .int), 5, 1, 4, 101),
  (yX5_changeSetting, cX5_changeSetting, 3, (some .int), 5, 2, 5, 124),
  (yX5_buildServer, cX5_buildServer, 4, (some .int), 5, 2, 5, 124),
  (yX5_changeWeight, cX5_changeWeight, 4, (some .int), 5, 2, 5, 124),
  (yX5_changeRack, cX5_changeRack, 3, (some .int), 5, 2, 5, 124),
  (yX5_changeDown, cX5_changeDown, 3, (some .int), 5, 2, 5, 124),
  (yX5_keepObject, cX5_keepObject, 3, (some .int), 5, 1, 4, 101),
  (yX5_dropObject, cX5_dropObject, 3, (some .int), 5, 1, 4, 101),
  (yX5_changePin, cX5_changePin, 4, (some .int), 5, 2, 5, 124),
  (yX5_carryOrder, cX5_carryOrder, 1, (some .int), 5, 0, 6, 147),
  (yX5_recorded, cX5_recorded, 2, (some .int), 5, 1, 1, 20),
  (yX5_weightError, cX5_weightError, 3, (some .int), 5, 2, 1, 21),
  (yX5_isWeight, cX5_isWeight, 1, (some .boolean), 5, 1, 0, 0),
  (yX5_isRack, cX5_isRack, 1, (some .boolean), 5, 1, 0, 0),
  (yX5_layAll, cX5_layAll, 3, none, 5, 1, 3, 79),
  (yX5_findMoves, cX5_findMoves, 4, (some .int), 5, 0, 4, 101),
  (yX5_fairShare, cX5_fairShare, 4, (some .int), 5, 3, 1, 21),
  (yX5_unevenness, cX5_unevenness, 5, (some .int), 5, 1, 2, 44),
  (yX5_mostOverloaded, cX5_mostOverloaded, 6, (some .int), 5, 0, 2, 44),
  (yX6_init, cX6_init, 1, none, 6, 0, 1, 26),
  (yX6_in, cX6_in, 6, (some .boolean), 6, 3, 0, 0),
  (yX6_keep, cX6_keep, 2, none, 6, 0, 0, 0),
  (yX6_giveBack, cX6_giveBack, 2, none, 6, 0, 0, 0),
  (yX6_changed, cX6_changed, 3, (some .int), 6, 1, 0, 0),
  (yX6_isServer, cX6_isServer, 2, (some .boolean), 6, 1, 1, 25),
  (yX6_isRack, cX6_isRack, 1, (some .boolean), 6, 1, 1, 25),
  (yX6_isWeight, cX6_isWeight, 1, (some .boolean), 6, 1, 1, 25),
  (yX6_isObject, cX6_isObject, 1, (some .boolean), 6, 1, 1, 25),
  (yX6_takesPart, cX6_takesPart, 2, (some .boolean), 6, 1, 0, 0),
  (yX6_stir, cX6_stir, 2, (some .long), 6, 1, 0, 0),
  (yX6_strawOf, cX6_strawOf, 10, (some .int), 6, 2, 1, 21),
  (yX6_placeOf, cX6_placeOf, 3, (some .int), 6, 1, 0, 0),
  (yX6_puts, cX6_puts, 3, none, 6, 1, 0, 0),
  (yX6_findPlaces, cX6_findPlaces, 6, none, 6, 2, 2, 50),
  (yX6_findPlacesAt, cX6_findPlacesAt, 2, none, 6, 1, 3, 75),
  (yX6_setOf, cX6_setOf, 4, (some .int), 6, 1, 4, 96),
  (yX6_noteBefore, cX6_noteBefore, 2, none, 6, 0, 5, 119),
  (yX6_lowest, cX6_lowest, 2, (some .int), 6, 1, 0, 0),
  (yX6_findMoves, cX6_findMoves, 6, (some .int), 6, 0, 5, 119),
  (yX6_doSet, cX6_doSet, 4, (some .int), 6, 2, 6, 144),
  (yX6_doServer, cX6_doServer, 5, (some .int), 6, 2, 6, 144),
  (yX6_doWeigh, cX6_doWeigh, 3, (some .int), 6, 2, 6, 144),
  (yX6_doToRack, cX6_doToRack, 3, (some .int), 6, 2, 6, 144),
  (yX6_doDown, cX6_doDown, 3, (some .int), 6, 2, 6, 144),
  (yX6_doStore, cX6_doStore, 3, (some .int), 6, 1, 4, 96),
  (yX6_doDrop, cX6_doDrop, 4, (some .int), 6, 1, 1, 22),
  (yX6_doPin, cX6_doPin, 4, (some .int), 6, 2, 6, 144),
  (yX6_set, cX6_set, 3, (some .int), 6, 2, 7, 167),
  (yX6_server, cX6_server, 3, (some .int), 6, 2, 7, 168),
  (yX6_weigh, cX6_weigh, 3, (some .int), 6, 2, 7, 166),
  (yX6_toRack, cX6_toRack, 3, (some .int), 6, 2, 7, 166),
  (yX6_down, cX6_down, 3, (some .int), 6, 2, 7, 166),
  (yX6_store, cX6_store, 2, (some .int), 6, 1, 5, 118),
  (yX6_drop, cX6_drop, 2, (some .int), 6, 1, 2, 45),
  (yX6_pin, cX6_pin, 3, (some .int), 6, 2, 7, 167),
  (yX6_findLoads, cX6_findLoads, 3, none, 6, 0, 4, 96),
  (yX6_weights, cX6_weights, 3, (some .int), 6, 0, 1, 21),
  (yX6_fairShare, cX6_fairShare, 2, (some .int), 6, 1, 2, 43),
  (yX6_pinnedTo, cX6_pinnedTo, 4, (some .int), 6, 1, 0, 0),
  (yX6_ofServer, cX6_ofServer, 3, (some .int), 6, 2, 5, 118),
  (yX6_place, cX6_place, 4, (some .int), 6, 2, 3, 75),
  (yX6_straw, cX6_straw, 3, (some .int), 6, 2, 2, 50),
  (yX6_move, cX6_move, 3, (some .int), 6, 2, 1, 25),
  (yX6_object, cX6_object, 3, (some .int), 6, 2, 4, 96),
  (yX6_takingPart, cX6_takingPart, 3, (some .int), 6, 0, 1, 21),
  (yX6_above, cX6_above, 2, (some .int), 6, 1, 3, 64),
  (yX6_fullest, cX6_fullest, 3, (some .int), 6, 0, 4, 85),
  (yX6_count, cX6_count, 2, (some .int), 6, 1, 5, 118),
  (yX6_movesIf, cX6_movesIf, 4, (some .int), 6, 2, 7, 166),
  (yX6_lostWith, cX6_lostWith, 5, (some .int), 6, 2, 5, 119),
  (yX6_unevenness, cX6_unevenness, 4, (some .int), 6, 0, 5, 118),
  (yX6_bestWeight, cX6_bestWeight, 9, (some .int), 6, 2, 6, 141),
  (yX6_put, cX6_put, 8, (some .int), 6, 1, 1, 25),
  (yX6_wipe, cX6_wipe, 2, (some .int), 6, 0, 0, 0),
  (yX6_isHere, cX6_isHere, 3, (some .boolean), 6, 2, 1, 25),
  (yX6_takes, cX6_takes, 3, (some .boolean), 6, 1, 2, 47),
  (yX6_readsNumber, cX6_readsNumber, 1, (some .boolean), 6, 0, 2, 47),
  (yX6_isOrder, cX6_isOrder, 1, (some .boolean), 6, 1, 0, 0),
  (yX6_readsSecond, cX6_readsSecond, 1, (some .boolean), 6, 0, 3, 69),
  (yX6_readsOrder, cX6_readsOrder, 2, (some .boolean), 6, 0, 4, 89),
  (yX6_fault, cX6_fault, 2, (some .int), 6, 0, 5, 110),
  (yX6_doOrder, cX6_doOrder, 1, (some .int), 6, 0, 7, 167),
  (yX6_carryOut, cX6_carryOut, 3, (some .int), 6, 0, 8, 187),
  (yX6_undo, cX6_undo, 2, (some .int), 6, 0, 0, 0),
  (yX6_save, cX6_save, 3, (some .int), 6, 1, 1, 25),
  (yX6_restore, cX6_restore, 3, (some .int), 6, 1, 1, 25),
  (yJ6_bitCount_0f7a4, cJ6_bitCount_0f7a4, 1, (some .int), 7, 1, 0, 0),
  (yJ7_fill_53178, cJ7_fill_53178, 4, none, 8, 2, 0, 0),
  (yL_law, cL_law, 4, (some .boolean), 9, 1, 9, 209)]
def zmt (y : Nat) : zM_t := zM.getD y (yL_law, cL_law, 0, none, 0, 0, 0, 0)
def zname (y : Nat) : MethodName := (zmt y).1
def zcode (y : Nat) : ByteArray := (zmt y).2.1
def zmaxL (y : Nat) : Nat := (zmt y).2.2.1
def zret (y : Nat) : Option FieldType := (zmt y).2.2.2.1
def zown (y : Nat) : Nat := (zmt y).2.2.2.2.1
def zna (y : Nat) : Nat := (zmt y).2.2.2.2.2.1
def zfr (y : Nat) : Nat := (zmt y).2.2.2.2.2.2.1
def zlo (y : Nat) : Nat := (zmt y).2.2.2.2.2.2.2
def zOn (o : Nat) : String := zO.getD o RL
/-- fields: (own, pool entry), (number of the declaring one, place), where the word stands -/
def zFt : List ((Nat × Nat) × (Nat × Nat) × Nat) := [((0, 13), (0, 0), 151), ((0, 17), (0, 1), 152), ((0, 21), (0, 2), 153), ((1, 9), (1, 0), 212), ((1, 15), (1, 1), 214), ((1, 18), (1, 2), 215), ((1, 21), (1, 3), 217), ((2, 9), (2, 0), 181), ((2, 15), (2, 1), 182), ((2, 19), (2, 2), 184), ((2, 22), (2, 3), 186), ((2, 26), (2, 4), 188), ((2, 29), (2, 5), 190), ((3, 9), (3, 0), 82), ((3, 15), (3, 1), 85), ((3, 18), (3, 2), 88), ((3, 21), (3, 3), 91), ((3, 25), (3, 4), 94), ((3, 28), (3, 5), 97), ((3, 32), (3, 6), 99), ((3, 35), (3, 7), 101), ((3, 38), (3, 8), 103), ((3, 41), (3, 9), 105), ((3, 44), (3, 10), 107), ((3, 47), (3, 11), 109), ((3, 50), (3, 12), 111), ((4, 9), (4, 0), 168), ((4, 15), (4, 1), 169), ((4, 18), (3, 1), 86), ((4, 24), (3, 2), 89), ((4, 31), (3, 4), 95), ((4, 38), (3, 0), 83), ((4, 51), (3, 3), 92), ((5, 12), (5, 0), 228), ((5, 19), (5, 1), 229), ((5, 23), (5, 2), 230), ((5, 27), (5, 3), 231), ((5, 34), (5, 4), 232), ((5, 41), (5, 5), 233), ((5, 48), (5, 6), 234), ((5, 52), (5, 7), 235), ((5, 93), (3, 3), 93), ((5, 97), (3, 4), 96), ((5, 100), (3, 5), 98), ((5, 103), (1, 2), 216), ((5, 114), (3, 6), 100), ((5, 144), (3, 1), 87), ((5, 151), (3, 9), 106), ((5, 154), (3, 10), 108), ((5, 157), (3, 11), 110), ((5, 160), (3, 12), 112), ((5, 163), (3, 7), 102), ((5, 166), (3, 8), 104), ((5, 169), (1, 0), 213), ((5, 172), (3, 2), 90), ((5, 175), (1, 3), 218), ((5, 178), (3, 0), 84), ((5, 189), (2, 1), 183), ((5, 192), (0, 2), 154), ((5, 230), (2, 2), 185), ((5, 266), (2, 3), 187), ((5, 270), (2, 4), 189), ((5, 273), (2, 5), 191), ((6, 7), (6, 0), 589), ((6, 13), (6, 1), 590), ((6, 16), (6, 2), 591), ((6, 19), (6, 4), 593), ((6, 22), (6, 5), 594), ((6, 25), (6, 6), 595), ((6, 28), (6, 7), 596), ((6, 31), (6, 9), 598), ((6, 34), (6, 10), 599), ((6, 37), (6, 11), 600), ((6, 40), (6, 14), 603), ((6, 43), (6, 3), 592), ((6, 75), (6, 8), 597), ((6, 160), (6, 12), 601), ((6, 163), (6, 13), 602), ((6, 189), (6, 15), 604), ((6, 204), (6, 16), 605), ((6, 211), (6, 20), 609), ((6, 214), (6, 17), 606), ((6, 227), (6, 18), 607), ((6, 233), (6, 19), 608)]
/-- calls: (own, pool entry), (kind, number of the method), where the words stand: link, side, selects, initialised, code -/
def zCt : List ((Nat × Nat) × (Nat × Nat) × List Nat) := [
((0, 3), (4, 0), [147, 74, 0, 0, 75]), ((0, 24), (3, 21), [150, 79, 0, 58, 80]), ((0, 25), (0, 22), [261, 262, 263, 58, 264]), ((1, 3), (4, 0), [211, 74, 0, 0, 75]),
  ((1, 25), (1, 150), [284, 285, 0, 65, 286]), ((1, 31), (0, 7), [438, 439, 440, 62, 441]), ((2, 3), (4, 0), [180, 74, 0, 0, 75]), ((2, 38), (0, 15), [532, 533, 534, 61, 535]),
  ((2, 42), (0, 16), [544, 545, 546, 61, 547]), ((2, 46), (0, 18), [536, 538, 16, 61, 539]), ((2, 49), (0, 19), [548, 550, 18, 61, 551]), ((2, 52), (0, 17), [552, 554, 19, 61, 555]),
  ((2, 55), (0, 20), [540, 542, 17, 61, 543]), ((3, 3), (4, 0), [81, 74, 0, 0, 75]), ((3, 53), (5, 0), [265, 266, 267, 64, 0]), ((3, 59), (0, 24), [428, 292, 293, 58, 294]),
  ((3, 63), (1, 32), [327, 328, 0, 58, 329]), ((4, 3), (4, 0), [167, 74, 0, 0, 75]), ((4, 27), (0, 24), [291, 292, 293, 58, 294]), ((4, 34), (1, 37), [295, 296, 0, 60, 297]),
  ((4, 41), (0, 36), [311, 313, 3, 60, 314]), ((4, 45), (0, 6), [315, 316, 317, 62, 318]), ((4, 54), (1, 38), [298, 299, 0, 60, 300]), ((4, 59), (6, 0), [304, 305, 0, 66, 306]),
  ((5, 3), (4, 0), [73, 74, 0, 0, 75]), ((5, 11), (3, 21), [78, 79, 0, 58, 80]), ((5, 18), (2, 0), [144, 145, 0, 59, 146]), ((5, 33), (3, 33), [164, 165, 0, 60, 166]),
  ((5, 40), (3, 11), [177, 178, 0, 61, 179]), ((5, 47), (3, 4), [208, 209, 0, 62, 210]), ((5, 55), (0, 1), [257, 258, 259, 59, 260]), ((5, 59), (0, 64), [268, 270, 0, 57, 271]),
  ((5, 63), (0, 73), [330, 332, 4, 57, 333]), ((5, 67), (0, 65), [342, 344, 5, 57, 345]), ((5, 70), (0, 66), [356, 358, 6, 57, 359]), ((5, 73), (0, 67), [372, 374, 8, 57, 375]),
  ((5, 76), (0, 68), [380, 382, 9, 57, 383]), ((5, 80), (0, 69), [388, 390, 10, 57, 391]), ((5, 83), (0, 70), [404, 406, 11, 57, 407]), ((5, 86), (0, 71), [416, 418, 12, 57, 419]),
  ((5, 89), (0, 23), [364, 365, 366, 58, 367]), ((5, 106), (0, 26), [424, 425, 426, 58, 427]), ((5, 110), (0, 79), [429, 431, 13, 57, 432]), ((5, 118), (0, 9), [434, 435, 436, 62, 437]),
  ((5, 121), (0, 27), [442, 443, 444, 58, 445]), ((5, 124), (0, 28), [392, 393, 394, 58, 395]), ((5, 127), (0, 7), [450, 439, 440, 62, 441]), ((5, 130), (0, 5), [280, 281, 282, 62, 283]),
  ((5, 133), (0, 34), [287, 288, 289, 60, 290]), ((5, 137), (0, 35), [307, 308, 309, 60, 310]), ((5, 141), (0, 24), [433, 292, 293, 58, 294]), ((5, 147), (1, 37), [455, 296, 0, 60, 297]),
  ((5, 180), (0, 10), [468, 469, 470, 62, 471]), ((5, 183), (0, 25), [472, 473, 474, 58, 475]), ((5, 186), (0, 81), [476, 478, 14, 57, 479]), ((5, 195), (0, 74), [360, 362, 7, 57, 363]),
  ((5, 198), (0, 77), [276, 278, 2, 57, 279]), ((5, 202), (0, 8), [319, 320, 321, 62, 322]), ((5, 205), (1, 149), [484, 485, 0, 67, 486]), ((5, 210), (6, 0), [490, 305, 0, 66, 306]),
  ((5, 215), (0, 80), [499, 501, 15, 57, 502]), ((5, 219), (1, 12), [510, 511, 0, 61, 512]), ((5, 223), (0, 13), [516, 517, 518, 61, 519]), ((5, 227), (0, 14), [528, 529, 530, 61, 531]),
  ((5, 233), (0, 15), [560, 533, 534, 61, 535]), ((5, 237), (0, 72), [561, 563, 20, 57, 564]), ((5, 240), (0, 16), [565, 545, 546, 61, 547]), ((5, 244), (0, 3), [570, 571, 572, 59, 573]),
  ((5, 247), (0, 22), [578, 262, 263, 58, 264]), ((5, 250), (0, 78), [272, 274, 1, 57, 275]), ((5, 253), (1, 76), [346, 347, 0, 57, 348]), ((5, 256), (1, 75), [349, 350, 0, 57, 351]),
  ((5, 259), (0, 29), [396, 397, 398, 58, 399]), ((5, 262), (0, 30), [408, 409, 410, 58, 411]), ((5, 276), (0, 2), [334, 335, 336, 59, 337]), ((5, 279), (0, 31), [323, 324, 325, 58, 326]),
  ((5, 283), (7, 0), [503, 504, 0, 66, 505]), ((6, 1), (4, 0), [588, 74, 0, 0, 75]), ((6, 47), (1, 83), [666, 667, 0, 63, 668]), ((6, 65), (1, 92), [695, 696, 0, 63, 697]),
  ((6, 78), (0, 91), [686, 688, 27, 63, 689]), ((6, 82), (0, 93), [690, 692, 28, 63, 693]), ((6, 86), (0, 95), [704, 706, 29, 63, 707]), ((6, 90), (0, 96), [682, 684, 26, 63, 685]),
  ((6, 94), (0, 97), [678, 680, 25, 63, 681]), ((6, 97), (0, 98), [674, 676, 24, 63, 677]), ((6, 101), (1, 100), [712, 713, 0, 63, 714]), ((6, 108), (0, 99), [670, 672, 23, 63, 673]),
  ((6, 111), (0, 101), [708, 710, 30, 63, 711]), ((6, 115), (1, 88), [727, 728, 0, 63, 729]), ((6, 118), (1, 89), [731, 732, 0, 63, 733]), ((6, 121), (0, 87), [743, 745, 34, 63, 746]),
  ((6, 124), (1, 90), [771, 772, 0, 63, 773]), ((6, 127), (0, 94), [775, 777, 38, 63, 778]), ((6, 130), (0, 84), [657, 659, 21, 63, 660]), ((6, 133), (0, 102), [661, 663, 22, 63, 664]),
  ((6, 136), (0, 86), [715, 717, 31, 63, 718]), ((6, 139), (0, 103), [723, 725, 32, 63, 726]), ((6, 142), (0, 104), [739, 741, 33, 63, 742]), ((6, 145), (0, 105), [751, 753, 35, 63, 754]),
  ((6, 148), (0, 106), [759, 761, 36, 63, 762]), ((6, 151), (0, 107), [767, 769, 37, 63, 770]), ((6, 154), (0, 108), [783, 785, 39, 63, 786]), ((6, 157), (0, 109), [791, 793, 40, 63, 794]),
  ((6, 166), (0, 119), [807, 809, 43, 63, 810]), ((6, 169), (0, 118), [799, 801, 41, 63, 802]), ((6, 172), (0, 120), [803, 805, 42, 63, 806]), ((6, 175), (0, 121), [811, 813, 44, 63, 814]),
  ((6, 180), (0, 128), [844, 846, 47, 63, 847]), ((6, 183), (0, 127), [836, 838, 45, 63, 839]), ((6, 186), (0, 129), [840, 842, 46, 63, 843]), ((6, 192), (0, 85), [852, 854, 48, 63, 855]),
  ((6, 195), (0, 133), [864, 866, 49, 63, 867]), ((6, 207), (0, 137), [894, 896, 52, 63, 897]), ((6, 217), (0, 138), [902, 904, 54, 63, 905]), ((6, 220), (0, 139), [890, 892, 51, 63, 893]),
  ((6, 224), (1, 140), [887, 888, 0, 63, 889]), ((6, 230), (0, 141), [898, 900, 53, 63, 901]), ((6, 236), (0, 142), [883, 885, 50, 63, 886]), ((6, 239), (0, 143), [910, 880, 881, 63, 882]),
  ((6, 242), (0, 144), [911, 913, 55, 63, 914]), ((9, 9), (2, 39), [70, 71, 0, 57, 72]), ((9, 12), (2, 82), [585, 586, 0, 63, 587]), ((9, 13), (0, 40), [253, 254, 255, 57, 256]),
  ((9, 17), (0, 110), [653, 654, 655, 63, 656]), ((9, 18), (0, 41), [338, 339, 340, 57, 341]), ((9, 21), (0, 111), [719, 720, 721, 63, 722]), ((9, 22), (0, 42), [352, 353, 354, 57, 355]),
  ((9, 25), (0, 112), [735, 736, 737, 63, 738]), ((9, 26), (0, 43), [368, 369, 370, 57, 371]), ((9, 29), (0, 113), [747, 748, 749, 63, 750]), ((9, 30), (0, 44), [376, 377, 378, 57, 379]),
  ((9, 34), (0, 114), [755, 756, 757, 63, 758]), ((9, 35), (0, 45), [384, 385, 386, 57, 387]), ((9, 39), (0, 115), [763, 764, 765, 63, 766]), ((9, 40), (0, 46), [400, 401, 402, 57, 403]),
  ((9, 43), (0, 116), [779, 780, 781, 63, 782]), ((9, 44), (0, 47), [412, 413, 414, 57, 415]), ((9, 47), (0, 117), [787, 788, 789, 63, 790]), ((9, 48), (0, 48), [420, 421, 422, 57, 423]),
  ((9, 51), (0, 122), [795, 796, 797, 63, 798]), ((9, 52), (0, 49), [446, 447, 448, 57, 449]), ((9, 55), (0, 123), [815, 816, 817, 63, 818]), ((9, 56), (0, 50), [451, 452, 453, 57, 454]),
  ((9, 59), (0, 124), [819, 820, 821, 63, 822]), ((9, 60), (0, 51), [456, 457, 458, 57, 459]), ((9, 63), (0, 125), [823, 824, 825, 63, 826]), ((9, 64), (0, 52), [460, 461, 462, 57, 463]),
  ((9, 67), (0, 126), [828, 829, 830, 63, 831]), ((9, 68), (0, 53), [464, 465, 466, 57, 467]), ((9, 71), (0, 130), [832, 833, 834, 63, 835]), ((9, 72), (0, 54), [480, 481, 482, 57, 483]),
  ((9, 75), (0, 131), [848, 849, 850, 63, 851]), ((9, 76), (0, 55), [491, 492, 493, 57, 494]), ((9, 79), (0, 132), [856, 857, 858, 63, 859]), ((9, 80), (0, 56), [495, 496, 497, 57, 498]),
  ((9, 83), (0, 134), [860, 861, 862, 63, 863]), ((9, 86), (0, 57), [506, 507, 508, 57, 509]), ((9, 90), (0, 135), [868, 869, 870, 63, 871]), ((9, 91), (0, 58), [520, 521, 522, 57, 523]),
  ((9, 95), (0, 136), [875, 876, 877, 63, 878]), ((9, 96), (0, 59), [524, 525, 526, 57, 527]), ((9, 99), (0, 143), [879, 880, 881, 63, 882]), ((9, 100), (0, 60), [556, 557, 558, 57, 559]),
  ((9, 103), (0, 145), [906, 907, 908, 63, 909]), ((9, 104), (0, 61), [566, 567, 568, 57, 569]), ((9, 107), (0, 146), [915, 916, 917, 63, 918]), ((9, 108), (0, 62), [574, 575, 576, 57, 577]),
  ((9, 111), (0, 147), [919, 920, 921, 63, 922]), ((9, 112), (0, 63), [579, 580, 581, 57, 582]), ((9, 115), (0, 148), [923, 924, 925, 63, 926])]
/-- new: (own, pool entry), number of the one made, where the words stand: link, instantiable, initialised -/
def zNt : List ((Nat × Nat) × Nat × List Nat) := [((9, 7), 5, [68, 69, 57]), ((5, 9), 3, [76, 77, 58]), ((5, 16), 0, [142, 143, 59]), ((0, 11), 3, [148, 77, 58]), ((5, 31), 4, [162, 163, 60]), ((5, 38), 2, [175, 176, 61]), ((5, 45), 1, [206, 207, 62]), ((9, 10), 6, [583, 584, 63])]
def zKt : List ((Nat × Nat) × Int32 × Nat) := [((4, 65), 1103515245, 301), ((4, 66), 2147483647, 302), ((4, 58), 104729, 303), ((7, 265), 1431655765, 487), ((7, 266), 858993459, 488), ((7, 267), 252645135, 489)]
def zJt : List ((Nat × Nat) × Int64 × Nat) := [((2, 32), 255, 513), ((2, 34), 33, 514), ((2, 36), 126, 515), ((6, 104), 3, 665), ((6, 106), 999, 669), ((6, 63), 1000, 694), ((6, 57), 1103515245, 698), ((6, 59), 12345, 699), ((6, 61), 2147483648, 700), ((6, 69), 7919, 701), ((6, 71), -1, 702), ((6, 73), 104729, 703), ((6, 51), 5, 730), ((6, 53), 16, 734), ((6, 55), 9999, 774), ((6, 178), 2, 827), ((6, 198), 255, 872), ((6, 200), 33, 873), ((6, 202), 126, 874), ((9, 84), 4294967295, 927)]
def zAp : List Nat := [140, 141, 205]
-- arrayOver at 149, native at 267
