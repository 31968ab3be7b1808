section
-- ===== PART A: goes FIRST, ahead of the names: the tables' words, and 'selects' of the private methods out of them =====
/-- a private method of a class that the tables say can be made, by its rows of tables_1 -/
def lw_okq (q : MethodName × Nat) : Prop := (q.1.cls ≠ "java/lang/invoke/MethodHandle" ∧ q.1.cls ≠ "java/lang/invoke/VarHandle") ∧ Cond.instantiable q.1.cls q.2 ∈ tables_1 ∧ Cond.privateMethod q.1 ∈ tables_1 ∧ Cond.instanceMethod q.1 ∈ tables_1
theorem lw_p0 : lw_okq (⟨"IslandReserve", "saveState", "()V"⟩, 9) := ⟨⟨by decide +kernel, by decide +kernel⟩, List.mem_of_getElem? (i := 18) (by decide +kernel), List.mem_of_getElem? (i := 200) (by decide +kernel), List.mem_of_getElem? (i := 201) (by decide +kernel)⟩
theorem lw_p1 : lw_okq (⟨"IslandReserve$Island", "copyFrom", "(LIslandReserve$Island;)V"⟩, 7) := ⟨⟨by decide +kernel, by decide +kernel⟩, List.mem_of_getElem? (i := 26) (by decide +kernel), List.mem_of_getElem? (i := 204) (by decide +kernel), List.mem_of_getElem? (i := 205) (by decide +kernel)⟩
theorem lw_p2 : lw_okq (⟨"IslandReserve$Fleet", "copyFrom", "(LIslandReserve$Fleet;)V"⟩, 8) := ⟨⟨by decide +kernel, by decide +kernel⟩, List.mem_of_getElem? (i := 32) (by decide +kernel), List.mem_of_getElem? (i := 208) (by decide +kernel), List.mem_of_getElem? (i := 209) (by decide +kernel)⟩
theorem lw_p3 : lw_okq (⟨"IslandReserve$Plan", "read", "([II)I"⟩, 5) := ⟨⟨by decide +kernel, by decide +kernel⟩, List.mem_of_getElem? (i := 110) (by decide +kernel), List.mem_of_getElem? (i := 227) (by decide +kernel), List.mem_of_getElem? (i := 228) (by decide +kernel)⟩
theorem lw_p4 : lw_okq (⟨"IslandReserve$Plan", "takes", "(I)Z"⟩, 5) := ⟨⟨by decide +kernel, by decide +kernel⟩, List.mem_of_getElem? (i := 110) (by decide +kernel), List.mem_of_getElem? (i := 231) (by decide +kernel), List.mem_of_getElem? (i := 232) (by decide +kernel)⟩
theorem lw_p5 : lw_okq (⟨"IslandReserve$Plan", "takesOrder", "(I)Z"⟩, 5) := ⟨⟨by decide +kernel, by decide +kernel⟩, List.mem_of_getElem? (i := 110) (by decide +kernel), List.mem_of_getElem? (i := 235) (by decide +kernel), List.mem_of_getElem? (i := 236) (by decide +kernel)⟩
theorem lw_p6 : lw_okq (⟨"IslandReserve$Plan", "isWhole", "()Z"⟩, 5) := ⟨⟨by decide +kernel, by decide +kernel⟩, List.mem_of_getElem? (i := 110) (by decide +kernel), List.mem_of_getElem? (i := 239) (by decide +kernel), List.mem_of_getElem? (i := 240) (by decide +kernel)⟩
theorem lw_p7 : lw_okq (⟨"IslandReserve$Plan", "takesDigit", "(II)Z"⟩, 5) := ⟨⟨by decide +kernel, by decide +kernel⟩, List.mem_of_getElem? (i := 110) (by decide +kernel), List.mem_of_getElem? (i := 246) (by decide +kernel), List.mem_of_getElem? (i := 247) (by decide +kernel)⟩
theorem lw_p8 : lw_okq (⟨"IslandReserve$Plan", "begins", "([IIIZI)Z"⟩, 5) := ⟨⟨by decide +kernel, by decide +kernel⟩, List.mem_of_getElem? (i := 110) (by decide +kernel), List.mem_of_getElem? (i := 254) (by decide +kernel), List.mem_of_getElem? (i := 255) (by decide +kernel)⟩
theorem lw_p9 : lw_okq (⟨"IslandReserve$Plan", "goesOn", "([IIII)Z"⟩, 5) := ⟨⟨by decide +kernel, by decide +kernel⟩, List.mem_of_getElem? (i := 110) (by decide +kernel), List.mem_of_getElem? (i := 258) (by decide +kernel), List.mem_of_getElem? (i := 259) (by decide +kernel)⟩
theorem lw_p10 : lw_okq (⟨"IslandReserve$Island", "letHoursGoBy", "(ILIslandReserve$Sharing;)V"⟩, 7) := ⟨⟨by decide +kernel, by decide +kernel⟩, List.mem_of_getElem? (i := 26) (by decide +kernel), List.mem_of_getElem? (i := 266) (by decide +kernel), List.mem_of_getElem? (i := 267) (by decide +kernel)⟩
theorem lw_p11 : lw_okq (⟨"IslandReserve$Island", "letAnHourGoBy", "(LIslandReserve$Sharing;)V"⟩, 7) := ⟨⟨by decide +kernel, by decide +kernel⟩, List.mem_of_getElem? (i := 26) (by decide +kernel), List.mem_of_getElem? (i := 270) (by decide +kernel), List.mem_of_getElem? (i := 271) (by decide +kernel)⟩
theorem lw_p12 : lw_okq (⟨"IslandReserve$Fleet", "warmUpAnHour", "()V"⟩, 8) := ⟨⟨by decide +kernel, by decide +kernel⟩, List.mem_of_getElem? (i := 32) (by decide +kernel), List.mem_of_getElem? (i := 274) (by decide +kernel), List.mem_of_getElem? (i := 275) (by decide +kernel)⟩
theorem lw_p13 : lw_okq (⟨"IslandReserve$Fleet", "become", "(II)V"⟩, 8) := ⟨⟨by decide +kernel, by decide +kernel⟩, List.mem_of_getElem? (i := 32) (by decide +kernel), List.mem_of_getElem? (i := 278) (by decide +kernel), List.mem_of_getElem? (i := 279) (by decide +kernel)⟩
theorem lw_p14 : lw_okq (⟨"IslandReserve$Island", "loadOf", "(I)I"⟩, 7) := ⟨⟨by decide +kernel, by decide +kernel⟩, List.mem_of_getElem? (i := 26) (by decide +kernel), List.mem_of_getElem? (i := 282) (by decide +kernel), List.mem_of_getElem? (i := 283) (by decide +kernel)⟩
theorem lw_p15 : lw_okq (⟨"IslandReserve$Fleet", "maskOf", "(I)I"⟩, 8) := ⟨⟨by decide +kernel, by decide +kernel⟩, List.mem_of_getElem? (i := 32) (by decide +kernel), List.mem_of_getElem? (i := 286) (by decide +kernel), List.mem_of_getElem? (i := 287) (by decide +kernel)⟩
def lw_privs_1 : List (MethodName × Nat) := [(⟨"IslandReserve", "saveState", "()V"⟩, 9), (⟨"IslandReserve$Island", "copyFrom", "(LIslandReserve$Island;)V"⟩, 7), (⟨"IslandReserve$Fleet", "copyFrom", "(LIslandReserve$Fleet;)V"⟩, 8), (⟨"IslandReserve$Plan", "read", "([II)I"⟩, 5), (⟨"IslandReserve$Plan", "takes", "(I)Z"⟩, 5), (⟨"IslandReserve$Plan", "takesOrder", "(I)Z"⟩, 5), (⟨"IslandReserve$Plan", "isWhole", "()Z"⟩, 5), (⟨"IslandReserve$Plan", "takesDigit", "(II)Z"⟩, 5), (⟨"IslandReserve$Plan", "begins", "([IIIZI)Z"⟩, 5), (⟨"IslandReserve$Plan", "goesOn", "([IIII)Z"⟩, 5), (⟨"IslandReserve$Island", "letHoursGoBy", "(ILIslandReserve$Sharing;)V"⟩, 7), (⟨"IslandReserve$Island", "letAnHourGoBy", "(LIslandReserve$Sharing;)V"⟩, 7), (⟨"IslandReserve$Fleet", "warmUpAnHour", "()V"⟩, 8), (⟨"IslandReserve$Fleet", "become", "(II)V"⟩, 8), (⟨"IslandReserve$Island", "loadOf", "(I)I"⟩, 7), (⟨"IslandReserve$Fleet", "maskOf", "(I)I"⟩, 8)]
theorem lw_r1 : ∀ q ∈ lw_privs_1, lw_okq q := List.forall_mem_cons.mpr ⟨lw_p0, List.forall_mem_cons.mpr ⟨lw_p1, List.forall_mem_cons.mpr ⟨lw_p2, List.forall_mem_cons.mpr ⟨lw_p3, List.forall_mem_cons.mpr ⟨lw_p4, List.forall_mem_cons.mpr ⟨lw_p5, List.forall_mem_cons.mpr ⟨lw_p6, List.forall_mem_cons.mpr ⟨lw_p7, List.forall_mem_cons.mpr ⟨lw_p8, List.forall_mem_cons.mpr ⟨lw_p9, List.forall_mem_cons.mpr ⟨lw_p10, List.forall_mem_cons.mpr ⟨lw_p11, List.forall_mem_cons.mpr ⟨lw_p12, List.forall_mem_cons.mpr ⟨lw_p13, List.forall_mem_cons.mpr ⟨lw_p14, List.forall_mem_cons.mpr ⟨lw_p15, fun _ h => absurd h List.not_mem_nil⟩⟩⟩⟩⟩⟩⟩⟩⟩⟩⟩⟩⟩⟩⟩⟩
theorem lw_p16 : lw_okq (⟨"IslandReserve$Sharing", "shareOut", "(LIslandReserve$Fleet;II)V"⟩, 5) := ⟨⟨by decide +kernel, by decide +kernel⟩, List.mem_of_getElem? (i := 136) (by decide +kernel), List.mem_of_getElem? (i := 290) (by decide +kernel), List.mem_of_getElem? (i := 291) (by decide +kernel)⟩
theorem lw_p17 : lw_okq (⟨"IslandReserve$Sharing", "giveByMerit", "(LIslandReserve$Fleet;II)I"⟩, 5) := ⟨⟨by decide +kernel, by decide +kernel⟩, List.mem_of_getElem? (i := 136) (by decide +kernel), List.mem_of_getElem? (i := 297) (by decide +kernel), List.mem_of_getElem? (i := 298) (by decide +kernel)⟩
theorem lw_p18 : lw_okq (⟨"IslandReserve$Fleet", "firstByMerit", "(I)I"⟩, 8) := ⟨⟨by decide +kernel, by decide +kernel⟩, List.mem_of_getElem? (i := 32) (by decide +kernel), List.mem_of_getElem? (i := 301) (by decide +kernel), List.mem_of_getElem? (i := 302) (by decide +kernel)⟩
theorem lw_p19 : lw_okq (⟨"IslandReserve$Fleet", "burnFuel", "([I)V"⟩, 8) := ⟨⟨by decide +kernel, by decide +kernel⟩, List.mem_of_getElem? (i := 32) (by decide +kernel), List.mem_of_getElem? (i := 309) (by decide +kernel), List.mem_of_getElem? (i := 310) (by decide +kernel)⟩
theorem lw_p20 : lw_okq (⟨"IslandReserve$Island", "changeWarmth", "()V"⟩, 7) := ⟨⟨by decide +kernel, by decide +kernel⟩, List.mem_of_getElem? (i := 26) (by decide +kernel), List.mem_of_getElem? (i := 313) (by decide +kernel), List.mem_of_getElem? (i := 314) (by decide +kernel)⟩
theorem lw_p21 : lw_okq (⟨"IslandReserve$Island", "darkHours", "()I"⟩, 7) := ⟨⟨by decide +kernel, by decide +kernel⟩, List.mem_of_getElem? (i := 26) (by decide +kernel), List.mem_of_getElem? (i := 322) (by decide +kernel), List.mem_of_getElem? (i := 323) (by decide +kernel)⟩
theorem lw_p22 : lw_okq (⟨"IslandReserve$Fleet", "begin", "(I)V"⟩, 8) := ⟨⟨by decide +kernel, by decide +kernel⟩, List.mem_of_getElem? (i := 32) (by decide +kernel), List.mem_of_getElem? (i := 330) (by decide +kernel), List.mem_of_getElem? (i := 331) (by decide +kernel)⟩
theorem lw_p23 : lw_okq (⟨"IslandReserve$Fleet", "fuelSoFar", "()I"⟩, 8) := ⟨⟨by decide +kernel, by decide +kernel⟩, List.mem_of_getElem? (i := 32) (by decide +kernel), List.mem_of_getElem? (i := 334) (by decide +kernel), List.mem_of_getElem? (i := 335) (by decide +kernel)⟩
theorem lw_p24 : lw_okq (⟨"IslandReserve$Island", "safeHours", "()I"⟩, 7) := ⟨⟨by decide +kernel, by decide +kernel⟩, List.mem_of_getElem? (i := 26) (by decide +kernel), List.mem_of_getElem? (i := 342) (by decide +kernel), List.mem_of_getElem? (i := 343) (by decide +kernel)⟩
theorem lw_p25 : lw_okq (⟨"java/lang/Throwable", "fillInStackTrace", "(I)Ljava/lang/Throwable;"⟩, 6) := ⟨⟨by decide +kernel, by decide +kernel⟩, List.mem_of_getElem? (i := 397) (by decide +kernel), List.mem_of_getElem? (i := 395) (by decide +kernel), List.mem_of_getElem? (i := 396) (by decide +kernel)⟩
theorem lw_p26 : lw_okq (⟨"IslandReserve$Fleet", "sizeOf", "(I)I"⟩, 8) := ⟨⟨by decide +kernel, by decide +kernel⟩, List.mem_of_getElem? (i := 32) (by decide +kernel), List.mem_of_getElem? (i := 427) (by decide +kernel), List.mem_of_getElem? (i := 428) (by decide +kernel)⟩
theorem lw_p27 : lw_okq (⟨"IslandReserve$Island", "hourOfNow", "()I"⟩, 7) := ⟨⟨by decide +kernel, by decide +kernel⟩, List.mem_of_getElem? (i := 26) (by decide +kernel), List.mem_of_getElem? (i := 438) (by decide +kernel), List.mem_of_getElem? (i := 439) (by decide +kernel)⟩
theorem lw_p28 : lw_okq (⟨"IslandReserve", "shareOutNow", "()V"⟩, 9) := ⟨⟨by decide +kernel, by decide +kernel⟩, List.mem_of_getElem? (i := 18) (by decide +kernel), List.mem_of_getElem? (i := 444) (by decide +kernel), List.mem_of_getElem? (i := 445) (by decide +kernel)⟩
theorem lw_p29 : lw_okq (⟨"IslandReserve", "withCheapest", "(JI)J"⟩, 9) := ⟨⟨by decide +kernel, by decide +kernel⟩, List.mem_of_getElem? (i := 18) (by decide +kernel), List.mem_of_getElem? (i := 489) (by decide +kernel), List.mem_of_getElem? (i := 490) (by decide +kernel)⟩
theorem lw_p30 : lw_okq (⟨"IslandReserve$Fleet", "fuelFor", "([I)I"⟩, 8) := ⟨⟨by decide +kernel, by decide +kernel⟩, List.mem_of_getElem? (i := 32) (by decide +kernel), List.mem_of_getElem? (i := 497) (by decide +kernel), List.mem_of_getElem? (i := 498) (by decide +kernel)⟩
theorem lw_p31 : lw_okq (⟨"IslandReserve$Fleet", "isInUse", "(I)Z"⟩, 8) := ⟨⟨by decide +kernel, by decide +kernel⟩, List.mem_of_getElem? (i := 32) (by decide +kernel), List.mem_of_getElem? (i := 553) (by decide +kernel), List.mem_of_getElem? (i := 554) (by decide +kernel)⟩
def lw_privs_2 : List (MethodName × Nat) := [(⟨"IslandReserve$Sharing", "shareOut", "(LIslandReserve$Fleet;II)V"⟩, 5), (⟨"IslandReserve$Sharing", "giveByMerit", "(LIslandReserve$Fleet;II)I"⟩, 5), (⟨"IslandReserve$Fleet", "firstByMerit", "(I)I"⟩, 8), (⟨"IslandReserve$Fleet", "burnFuel", "([I)V"⟩, 8), (⟨"IslandReserve$Island", "changeWarmth", "()V"⟩, 7), (⟨"IslandReserve$Island", "darkHours", "()I"⟩, 7), (⟨"IslandReserve$Fleet", "begin", "(I)V"⟩, 8), (⟨"IslandReserve$Fleet", "fuelSoFar", "()I"⟩, 8), (⟨"IslandReserve$Island", "safeHours", "()I"⟩, 7), (⟨"java/lang/Throwable", "fillInStackTrace", "(I)Ljava/lang/Throwable;"⟩, 6), (⟨"IslandReserve$Fleet", "sizeOf", "(I)I"⟩, 8), (⟨"IslandReserve$Island", "hourOfNow", "()I"⟩, 7), (⟨"IslandReserve", "shareOutNow", "()V"⟩, 9), (⟨"IslandReserve", "withCheapest", "(JI)J"⟩, 9), (⟨"IslandReserve$Fleet", "fuelFor", "([I)I"⟩, 8), (⟨"IslandReserve$Fleet", "isInUse", "(I)Z"⟩, 8)]
theorem lw_r2 : ∀ q ∈ lw_privs_2, lw_okq q := List.forall_mem_cons.mpr ⟨lw_p16, List.forall_mem_cons.mpr ⟨lw_p17, List.forall_mem_cons.mpr ⟨lw_p18, List.forall_mem_cons.mpr ⟨lw_p19, List.forall_mem_cons.mpr ⟨lw_p20, List.forall_mem_cons.mpr ⟨lw_p21, List.forall_mem_cons.mpr ⟨lw_p22, List.forall_mem_cons.mpr ⟨lw_p23, List.forall_mem_cons.mpr ⟨lw_p24, List.forall_mem_cons.mpr ⟨lw_p25, List.forall_mem_cons.mpr ⟨lw_p26, List.forall_mem_cons.mpr ⟨lw_p27, List.forall_mem_cons.mpr ⟨lw_p28, List.forall_mem_cons.mpr ⟨lw_p29, List.forall_mem_cons.mpr ⟨lw_p30, List.forall_mem_cons.mpr ⟨lw_p31, fun _ h => absurd h List.not_mem_nil⟩⟩⟩⟩⟩⟩⟩⟩⟩⟩⟩⟩⟩⟩⟩⟩
theorem lw_p32 : lw_okq (⟨"IslandReserve$Island", "hasStill", "(I)Z"⟩, 7) := ⟨⟨by decide +kernel, by decide +kernel⟩, List.mem_of_getElem? (i := 26) (by decide +kernel), List.mem_of_getElem? (i := 579) (by decide +kernel), List.mem_of_getElem? (i := 580) (by decide +kernel)⟩
theorem lw_p33 : lw_okq (⟨"IslandReserve", "isAllowed", "(II)Z"⟩, 9) := ⟨⟨by decide +kernel, by decide +kernel⟩, List.mem_of_getElem? (i := 18) (by decide +kernel), List.mem_of_getElem? (i := 606) (by decide +kernel), List.mem_of_getElem? (i := 607) (by decide +kernel)⟩
theorem lw_p34 : lw_okq (⟨"IslandReserve", "obey", "(III)V"⟩, 9) := ⟨⟨by decide +kernel, by decide +kernel⟩, List.mem_of_getElem? (i := 18) (by decide +kernel), List.mem_of_getElem? (i := 610) (by decide +kernel), List.mem_of_getElem? (i := 611) (by decide +kernel)⟩
theorem lw_p35 : lw_okq (⟨"IslandReserveModel", "holds", "(I)Z"⟩, 19) := ⟨⟨by decide +kernel, by decide +kernel⟩, List.mem_of_getElem? (i := 645) (by decide +kernel), List.mem_of_getElem? (i := 723) (by decide +kernel), List.mem_of_getElem? (i := 724) (by decide +kernel)⟩
theorem lw_p36 : lw_okq (⟨"IslandReserveModel", "save", "()V"⟩, 19) := ⟨⟨by decide +kernel, by decide +kernel⟩, List.mem_of_getElem? (i := 645) (by decide +kernel), List.mem_of_getElem? (i := 727) (by decide +kernel), List.mem_of_getElem? (i := 728) (by decide +kernel)⟩
theorem lw_p37 : lw_okq (⟨"IslandReserveModel", "puts", "(II)I"⟩, 19) := ⟨⟨by decide +kernel, by decide +kernel⟩, List.mem_of_getElem? (i := 645) (by decide +kernel), List.mem_of_getElem? (i := 731) (by decide +kernel), List.mem_of_getElem? (i := 732) (by decide +kernel)⟩
theorem lw_p38 : lw_okq (⟨"IslandReserveModel", "startFault", "(I)I"⟩, 19) := ⟨⟨by decide +kernel, by decide +kernel⟩, List.mem_of_getElem? (i := 645) (by decide +kernel), List.mem_of_getElem? (i := 739) (by decide +kernel), List.mem_of_getElem? (i := 740) (by decide +kernel)⟩
theorem lw_p39 : lw_okq (⟨"IslandReserveModel", "starts", "(I)I"⟩, 19) := ⟨⟨by decide +kernel, by decide +kernel⟩, List.mem_of_getElem? (i := 645) (by decide +kernel), List.mem_of_getElem? (i := 743) (by decide +kernel), List.mem_of_getElem? (i := 744) (by decide +kernel)⟩
theorem lw_p40 : lw_okq (⟨"IslandReserveModel", "stopFault", "(I)I"⟩, 19) := ⟨⟨by decide +kernel, by decide +kernel⟩, List.mem_of_getElem? (i := 645) (by decide +kernel), List.mem_of_getElem? (i := 751) (by decide +kernel), List.mem_of_getElem? (i := 752) (by decide +kernel)⟩
theorem lw_p41 : lw_okq (⟨"IslandReserveModel", "stops", "(I)I"⟩, 19) := ⟨⟨by decide +kernel, by decide +kernel⟩, List.mem_of_getElem? (i := 645) (by decide +kernel), List.mem_of_getElem? (i := 755) (by decide +kernel), List.mem_of_getElem? (i := 756) (by decide +kernel)⟩
theorem lw_p42 : lw_okq (⟨"IslandReserveModel", "running", "()I"⟩, 19) := ⟨⟨by decide +kernel, by decide +kernel⟩, List.mem_of_getElem? (i := 645) (by decide +kernel), List.mem_of_getElem? (i := 759) (by decide +kernel), List.mem_of_getElem? (i := 760) (by decide +kernel)⟩
theorem lw_p43 : lw_okq (⟨"IslandReserveModel", "sheds", "()I"⟩, 19) := ⟨⟨by decide +kernel, by decide +kernel⟩, List.mem_of_getElem? (i := 645) (by decide +kernel), List.mem_of_getElem? (i := 774) (by decide +kernel), List.mem_of_getElem? (i := 775) (by decide +kernel)⟩
theorem lw_p44 : lw_okq (⟨"IslandReserveModel", "forecastFault", "(II)I"⟩, 19) := ⟨⟨by decide +kernel, by decide +kernel⟩, List.mem_of_getElem? (i := 645) (by decide +kernel), List.mem_of_getElem? (i := 782) (by decide +kernel), List.mem_of_getElem? (i := 783) (by decide +kernel)⟩
theorem lw_p45 : lw_okq (⟨"IslandReserveModel", "passFault", "(I)I"⟩, 19) := ⟨⟨by decide +kernel, by decide +kernel⟩, List.mem_of_getElem? (i := 645) (by decide +kernel), List.mem_of_getElem? (i := 790) (by decide +kernel), List.mem_of_getElem? (i := 791) (by decide +kernel)⟩
theorem lw_p46 : lw_okq (⟨"IslandReserveModel", "passes", "(I)I"⟩, 19) := ⟨⟨by decide +kernel, by decide +kernel⟩, List.mem_of_getElem? (i := 645) (by decide +kernel), List.mem_of_getElem? (i := 794) (by decide +kernel), List.mem_of_getElem? (i := 795) (by decide +kernel)⟩
theorem lw_p47 : lw_okq (⟨"IslandReserveModel", "goOn", "()V"⟩, 19) := ⟨⟨by decide +kernel, by decide +kernel⟩, List.mem_of_getElem? (i := 645) (by decide +kernel), List.mem_of_getElem? (i := 798) (by decide +kernel), List.mem_of_getElem? (i := 799) (by decide +kernel)⟩
def lw_privs_3 : List (MethodName × Nat) := [(⟨"IslandReserve$Island", "hasStill", "(I)Z"⟩, 7), (⟨"IslandReserve", "isAllowed", "(II)Z"⟩, 9), (⟨"IslandReserve", "obey", "(III)V"⟩, 9), (⟨"IslandReserveModel", "holds", "(I)Z"⟩, 19), (⟨"IslandReserveModel", "save", "()V"⟩, 19), (⟨"IslandReserveModel", "puts", "(II)I"⟩, 19), (⟨"IslandReserveModel", "startFault", "(I)I"⟩, 19), (⟨"IslandReserveModel", "starts", "(I)I"⟩, 19), (⟨"IslandReserveModel", "stopFault", "(I)I"⟩, 19), (⟨"IslandReserveModel", "stops", "(I)I"⟩, 19), (⟨"IslandReserveModel", "running", "()I"⟩, 19), (⟨"IslandReserveModel", "sheds", "()I"⟩, 19), (⟨"IslandReserveModel", "forecastFault", "(II)I"⟩, 19), (⟨"IslandReserveModel", "passFault", "(I)I"⟩, 19), (⟨"IslandReserveModel", "passes", "(I)I"⟩, 19), (⟨"IslandReserveModel", "goOn", "()V"⟩, 19)]
theorem lw_r3 : ∀ q ∈ lw_privs_3, lw_okq q := List.forall_mem_cons.mpr ⟨lw_p32, List.forall_mem_cons.mpr ⟨lw_p33, List.forall_mem_cons.mpr ⟨lw_p34, List.forall_mem_cons.mpr ⟨lw_p35, List.forall_mem_cons.mpr ⟨lw_p36, List.forall_mem_cons.mpr ⟨lw_p37, List.forall_mem_cons.mpr ⟨lw_p38, List.forall_mem_cons.mpr ⟨lw_p39, List.forall_mem_cons.mpr ⟨lw_p40, List.forall_mem_cons.mpr ⟨lw_p41, List.forall_mem_cons.mpr ⟨lw_p42, List.forall_mem_cons.mpr ⟨lw_p43, List.forall_mem_cons.mpr ⟨lw_p44, List.forall_mem_cons.mpr ⟨lw_p45, List.forall_mem_cons.mpr ⟨lw_p46, List.forall_mem_cons.mpr ⟨lw_p47, fun _ h => absurd h List.not_mem_nil⟩⟩⟩⟩⟩⟩⟩⟩⟩⟩⟩⟩⟩⟩⟩⟩
theorem lw_p48 : lw_okq (⟨"IslandReserveModel", "loadOf", "(I)I"⟩, 19) := ⟨⟨by decide +kernel, by decide +kernel⟩, List.mem_of_getElem? (i := 645) (by decide +kernel), List.mem_of_getElem? (i := 802) (by decide +kernel), List.mem_of_getElem? (i := 803) (by decide +kernel)⟩
theorem lw_p49 : lw_okq (⟨"IslandReserveModel", "share", "(II)V"⟩, 19) := ⟨⟨by decide +kernel, by decide +kernel⟩, List.mem_of_getElem? (i := 645) (by decide +kernel), List.mem_of_getElem? (i := 806) (by decide +kernel), List.mem_of_getElem? (i := 807) (by decide +kernel)⟩
theorem lw_p50 : lw_okq (⟨"IslandReserveModel", "cheapestOf", "(I)I"⟩, 19) := ⟨⟨by decide +kernel, by decide +kernel⟩, List.mem_of_getElem? (i := 645) (by decide +kernel), List.mem_of_getElem? (i := 813) (by decide +kernel), List.mem_of_getElem? (i := 814) (by decide +kernel)⟩
theorem lw_p51 : lw_okq (⟨"IslandReserveModel", "go", "(Z)I"⟩, 19) := ⟨⟨by decide +kernel, by decide +kernel⟩, List.mem_of_getElem? (i := 645) (by decide +kernel), List.mem_of_getElem? (i := 833) (by decide +kernel), List.mem_of_getElem? (i := 834) (by decide +kernel)⟩
theorem lw_p52 : lw_okq (⟨"IslandReserveModel", "order", "()V"⟩, 19) := ⟨⟨by decide +kernel, by decide +kernel⟩, List.mem_of_getElem? (i := 645) (by decide +kernel), List.mem_of_getElem? (i := 837) (by decide +kernel), List.mem_of_getElem? (i := 838) (by decide +kernel)⟩
theorem lw_p53 : lw_okq (⟨"IslandReserveModel", "number", "(II)I"⟩, 19) := ⟨⟨by decide +kernel, by decide +kernel⟩, List.mem_of_getElem? (i := 645) (by decide +kernel), List.mem_of_getElem? (i := 841) (by decide +kernel), List.mem_of_getElem? (i := 842) (by decide +kernel)⟩
theorem lw_p54 : lw_okq (⟨"IslandReserveModel", "sign", "(II)I"⟩, 19) := ⟨⟨by decide +kernel, by decide +kernel⟩, List.mem_of_getElem? (i := 645) (by decide +kernel), List.mem_of_getElem? (i := 845) (by decide +kernel), List.mem_of_getElem? (i := 846) (by decide +kernel)⟩
theorem lw_p55 : lw_okq (⟨"IslandReserveModel", "does", "()Z"⟩, 19) := ⟨⟨by decide +kernel, by decide +kernel⟩, List.mem_of_getElem? (i := 645) (by decide +kernel), List.mem_of_getElem? (i := 849) (by decide +kernel), List.mem_of_getElem? (i := 850) (by decide +kernel)⟩
theorem lw_p56 : lw_okq (⟨"IslandReserveModel", "toldOf", "(II)I"⟩, 19) := ⟨⟨by decide +kernel, by decide +kernel⟩, List.mem_of_getElem? (i := 645) (by decide +kernel), List.mem_of_getElem? (i := 865) (by decide +kernel), List.mem_of_getElem? (i := 866) (by decide +kernel)⟩
theorem lw_p57 : lw_okq (⟨"IslandReserveModel", "shareNow", "()V"⟩, 19) := ⟨⟨by decide +kernel, by decide +kernel⟩, List.mem_of_getElem? (i := 645) (by decide +kernel), List.mem_of_getElem? (i := 869) (by decide +kernel), List.mem_of_getElem? (i := 870) (by decide +kernel)⟩
theorem lw_p58 : lw_okq (⟨"IslandReserveModel", "now", "()I"⟩, 19) := ⟨⟨by decide +kernel, by decide +kernel⟩, List.mem_of_getElem? (i := 645) (by decide +kernel), List.mem_of_getElem? (i := 873) (by decide +kernel), List.mem_of_getElem? (i := 874) (by decide +kernel)⟩
theorem lw_p59 : lw_okq (⟨"IslandReserveModel", "toldOfHour", "(II)I"⟩, 19) := ⟨⟨by decide +kernel, by decide +kernel⟩, List.mem_of_getElem? (i := 645) (by decide +kernel), List.mem_of_getElem? (i := 881) (by decide +kernel), List.mem_of_getElem? (i := 882) (by decide +kernel)⟩
theorem lw_p60 : lw_okq (⟨"IslandReserveModel", "counted", "(I)I"⟩, 19) := ⟨⟨by decide +kernel, by decide +kernel⟩, List.mem_of_getElem? (i := 645) (by decide +kernel), List.mem_of_getElem? (i := 889) (by decide +kernel), List.mem_of_getElem? (i := 890) (by decide +kernel)⟩
theorem lw_p61 : lw_okq (⟨"IslandReserveModel", "warming", "()I"⟩, 19) := ⟨⟨by decide +kernel, by decide +kernel⟩, List.mem_of_getElem? (i := 645) (by decide +kernel), List.mem_of_getElem? (i := 893) (by decide +kernel), List.mem_of_getElem? (i := 894) (by decide +kernel)⟩
theorem lw_p62 : lw_okq (⟨"IslandReserveModel", "allFuel", "()I"⟩, 19) := ⟨⟨by decide +kernel, by decide +kernel⟩, List.mem_of_getElem? (i := 645) (by decide +kernel), List.mem_of_getElem? (i := 897) (by decide +kernel), List.mem_of_getElem? (i := 898) (by decide +kernel)⟩
theorem lw_p63 : lw_okq (⟨"IslandReserveModel", "darkWithout", "(I)I"⟩, 19) := ⟨⟨by decide +kernel, by decide +kernel⟩, List.mem_of_getElem? (i := 645) (by decide +kernel), List.mem_of_getElem? (i := 909) (by decide +kernel), List.mem_of_getElem? (i := 910) (by decide +kernel)⟩
def lw_privs_4 : List (MethodName × Nat) := [(⟨"IslandReserveModel", "loadOf", "(I)I"⟩, 19), (⟨"IslandReserveModel", "share", "(II)V"⟩, 19), (⟨"IslandReserveModel", "cheapestOf", "(I)I"⟩, 19), (⟨"IslandReserveModel", "go", "(Z)I"⟩, 19), (⟨"IslandReserveModel", "order", "()V"⟩, 19), (⟨"IslandReserveModel", "number", "(II)I"⟩, 19), (⟨"IslandReserveModel", "sign", "(II)I"⟩, 19), (⟨"IslandReserveModel", "does", "()Z"⟩, 19), (⟨"IslandReserveModel", "toldOf", "(II)I"⟩, 19), (⟨"IslandReserveModel", "shareNow", "()V"⟩, 19), (⟨"IslandReserveModel", "now", "()I"⟩, 19), (⟨"IslandReserveModel", "toldOfHour", "(II)I"⟩, 19), (⟨"IslandReserveModel", "counted", "(I)I"⟩, 19), (⟨"IslandReserveModel", "warming", "()I"⟩, 19), (⟨"IslandReserveModel", "allFuel", "()I"⟩, 19), (⟨"IslandReserveModel", "darkWithout", "(I)I"⟩, 19)]
theorem lw_r4 : ∀ q ∈ lw_privs_4, lw_okq q := List.forall_mem_cons.mpr ⟨lw_p48, List.forall_mem_cons.mpr ⟨lw_p49, List.forall_mem_cons.mpr ⟨lw_p50, List.forall_mem_cons.mpr ⟨lw_p51, List.forall_mem_cons.mpr ⟨lw_p52, List.forall_mem_cons.mpr ⟨lw_p53, List.forall_mem_cons.mpr ⟨lw_p54, List.forall_mem_cons.mpr ⟨lw_p55, List.forall_mem_cons.mpr ⟨lw_p56, List.forall_mem_cons.mpr ⟨lw_p57, List.forall_mem_cons.mpr ⟨lw_p58, List.forall_mem_cons.mpr ⟨lw_p59, List.forall_mem_cons.mpr ⟨lw_p60, List.forall_mem_cons.mpr ⟨lw_p61, List.forall_mem_cons.mpr ⟨lw_p62, List.forall_mem_cons.mpr ⟨lw_p63, fun _ h => absurd h List.not_mem_nil⟩⟩⟩⟩⟩⟩⟩⟩⟩⟩⟩⟩⟩⟩⟩⟩
theorem lw_p64 : lw_okq (⟨"IslandReserveModel", "best", "(II)I"⟩, 19) := ⟨⟨by decide +kernel, by decide +kernel⟩, List.mem_of_getElem? (i := 645) (by decide +kernel), List.mem_of_getElem? (i := 917) (by decide +kernel), List.mem_of_getElem? (i := 918) (by decide +kernel)⟩
theorem lw_p65 : lw_okq (⟨"IslandReserveModel", "darkFirst", "()I"⟩, 19) := ⟨⟨by decide +kernel, by decide +kernel⟩, List.mem_of_getElem? (i := 645) (by decide +kernel), List.mem_of_getElem? (i := 925) (by decide +kernel), List.mem_of_getElem? (i := 926) (by decide +kernel)⟩
theorem lw_p66 : lw_okq (⟨"IslandReserveModel", "putAside", "()V"⟩, 19) := ⟨⟨by decide +kernel, by decide +kernel⟩, List.mem_of_getElem? (i := 645) (by decide +kernel), List.mem_of_getElem? (i := 929) (by decide +kernel), List.mem_of_getElem? (i := 930) (by decide +kernel)⟩
theorem lw_p67 : lw_okq (⟨"IslandReserveModel", "putBack", "()V"⟩, 19) := ⟨⟨by decide +kernel, by decide +kernel⟩, List.mem_of_getElem? (i := 645) (by decide +kernel), List.mem_of_getElem? (i := 933) (by decide +kernel), List.mem_of_getElem? (i := 934) (by decide +kernel)⟩
theorem lw_p68 : lw_okq (⟨"IslandReserveModel", "fewerIfShed", "()I"⟩, 19) := ⟨⟨by decide +kernel, by decide +kernel⟩, List.mem_of_getElem? (i := 645) (by decide +kernel), List.mem_of_getElem? (i := 941) (by decide +kernel), List.mem_of_getElem? (i := 942) (by decide +kernel)⟩
theorem lw_p69 : lw_okq (⟨"IslandReserveModel", "darkToTheEnd", "()I"⟩, 19) := ⟨⟨by decide +kernel, by decide +kernel⟩, List.mem_of_getElem? (i := 645) (by decide +kernel), List.mem_of_getElem? (i := 945) (by decide +kernel), List.mem_of_getElem? (i := 946) (by decide +kernel)⟩
theorem lw_p70 : lw_okq (⟨"IslandReserveModel", "startBest", "()I"⟩, 19) := ⟨⟨by decide +kernel, by decide +kernel⟩, List.mem_of_getElem? (i := 645) (by decide +kernel), List.mem_of_getElem? (i := 953) (by decide +kernel), List.mem_of_getElem? (i := 954) (by decide +kernel)⟩
theorem lw_p71 : lw_okq (⟨"IslandReserveModel", "safe", "()D"⟩, 19) := ⟨⟨by decide +kernel, by decide +kernel⟩, List.mem_of_getElem? (i := 645) (by decide +kernel), List.mem_of_getElem? (i := 961) (by decide +kernel), List.mem_of_getElem? (i := 962) (by decide +kernel)⟩
theorem lw_p72 : lw_okq (⟨"IslandReserveModel", "digestOne", "(J)V"⟩, 19) := ⟨⟨by decide +kernel, by decide +kernel⟩, List.mem_of_getElem? (i := 645) (by decide +kernel), List.mem_of_getElem? (i := 970) (by decide +kernel), List.mem_of_getElem? (i := 971) (by decide +kernel)⟩
def lw_privs_5 : List (MethodName × Nat) := [(⟨"IslandReserveModel", "best", "(II)I"⟩, 19), (⟨"IslandReserveModel", "darkFirst", "()I"⟩, 19), (⟨"IslandReserveModel", "putAside", "()V"⟩, 19), (⟨"IslandReserveModel", "putBack", "()V"⟩, 19), (⟨"IslandReserveModel", "fewerIfShed", "()I"⟩, 19), (⟨"IslandReserveModel", "darkToTheEnd", "()I"⟩, 19), (⟨"IslandReserveModel", "startBest", "()I"⟩, 19), (⟨"IslandReserveModel", "safe", "()D"⟩, 19), (⟨"IslandReserveModel", "digestOne", "(J)V"⟩, 19)]
theorem lw_r5 : ∀ q ∈ lw_privs_5, lw_okq q := List.forall_mem_cons.mpr ⟨lw_p64, List.forall_mem_cons.mpr ⟨lw_p65, List.forall_mem_cons.mpr ⟨lw_p66, List.forall_mem_cons.mpr ⟨lw_p67, List.forall_mem_cons.mpr ⟨lw_p68, List.forall_mem_cons.mpr ⟨lw_p69, List.forall_mem_cons.mpr ⟨lw_p70, List.forall_mem_cons.mpr ⟨lw_p71, List.forall_mem_cons.mpr ⟨lw_p72, fun _ h => absurd h List.not_mem_nil⟩⟩⟩⟩⟩⟩⟩⟩⟩
def lw_privs : List (MethodName × Nat) := lw_privs_1 ++ (lw_privs_2 ++ (lw_privs_3 ++ (lw_privs_4 ++ (lw_privs_5))))
def lw_tbl : List Cond := k2_sels lw_privs ++ tables_1
theorem lw_privs_ok : ∀ q ∈ lw_privs, lw_okq q := by
  show ∀ q ∈ lw_privs_1 ++ (lw_privs_2 ++ (lw_privs_3 ++ (lw_privs_4 ++ (lw_privs_5)))), lw_okq q
  exact List.forall_mem_append.mpr ⟨lw_r1, List.forall_mem_append.mpr ⟨lw_r2, List.forall_mem_append.mpr ⟨lw_r3, List.forall_mem_append.mpr ⟨lw_r4, lw_r5⟩⟩⟩⟩
/-- the streams that the claim lets the run draw from -/
abbrev lw_cs : List Choice := [Jvm.Choice.named "NaN.bits"]
theorem lw_bits : nanBits ∈ lw_cs := by first | decide | exact List.mem_cons_self | simp [lw_cs, nanBits]

/-! ===== BEGIN words of one list among another's, by their places ===== -/
theorem goodIn_r {big : List Cond} (ws : List Cond) (ps : List Nat) (hp : ws = ps.filterMap (fun i => big[i]?)) (h : ws.all goodWord = true) : GoodIn big ws := by
  intro w hw
  have h1 := List.all_eq_true.mp h w hw
  rw [hp] at hw
  obtain ⟨i, -, hi⟩ := List.mem_filterMap.mp hw
  have hm : w ∈ big := by first | exact List.mem_of_getElem? hi | exact List.getElem?_mem hi
  exact ⟨hm, good_of_word h1⟩
theorem goodIn_app {big a b : List Cond} (ha : GoodIn big a) (hb : GoodIn big b) : GoodIn big (a ++ b) := fun w h => (List.mem_append.mp h).elim (ha w) (hb w)
theorem goodIn_ca {big a b : List Cond} {c : Cond} (ha : GoodIn big (c :: a)) (hb : GoodIn big b) : GoodIn big (c :: (a ++ b)) := fun w h => (List.mem_cons.mp h).elim (fun e => ha w (List.mem_cons.mpr (Or.inl e))) (fun h => (List.mem_append.mp h).elim (fun h => ha w (List.mem_cons.mpr (Or.inr h))) (hb w))
theorem goodIn_sub {big ws : List Cond} (hm : ∀ w ∈ ws, w ∈ big) (h : ws.all goodWord = true) : GoodIn big ws := fun w hw => ⟨hm w hw, good_of_word (List.all_eq_true.mp h w hw)⟩
/-! ===== END ===== -/
/-! ===== BEGIN exceptions that leave a method, and their catching by the caller (launches without stack traces) ===== -/
section VXA
/-! The laws vx_back, vx_callV, vx_callS, vx_callSW, vx_throw0, vx_throwS follow proofs of the library, with one case more: JvmDerived/Free/Laws.lean (Back.of_free), Shelf42/LK1.lean (callV, callS), Shelf/KitTraced.lean (throwNew0V, throwNewS). -/
/-- where a method has thrown q: the class by its name, the cell, what was written, the world -/
def vx_T (XC : String → State → State → Prop) (st : State) (q : Addr) (t : State) (mc ms : Nat) (free : Addr → Prop) : Prop :=
  ∃ (E : String) (ce : Cell) (L : List Loc), XC E st t ∧ t.heap[q]? = some ce ∧ ce.vm = .none ∧ st.vm.findClass E = some ce.cls ∧ st.WarmedH t.vm ∧ st.sameButNew ({ t with vm := st.vm } : State) L mc ms ∧ ∀ z ∈ L, free z.base
def vx_Q (Qc : Array Value → State → Outcome → State → Prop) (XC : String → State → State → Prop) (mc ms : Nat) (free : Addr → Prop) : Array Value → State → Outcome → State → Prop := fun a st o t =>
  (Qc a st o t ∧ ∃ L, FrameEnd st o t L mc ms ∧ ∀ q ∈ L, free q.base) ∨ ∃ q, o = .threw q ∧ vx_T XC st q t mc ms free
/-- a callee that returns or throws -/
def vx_Met (l : Launch) (y : MethodName) (ws : List Cond) (rm : Room) (Pc : Array Value → State → Prop) (Qc : Array Value → State → Outcome → State → Prop) (XC : String → State → State → Prop) (mc ms : Nat) (free : Addr → Prop) : Prop :=
  MetFree l y (headSpec ws rm) Pc (fun _ _ _ _ _ => True) (vx_Q Qc XC mc ms free)
def vx_Post (XC : String → State → State → Prop) (mc ms : Nat) (free : Addr → Prop) : Pt → Array Value → Addr → Pt → Prop := fun A a q B =>
  ∃ (g : JFrame) (mk : MethodId) (t : State) (L : List Loc) (E : String) (ce : Cell), B.U.heap = t.heap ∧ B.U.vm = t.vm ∧ XC E (A.U.calling g mk a) t ∧ t.heap[q]? = some ce ∧ ce.vm = .none ∧ A.U.vm.findClass E = some ce.cls ∧ B.locs = A.locs ++ L ∧ (∀ z ∈ L, free z.base) ∧ B.cells = A.cells + mc ∧ B.slots = A.slots + ms
def vx_Back (l : Launch) (R : Room) (p : Program) (e : Env) (below : List Frame) (s : State) (sargs : Array Value) (y : MethodName) (len W9 : Nat)
    (Pre : Pt → Array Value → Prop) (Post : Pt → Array Value → Option Value → Pt → Prop) (PostX : Pt → Array Value → Addr → Pt → Prop) : Prop :=
  ∀ (m : MethodId) (meth : Method) (c : Code) (A : Pt) (g : JFrame) (ig : Instr) (mk : MethodId) (a : Array Value),
    Stand p l e R s m sargs below meth c A.U A.locs A.cells A.slots → g.method = m → g.locals.size = c.maxLocals → decode c.code g.pc = .ok (ig, len) →
    2 * g.monitorRoom + (g.stack.map fun v => v.category).sum ≤ W9 → A.U.methodNamed? y = some mk → Pre A a →
    (∃ (v : Option Value) (B : Pt), Stand p l e R s m sargs below meth c B.U B.locs B.cells B.slots ∧ Post A a v B ∧
      Steps p.tables e below (doInvoke e (A.U.setTop g) [] mk a).1 (B.U.setTop { g with pc := g.pc + len, stack := v.toList ++ g.stack })) ∨
    (∃ (q : Addr) (B : Pt), Stand p l e R s m sargs below meth c B.U B.locs B.cells B.slots ∧ PostX A a q B ∧
      Steps p.tables e below (doInvoke e (A.U.setTop g) [] mk a).1 ((B.U.setTop g).pushFrame (.throwing q)))
section Payer
variable {l : Launch} {R : Room} {p : Program} {e : Env} {below : List Frame} {s : State} {sargs : Array Value} {y : MethodName} {len W9 : Nat}
theorem vx_back {ws : List Cond} {rm : Room} {Pc : Array Value → State → Prop} {Qc : Array Value → State → Outcome → State → Prop} {XC : String → State → State → Prop} {mc ms : Nat} {free : Addr → Prop} {bytes : ByteArray} {maxL : Nat} {ret : Option FieldType}
    (hM : vx_Met l y ws rm Pc Qc XC mc ms free) (hblind : FrameBlind Pc) (hrc : rm.cells = mc) (hrs : rm.slots = ms)
    (hframes : rm.frames + 1 ≤ R.frames) (hlocals : W9 + (maxL + 11) + rm.locals ≤ R.locals)
    (hws : ∀ w ∈ ws, ∀ a' U, s.WarmedH U.vm → w.before a' U = true) (hcode : Cond.code y bytes maxL ret ∈ ws) (hinit : ∀ a' U, s.WarmedH U.vm → (Cond.initialized y.cls).before a' U = true) :
    vx_Back l R p e below s sargs y len W9 (PreOf R mc ms Pc) (PostOf Qc mc ms free) (vx_Post XC mc ms free) := by
  intro m meth c A g ig mk a X hg hsize hdg hW hn hp
  have h1 : (headSpec ws rm).pre.before a A.U = true := atoms_intro fun w hw => hws w hw _ _ X.warmed
  have h2 : (Cond.code y bytes maxL ret).before a A.U = true := hws _ hcode _ _ X.warmed
  have h3 : (Cond.initialized y.cls).before a A.U = true := hinit _ _ X.warmed
  have h4 : A.cells + (headSpec ws rm).room.cells ≤ R.cells := by rw [show (headSpec ws rm).room.cells = mc from hrc]; exact hp.1
  have h5 : A.slots + (headSpec ws rm).room.slots ≤ R.slots := by rw [show (headSpec ws rm).room.slots = ms from hrs]; exact hp.2.1
  have hPc : Pc a (A.U.calling g mk a) := hblind _ _ _ _ hp.2.2
  obtain ⟨U, Ls, c0, s0⟩ := A
  dsimp only [Pt.U, Pt.locs, Pt.cells, Pt.slots] at h1 h2 h3 h4 h5 X hn hPc ⊢
  obtain ⟨methY, cY, hmY, hcY, -, hlY, -, -, -, -⟩ := Cond.code_spec hn h2
  obtain ⟨kY, hkY, -⟩ := className_of_methodNamed hn
  have hinitY : kY.init = .initialized := Cond.initialized_spec (findClass_of_methodNamed hn) hkY h3
  have h : At U g.method c below := by rw [hg]; exact X.here
  have hlocals9 : W9 + (maxL + 11) + (headSpec ws rm).room.locals ≤ R.locals := hlocals
  have happ : (headSpec ws rm).appliesLoose y e.platform (U.calling g mk a) = true :=
    Spec.appliesLoose_calling (g := g) h hdg hn hkY hinitY
      (X.room_calling (g := g) (R' := (headSpec ws rm).room) hsize hmY hcY hframes (by rw [hlY]; omega) h4 h5) h1
  obtain ⟨mid, hmid⟩ := h.above
  have hfr : (U.setTop g).frames = (.java g :: mid) ++ below := by rw [State.frames_setTop' g h.top, hmid]; rfl
  obtain ⟨o, s₂, hsteps, -, hend, hq⟩ := Steps.callFree hM p X.admits X.cas X.clock (acts := []) hfr happ hPc trivial
  have hq' : vx_Q Qc XC mc ms free a (U.calling g mk a) o s₂ := hq
  rw [State.frames_setTop' g h.top] at hend
  obtain ⟨g₀, hg0⟩ := Option.isSome_iff_exists.mp h.top
  obtain ⟨r, hr⟩ := State.topJava?_eq_some.mp hg0
  have hr' : (({ U with heap := s₂.heap, slotsUsed := s₂.slotsUsed } : State).setVm s₂.vm).frames = .java g₀ :: r := hr
  rcases hq' with ⟨hqc, L, hfe, hL⟩ | ⟨q, rfl, E, ce, L, hx, hce, hcv, hcl, hW₂, hsm, hL⟩
  · obtain ⟨⟨v, rfl⟩, hW₂, e2, q2, q3, q4, q5, q6⟩ := id hfe
    have e3 : s₂ = ({ (U.calling g mk a).setFrames s₂.frames with heap := s₂.heap, slotsUsed := s₂.slotsUsed } : State).setVm s₂.vm := by
      have : s₂ = ({ s₂ with vm := (U.calling g mk a).vm } : State).setVm s₂.vm := rfl
      rw [e2] at this
      exact this
    obtain ⟨c₂, i₂, len₂, hc₂, hd₂, hf₂⟩ := hend
    have hW' : U.WarmedH s₂.vm := hW₂
    have hcc : c₂ = c := by
      have h1 : s₂.code? g.method = U.code? g.method := by
        rw [State.code?_eq, State.code?_eq, hW'.alike.method?]
      exact Option.some.inj (hc₂.symm.trans (h1.trans h.code))
    subst hcc
    have hlen : len₂ = len := by rw [hdg] at hd₂; cases hd₂; rfl
    subst hlen
    have hs₂ : s₂ = (({ U with heap := s₂.heap, slotsUsed := s₂.slotsUsed } : State).setVm s₂.vm).setTop { g with pc := g.pc + len₂, stack := v.toList ++ g.stack } := by
      refine e3.trans ?_
      rw [hf₂, State.calling_eq h.top, State.setFrames_setFrames, State.setTop_of_frames _ hr', hr]
      rfl
    have hsame : U.sameButNew ({ U with heap := s₂.heap, slotsUsed := s₂.slotsUsed } : State) L mc ms := by
      refine ⟨?_, q2, q3, q4, q5, q6⟩
      obtain ⟨t, ht, -⟩ := State.frames_cons hr
      show ({ U with heap := s₂.heap, slotsUsed := s₂.slotsUsed } : State) = { U.setFrames U.frames with heap := s₂.heap, slotsUsed := s₂.slotsUsed }
      rw [State.setFrames_self ht]
    subst hg
    refine Or.inl ⟨v, ⟨(({ U with heap := s₂.heap, slotsUsed := s₂.slotsUsed } : State).setVm s₂.vm), Ls ++ L, c0 + mc, s0 + ms⟩,
      ⟨X.admits, X.cas, X.clock, X.frames, X.room, X.hears, X.method, X.code, (X.here.setHeapUsed s₂.heap s₂.slotsUsed).setVm hW'.alike, X.tail, State.WarmedH.trans X.warmed hW', X.limits, X.bytes, X.same.trans (hsame.setVm s.vm)⟩,
      ⟨g, mk, s₂, L, rfl, rfl, hqc, rfl, hL, rfl, rfl⟩, ?_⟩
    show Steps p.tables e below _ ((({ U with heap := s₂.heap, slotsUsed := s₂.slotsUsed } : State).setVm s₂.vm).setTop { g with pc := g.pc + len₂, stack := v.toList ++ g.stack })
    rw [← hs₂]
    exact hsteps
  · obtain ⟨e2, q2, q3, q4, q5, q6⟩ := id hsm
    have e3 : s₂ = ({ (U.calling g mk a).setFrames s₂.frames with heap := s₂.heap, slotsUsed := s₂.slotsUsed } : State).setVm s₂.vm := by
      have : s₂ = ({ s₂ with vm := (U.calling g mk a).vm } : State).setVm s₂.vm := rfl
      rw [e2] at this
      exact this
    have hf₂ : s₂.frames = .throwing q :: .java g :: U.frames.tail := hend
    have hW' : U.WarmedH s₂.vm := hW₂
    have hs₂ : s₂ = ((({ U with heap := s₂.heap, slotsUsed := s₂.slotsUsed } : State).setVm s₂.vm).setTop g).pushFrame (.throwing q) := by
      refine e3.trans ?_
      rw [hf₂, State.calling_eq h.top, State.setFrames_setFrames, State.pushFrame, State.frames_setTop _ hr', State.setTop_of_frames _ hr', State.setFrames_setFrames, hr]
      rfl
    have hsame : U.sameButNew ({ U with heap := s₂.heap, slotsUsed := s₂.slotsUsed } : State) L mc ms := by
      refine ⟨?_, q2, q3, q4, q5, q6⟩
      obtain ⟨t, ht, -⟩ := State.frames_cons hr
      show ({ U with heap := s₂.heap, slotsUsed := s₂.slotsUsed } : State) = { U.setFrames U.frames with heap := s₂.heap, slotsUsed := s₂.slotsUsed }
      rw [State.setFrames_self ht]
    subst hg
    refine Or.inr ⟨q, ⟨(({ U with heap := s₂.heap, slotsUsed := s₂.slotsUsed } : State).setVm s₂.vm), Ls ++ L, c0 + mc, s0 + ms⟩,
      ⟨X.admits, X.cas, X.clock, X.frames, X.room, X.hears, X.method, X.code, (X.here.setHeapUsed s₂.heap s₂.slotsUsed).setVm hW'.alike, X.tail, State.WarmedH.trans X.warmed hW', X.limits, X.bytes, X.same.trans (hsame.setVm s.vm)⟩,
      ⟨g, mk, s₂, L, E, ce, rfl, rfl, hx, hce, hcv, hcl, rfl, hL, rfl, rfl⟩, ?_⟩
    show Steps p.tables e below _ (((({ U with heap := s₂.heap, slotsUsed := s₂.slotsUsed } : State).setVm s₂.vm).setTop g).pushFrame (.throwing q))
    rw [← hs₂]
    exact hsteps
end Payer
section Calls
variable {p : Program} {l : Launch} {e : Env} {R : Room} {s : State} {m : MethodId} {args : Array Value} {below : List Frame} {meth : Method} {c : Code} {T : State} {locs : List Loc} {cells slots : Nat}
theorem vx_callV (X : Stand p l e R s m args below meth c T locs cells slots) (hexec : p.tables.exec = Jvm.exec) {own C : String} {index : Nat} {y : MethodName} {bytes : ByteArray} {maxL : Nat} {ret : Option FieldType}
    (hown : s.vm.findClass own = some m.cls) (hlink : (Cond.methodLink own index y).before args s = true) (hinst : (Cond.instanceMethod y).before args s = true) (hsel : (Cond.selects C y y).before args s = true)
    (hcode : (Cond.code y bytes maxL ret).before args s = true) (hy : y.cls ≠ "java/lang/invoke/MethodHandle" ∧ y.cls ≠ "java/lang/invoke/VarHandle")
    {W9 : Nat} {Pre : Pt → Array Value → Prop} {Post : Pt → Array Value → Option Value → Pt → Prop} {PostX : Pt → Array Value → Addr → Pt → Prop} (hK : vx_Back l R p e below s args y 3 W9 Pre Post PostX)
    {b : Addr} {cellB : Cell} (hcell : T.heap[b]? = some cellB) (hobj : cellB.vm.isStatics = false) (hcls : s.vm.findClass C = some cellB.cls)
    {g : JFrame} (hg : g.method = m) (hsize : g.locals.size = c.maxLocals) {argsL rest : List Value} (hlen : ∀ sig, parseMethodDescriptor y.desc = some sig → argsL.length = sig.parameters.length)
    (hstack : g.stack = argsL.reverse ++ .ref b :: rest) (hW : 2 * g.monitorRoom + (rest.map fun v => v.category).sum ≤ W9) (hdg : decode c.code g.pc = .ok (.invokevirtual index, 3))
    (hpre : ∀ vm₁, s.WarmedH vm₁ → Pre ⟨T.setVm vm₁, locs, cells, slots⟩ (Value.ref b :: argsL).toArray) :
    (∃ (v : Option Value) (vm₁ : Vm) (B : Pt), s.WarmedH vm₁ ∧ Stand p l e R s m args below meth c B.U B.locs B.cells B.slots ∧ Post ⟨T.setVm vm₁, locs, cells, slots⟩ (Value.ref b :: argsL).toArray v B ∧
      ∀ target, Steps p.tables e below (B.U.setTop { g with pc := g.pc + 3, stack := v.toList ++ rest }) target → Steps p.tables e below (T.setTop g) target) ∨
    (∃ (q : Addr) (vm₁ : Vm) (B : Pt), s.WarmedH vm₁ ∧ Stand p l e R s m args below meth c B.U B.locs B.cells B.slots ∧ PostX ⟨T.setVm vm₁, locs, cells, slots⟩ (Value.ref b :: argsL).toArray q B ∧
      Steps p.tables e below (T.setTop g) ((B.U.setTop { g with stack := rest }).pushFrame (.throwing q))) := by
  obtain ⟨mk, methM, hnamed, hmethM, hstM, habM⟩ := Cond.instanceMethod_spec hinst
  obtain ⟨methM', cM, hmethM', -, -, -, -, -, -, hsigM⟩ := Cond.code_spec hnamed hcode
  cases hmethM.symm.trans hmethM'
  obtain ⟨c2, r2, m2, q1, q2, q3, q4, kP, hkP, hkPi⟩ := Cond.selects_spec hsel
  cases hcls.symm.trans q1
  cases (State.methodFound?_of_named hnamed hy).symm.trans q2
  cases hnamed.symm.trans q3
  have hselP : selectMethod e.platform s.vm cellB.cls mk = .method mk := by rw [Launch.admits_selectMethod X.admits]; exact q4
  obtain ⟨vm₁, X₁, hstep₁⟩ := X.invokevirtual hexec hown hlink hnamed hmethM hstM hkP hkPi hy (a := b) (cell := cellB) hcell
    (fun z h => by rw [h] at hobj; cases hobj) hselP hmethM habM hkP hkPi (g := g) hg (argsL := argsL) (rest := rest) (hlen _ hsigM) hstack hdg
  rcases hK m meth c ⟨T.setVm vm₁, locs, cells, slots⟩ { g with stack := rest } (.invokevirtual index) mk (Value.ref b :: argsL).toArray X₁ hg hsize hdg hW (X₁.named hnamed) (hpre vm₁ X₁.warmed) with ⟨v, B, X', hpost, hsteps⟩ | ⟨q, B, X', hpost, hsteps⟩
  · exact Or.inl ⟨v, vm₁, B, X₁.warmed, X', hpost, fun target h => hstep₁ _ fun acts => by rw [doInvoke_state]; exact hsteps.trans h⟩
  · exact Or.inr ⟨q, vm₁, B, X₁.warmed, X', hpost, hstep₁ _ fun acts => by rw [doInvoke_state]; exact hsteps⟩
theorem vx_callS (X : Stand p l e R s m args below meth c T locs cells slots) (hexec : p.tables.exec = Jvm.exec) {own : String} {index : Nat} {y : MethodName} {bytes : ByteArray} {maxL : Nat} {ret : Option FieldType}
    (hown : s.vm.findClass own = some m.cls) (hlink : (Cond.methodLink own index y).before args s = true) (hstat : (Cond.static y).before args s = true) (hinit : (Cond.initialized y.cls).before args s = true)
    (hcode : (Cond.code y bytes maxL ret).before args s = true) (hy : y.cls ≠ "java/lang/invoke/MethodHandle" ∧ y.cls ≠ "java/lang/invoke/VarHandle")
    {W9 : Nat} {Pre : Pt → Array Value → Prop} {Post : Pt → Array Value → Option Value → Pt → Prop} {PostX : Pt → Array Value → Addr → Pt → Prop} (hK : vx_Back l R p e below s args y 3 W9 Pre Post PostX)
    {g : JFrame} (hg : g.method = m) (hsize : g.locals.size = c.maxLocals) {argsL rest : List Value} (hlen : ∀ sig, parseMethodDescriptor y.desc = some sig → argsL.length = sig.parameters.length)
    (hstack : g.stack = argsL.reverse ++ rest) (hW : 2 * g.monitorRoom + (rest.map fun v => v.category).sum ≤ W9) (hdg : decode c.code g.pc = .ok (.invokestatic index, 3))
    (hpre : ∀ vm₁, s.WarmedH vm₁ → Pre ⟨T.setVm vm₁, locs, cells, slots⟩ argsL.toArray) :
    (∃ (v : Option Value) (vm₁ : Vm) (B : Pt), s.WarmedH vm₁ ∧ Stand p l e R s m args below meth c B.U B.locs B.cells B.slots ∧ Post ⟨T.setVm vm₁, locs, cells, slots⟩ argsL.toArray v B ∧
      ∀ target, Steps p.tables e below (B.U.setTop { g with pc := g.pc + 3, stack := v.toList ++ rest }) target → Steps p.tables e below (T.setTop g) target) ∨
    (∃ (q : Addr) (vm₁ : Vm) (B : Pt), s.WarmedH vm₁ ∧ Stand p l e R s m args below meth c B.U B.locs B.cells B.slots ∧ PostX ⟨T.setVm vm₁, locs, cells, slots⟩ argsL.toArray q B ∧
      Steps p.tables e below (T.setTop g) ((B.U.setTop { g with stack := rest }).pushFrame (.throwing q))) := by
  obtain ⟨mk, hnamed⟩ := Cond.code_named hcode
  obtain ⟨methM, cM, hmethM, -, -, -, -, -, -, hsigM⟩ := Cond.code_spec hnamed hcode
  have hstatic : methM.isStatic = true := Cond.static_spec hnamed hmethM hstat
  obtain ⟨kP, hkP, -⟩ := className_of_methodNamed hnamed
  have hinitP : kP.init = .initialized := Cond.initialized_spec (findClass_of_methodNamed hnamed) hkP hinit
  obtain ⟨vm₁, X₁, hstep₁⟩ := X.invokestatic hexec hown hlink hnamed hmethM hstatic hkP hinitP hy (g := g) hg (argsL := argsL) (rest := rest) (hlen _ hsigM) hstack hdg
  rcases hK m meth c ⟨T.setVm vm₁, locs, cells, slots⟩ { g with stack := rest } (.invokestatic index) mk argsL.toArray X₁ hg hsize hdg hW (X₁.named hnamed) (hpre vm₁ X₁.warmed) with ⟨v, B, X', hpost, hsteps⟩ | ⟨q, B, X', hpost, hsteps⟩
  · exact Or.inl ⟨v, vm₁, B, X₁.warmed, X', hpost, fun target h => hstep₁ _ fun acts => by rw [doInvoke_state]; exact hsteps.trans h⟩
  · exact Or.inr ⟨q, vm₁, B, X₁.warmed, X', hpost, hstep₁ _ fun acts => by rw [doInvoke_state]; exact hsteps⟩
end Calls
theorem vx_cls {s : State} {T : State} {vm₁ : Vm} {E : String} {k : ClassId} (hW : s.WarmedH vm₁) (h : (T.setVm vm₁).vm.findClass E = some k) : s.vm.findClass E = some k := by
  have h1 : vm₁.findClass E = some k := h
  rw [hW.alike.findClass] at h1
  exact h1
/-- the method's frame g, with q thrown over it -/
def vx_W (p : Program) (l : Launch) (e : Env) (R : Room) (s : State) (m : MethodId) (args : Array Value) (below : List Frame) (meth : Method) (c : Code) (H : Heap) (locs : List Loc) (cells slots : Nat) (Q : State → Prop) (g : JFrame) (q : Addr) : Prop :=
  ∀ T : State, T.heap = H → Stand p l e R s m args below meth c T locs cells slots → ∃ t, Steps p.tables e below ((T.setTop g).pushFrame (.throwing q)) t ∧ Q t
def vx_Run (p : Program) (l : Launch) (e : Env) (R : Room) (s : State) (m : MethodId) (args : Array Value) (below : List Frame) (meth : Method) (c : Code) (H : Heap) (locs : List Loc) (cells slots mc ms : Nat) (g : JFrame) (rest : List Value) (Qa : State → Outcome → State → Prop) (XC : String → State → State → Prop) (free : Addr → Prop) : Prop :=
  ∀ T : State, T.heap = H → Stand p l e R s m args below meth c T locs cells slots →
    (∃ (v : Option Value) (st₀ t T' : State) (L : List Loc), st₀.heap = H ∧ Stand p l e R s m args below meth c T' (locs ++ L) (cells + mc) (slots + ms) ∧ (∀ q ∈ L, free q.base) ∧ T'.heap = t.heap ∧ T'.vm = t.vm ∧ Qa st₀ (.returned v) t ∧
      Goes p e below T g T' { g with pc := g.pc + 3, stack := v.toList ++ rest }) ∨
    (∃ (q : Addr) (st₀ t T' : State) (L : List Loc) (E : String) (ce : Cell), st₀.heap = H ∧ Stand p l e R s m args below meth c T' (locs ++ L) (cells + mc) (slots + ms) ∧ (∀ z ∈ L, free z.base) ∧ T'.heap = t.heap ∧ T'.vm = t.vm ∧ XC E st₀ t ∧ t.heap[q]? = some ce ∧ ce.vm = .none ∧ s.vm.findClass E = some ce.cls ∧
      Steps p.tables e below (T.setTop g) ((T'.setTop { g with stack := rest }).pushFrame (.throwing q)))
def vx_X {S : Type} (px : S → Prop) (B : String → S → State → Prop) (A : Nat → Prop) : String → State → State → Prop := fun E st t => ∃ u : S, px u ∧ B E u t ∧ va_F A st t
section Runs
variable {p : Program} {l : Launch} {e : Env} {R : Room} {s : State} {m : MethodId} {args : Array Value} {below : List Frame} {meth : Method} {c : Code} {H : Heap} {locs : List Loc} {cells slots : Nat}
variable {y : MethodName} {bytes cc : ByteArray} {maxL nL mc ms n index : Nat} {ret : Option FieldType} {ws : List Cond} {rm : Room} {Pc : Array Value → State → Prop} {Qc : Array Value → State → Outcome → State → Prop} {XC : String → State → State → Prop} {free : Addr → Prop} {Ts : List Cond} {own C : String} {b : Addr} {As rest : List Value} {g : JFrame}
theorem vx_callBack (cb : CallB R s args own index y bytes maxL ret ws rm mc ms n) (hM : vx_Met l y ws rm Pc Qc XC mc ms free) (hbl : FrameBlind Pc) : vx_Back l R p e below s args y 3 8 (PreOf R mc ms Pc) (PostOf Qc mc ms free) (vx_Post XC mc ms free) := by
  obtain ⟨hrc, hrs, hfr, hlo, hws, hcw, -, hini, -⟩ := cb
  exact vx_back (bytes := bytes) (maxL := maxL) (ret := ret) hM hbl hrc hrs hfr hlo hws hcw (fun a' U hW => word_at hW (Or.inl (by first | rfl | simp [Cond.onTables, Cond.keeps, Cond.steady])) hini)
theorem vx_runV (S : CallFix p m c cc nL s args Ts own) (hM : vx_Met l y ws rm Pc Qc XC mc ms free) (cw : CallW R s args own C index y bytes maxL ret ws rm mc ms n) (hp : PreV s H C b Pc As)
    (hg : g.method = m) (hn : As.length = n) (hsize : g.locals.size = nL) (hstack : g.stack = As.reverse ++ .ref b :: rest) (hW : 2 * g.monitorRoom + (rest.map fun v => v.category).sum ≤ 8) (hdg : decode cc g.pc = .ok (.invokevirtual index, 3)) (hf : cells + mc ≤ R.cells ∧ slots + ms ≤ R.slots) :
    vx_Run p l e R s m args below meth c H locs cells slots mc ms g rest (Qc (Value.ref b :: As).toArray) XC free := by
  have hK : vx_Back l R p e below s args y 3 8 (PreOf R mc ms Pc) (PostOf Qc mc ms free) (vx_Post XC mc ms free) := vx_callBack cw.1 hM hp.1
  obtain ⟨⟨-, -, -, -, -, -, hcode, -, hy, hlen, hl⟩, hin, hse⟩ := cw
  obtain ⟨hx, hb, hml, ho, -⟩ := S
  obtain ⟨-, ⟨cellB, hcB, hoB, hclB⟩, hPc⟩ := hp
  intro T hT X
  rcases vx_callV X hx (C := C) (bytes := bytes) (maxL := maxL) (ret := ret) ho hl hin hse hcode hy hK (by rw [hT]; exact hcB) hoB hclB hg (hsize.trans hml.symm) (argsL := As) (rest := rest) (fun sig h => hn.trans (hlen sig h)) hstack hW (by rw [hb]; exact hdg)
    (fun vm₁ hW₁ => ⟨hf.1, hf.2, hPc (T.setVm vm₁) hT hW₁⟩) with ⟨v, vm₁, ⟨U', l2, c2, s2⟩, hW₁, X', ⟨g', mk, t, L, e1, e2, hq, h1, hL, h2, h3⟩, st⟩ | ⟨q, vm₁, ⟨U', l2, c2, s2⟩, hW₁, X', ⟨g', mk, t, L, E, ce, e1, e2, hq, hce, hcv, hcl, h1, hL, h2, h3⟩, st⟩
  · dsimp only [Pt.U, Pt.locs, Pt.cells, Pt.slots] at X' e1 e2 h1 h2 h3 st
    subst h1; subst h2; subst h3
    exact Or.inl ⟨v, (T.setVm vm₁).calling g' mk (Value.ref b :: As).toArray, t, U', L, hT, X', hL, e1, e2, hq, st⟩
  · dsimp only [Pt.U, Pt.locs, Pt.cells, Pt.slots] at X' e1 e2 h1 h2 h3 st hcl
    subst h1; subst h2; subst h3
    exact Or.inr ⟨q, (T.setVm vm₁).calling g' mk (Value.ref b :: As).toArray, t, U', L, E, ce, hT, X', hL, e1, e2, hq, hce, hcv, vx_cls hW₁ hcl, st⟩
theorem vx_runS (S : CallFix p m c cc nL s args Ts own) (hM : vx_Met l y ws rm Pc Qc XC mc ms free) (cw : CallB R s args own index y bytes maxL ret ws rm mc ms n ∧ (Cond.static y).before args s = true) (hp : PreS s H Pc As)
    (hg : g.method = m) (hn : As.length = n) (hsize : g.locals.size = nL) (hstack : g.stack = As.reverse ++ rest) (hW : 2 * g.monitorRoom + (rest.map fun v => v.category).sum ≤ 8) (hdg : decode cc g.pc = .ok (.invokestatic index, 3)) (hf : cells + mc ≤ R.cells ∧ slots + ms ≤ R.slots) :
    vx_Run p l e R s m args below meth c H locs cells slots mc ms g rest (Qc As.toArray) XC free := by
  have hK : vx_Back l R p e below s args y 3 8 (PreOf R mc ms Pc) (PostOf Qc mc ms free) (vx_Post XC mc ms free) := vx_callBack cw.1 hM hp.1
  obtain ⟨⟨-, -, -, -, -, -, hcode, hini, hy, hlen, hl⟩, hstt⟩ := cw
  obtain ⟨hx, hb, hml, ho, -⟩ := S
  intro T hT X
  rcases vx_callS X hx (bytes := bytes) (maxL := maxL) (ret := ret) ho hl hstt hini hcode hy hK hg (hsize.trans hml.symm) (argsL := As) (rest := rest) (fun sig h => hn.trans (hlen sig h)) hstack hW (by rw [hb]; exact hdg)
    (fun vm₁ hW₁ => ⟨hf.1, hf.2, hp.2 (T.setVm vm₁) hT hW₁⟩) with ⟨v, vm₁, ⟨U', l2, c2, s2⟩, hW₁, X', ⟨g', mk, t, L, e1, e2, hq, h1, hL, h2, h3⟩, st⟩ | ⟨q, vm₁, ⟨U', l2, c2, s2⟩, hW₁, X', ⟨g', mk, t, L, E, ce, e1, e2, hq, hce, hcv, hcl, h1, hL, h2, h3⟩, st⟩
  · dsimp only [Pt.U, Pt.locs, Pt.cells, Pt.slots] at X' e1 e2 h1 h2 h3 st
    subst h1; subst h2; subst h3
    exact Or.inl ⟨v, (T.setVm vm₁).calling g' mk As.toArray, t, U', L, hT, X', hL, e1, e2, hq, st⟩
  · dsimp only [Pt.U, Pt.locs, Pt.cells, Pt.slots] at X' e1 e2 h1 h2 h3 st hcl
    subst h1; subst h2; subst h3
    exact Or.inr ⟨q, (T.setVm vm₁).calling g' mk As.toArray, t, U', L, E, ce, hT, X', hL, e1, e2, hq, hce, hcv, vx_cls hW₁ hcl, st⟩
end Runs
section Rows
variable {p : Program} {l : Launch} {e : Env} {R : Room} {s : State} {m : MethodId} {args : Array Value} {below : List Frame} {meth : Method} {c : Code} {H : Heap} {locs : List Loc} {cells slots : Nat} {Q : State → Prop}
variable {mc ms : Nat} {free : Addr → Prop} {A0 A1 : Nat → Prop} {H0 : Heap} {a : Array Value} {pc : Nat} {ls : Array Slot} {st0 rest : List Value}
theorem vx_keep {st₀ t T' : State} {L : List Loc} (h0 : st₀.heap = H) (e1 : T'.heap = t.heap) (hS : va_S A0 H0 H locs) (hA : ∀ q, q < H.size → A1 q → A0 q) (hf : ∀ q, free q → A0 q) (hL : ∀ q ∈ L, free q.base) (hF : va_F A1 st₀ t) :
    H.size ≤ T'.heap.size ∧ (∀ q : Nat, q < H.size → ¬ A1 q → T'.heap[q]? = H[q]?) ∧ va_S A0 H0 T'.heap (locs ++ L) := by
  obtain ⟨hz, hk⟩ := hF
  rw [h0] at hz hk
  exact ⟨by rw [e1]; exact hz, fun q h1 h2 => by rw [e1]; exact hk q h1 h2,
    ⟨Nat.le_trans hS.1 (by rw [e1]; exact hz), fun q h1 h2 => by rw [e1, hk q (Nat.lt_of_lt_of_le h1 hS.1) (fun z => h2 (hA q (Nat.lt_of_lt_of_le h1 hS.1) z))]; exact hS.2.1 q h1 h2, fun q hq => by
      rcases List.mem_append.mp hq with h | h
      · exact hS.2.2 q h
      · exact hf _ (hL q h)⟩⟩
theorem vx_calli {S SX : Type} {post : Int32 → S → Prop} {px : SX → Prop} {B : S → State → Prop} {BX : String → SX → State → Prop} {AX : Nat → Prop} (hr : vx_Run p l e R s m args below meth c H locs cells slots mc ms (F0 m pc ls st0) rest (va_Qi post B A1 a) (vx_X px BX AX) free) (hS : va_S A0 H0 H locs) (hA : ∀ q, q < H.size → A1 q → A0 q) (hf : ∀ q, free q → A0 q) (hAX : ∀ q, q < H.size → AX q → A0 q)
    (kx : ∀ (E : String) (ce : Cell) (q9 : Addr) (u : SX) (t : State) (H1 : Heap) (locs1 : List Loc), t.heap = H1 → s.vm.Alike t.vm → px u → BX E u t → H.size ≤ H1.size → (∀ q : Nat, q < H.size → ¬ AX q → H1[q]? = H[q]?) → va_S A0 H0 H1 locs1 → H1[q9]? = some ce → ce.vm = .none → s.vm.findClass E = some ce.cls → vx_W p l e R s m args below meth c H1 locs1 (cells + mc) (slots + ms) Q (F0 m pc ls rest) q9)
    (kk : ∀ (r : Int32) (u : S) (t : State) (H1 : Heap) (locs1 : List Loc), t.heap = H1 → s.vm.Alike t.vm → post r u → B u t → H.size ≤ H1.size → (∀ q : Nat, q < H.size → ¬ A1 q → H1[q]? = H[q]?) → va_S A0 H0 H1 locs1 → W p l e R s m args below meth c H1 locs1 (cells + mc) (slots + ms) Q (F0 m (pc + 3) ls (.int r :: rest))) : W p l e R s m args below meth c H locs cells slots Q (F0 m pc ls st0) := by
  intro T hT X
  rcases hr T hT X with ⟨v, st₀, t, T', L, h0, X', hL, e1, e2, ⟨⟨r, u, hv, hp, hb⟩, hF⟩, st⟩ | ⟨q, st₀, t, T', L, E, ce, h0, X', hL, e1, e2, ⟨u, hp, hb, hF⟩, hce, hcv, hcl, st⟩
  · cases hv
    obtain ⟨k1, k2, k3⟩ := vx_keep h0 e1 hS hA hf hL hF
    obtain ⟨t2, a1, b1⟩ := kk r u t T'.heap (locs ++ L) e1.symm (by rw [← e2]; exact X'.warmed.alike) hp hb k1 k2 k3 T' rfl X'
    exact ⟨t2, st t2 a1, b1⟩
  · obtain ⟨k1, k2, k3⟩ := vx_keep h0 e1 hS hAX hf hL hF
    obtain ⟨t2, a1, b1⟩ := kx E ce q u t T'.heap (locs ++ L) e1.symm (by rw [← e2]; exact X'.warmed.alike) hp hb k1 k2 k3 (by rw [e1]; exact hce) hcv hcl T' rfl X'
    exact ⟨t2, st.trans a1, b1⟩
theorem vx_calll {S SX : Type} {post : Int64 → S → Prop} {px : SX → Prop} {B : S → State → Prop} {BX : String → SX → State → Prop} {AX : Nat → Prop} (hr : vx_Run p l e R s m args below meth c H locs cells slots mc ms (F0 m pc ls st0) rest (va_Ql post B A1 a) (vx_X px BX AX) free) (hS : va_S A0 H0 H locs) (hA : ∀ q, q < H.size → A1 q → A0 q) (hf : ∀ q, free q → A0 q) (hAX : ∀ q, q < H.size → AX q → A0 q)
    (kx : ∀ (E : String) (ce : Cell) (q9 : Addr) (u : SX) (t : State) (H1 : Heap) (locs1 : List Loc), t.heap = H1 → s.vm.Alike t.vm → px u → BX E u t → H.size ≤ H1.size → (∀ q : Nat, q < H.size → ¬ AX q → H1[q]? = H[q]?) → va_S A0 H0 H1 locs1 → H1[q9]? = some ce → ce.vm = .none → s.vm.findClass E = some ce.cls → vx_W p l e R s m args below meth c H1 locs1 (cells + mc) (slots + ms) Q (F0 m pc ls rest) q9)
    (kk : ∀ (r : Int64) (u : S) (t : State) (H1 : Heap) (locs1 : List Loc), t.heap = H1 → s.vm.Alike t.vm → post r u → B u t → H.size ≤ H1.size → (∀ q : Nat, q < H.size → ¬ A1 q → H1[q]? = H[q]?) → va_S A0 H0 H1 locs1 → W p l e R s m args below meth c H1 locs1 (cells + mc) (slots + ms) Q (F0 m (pc + 3) ls (.long r :: rest))) : W p l e R s m args below meth c H locs cells slots Q (F0 m pc ls st0) := by
  intro T hT X
  rcases hr T hT X with ⟨v, st₀, t, T', L, h0, X', hL, e1, e2, ⟨⟨r, u, hv, hp, hb⟩, hF⟩, st⟩ | ⟨q, st₀, t, T', L, E, ce, h0, X', hL, e1, e2, ⟨u, hp, hb, hF⟩, hce, hcv, hcl, st⟩
  · cases hv
    obtain ⟨k1, k2, k3⟩ := vx_keep h0 e1 hS hA hf hL hF
    obtain ⟨t2, a1, b1⟩ := kk r u t T'.heap (locs ++ L) e1.symm (by rw [← e2]; exact X'.warmed.alike) hp hb k1 k2 k3 T' rfl X'
    exact ⟨t2, st t2 a1, b1⟩
  · obtain ⟨k1, k2, k3⟩ := vx_keep h0 e1 hS hAX hf hL hF
    obtain ⟨t2, a1, b1⟩ := kx E ce q u t T'.heap (locs ++ L) e1.symm (by rw [← e2]; exact X'.warmed.alike) hp hb k1 k2 k3 (by rw [e1]; exact hce) hcv hcl T' rfl X'
    exact ⟨t2, st.trans a1, b1⟩
theorem vx_callf {S SX : Type} {post : UInt32 → S → Prop} {px : SX → Prop} {B : S → State → Prop} {BX : String → SX → State → Prop} {AX : Nat → Prop} (hr : vx_Run p l e R s m args below meth c H locs cells slots mc ms (F0 m pc ls st0) rest (va_Qf post B A1 a) (vx_X px BX AX) free) (hS : va_S A0 H0 H locs) (hA : ∀ q, q < H.size → A1 q → A0 q) (hf : ∀ q, free q → A0 q) (hAX : ∀ q, q < H.size → AX q → A0 q)
    (kx : ∀ (E : String) (ce : Cell) (q9 : Addr) (u : SX) (t : State) (H1 : Heap) (locs1 : List Loc), t.heap = H1 → s.vm.Alike t.vm → px u → BX E u t → H.size ≤ H1.size → (∀ q : Nat, q < H.size → ¬ AX q → H1[q]? = H[q]?) → va_S A0 H0 H1 locs1 → H1[q9]? = some ce → ce.vm = .none → s.vm.findClass E = some ce.cls → vx_W p l e R s m args below meth c H1 locs1 (cells + mc) (slots + ms) Q (F0 m pc ls rest) q9)
    (kk : ∀ (r : UInt32) (u : S) (t : State) (H1 : Heap) (locs1 : List Loc), t.heap = H1 → s.vm.Alike t.vm → post r u → B u t → H.size ≤ H1.size → (∀ q : Nat, q < H.size → ¬ A1 q → H1[q]? = H[q]?) → va_S A0 H0 H1 locs1 → W p l e R s m args below meth c H1 locs1 (cells + mc) (slots + ms) Q (F0 m (pc + 3) ls (.float r :: rest))) : W p l e R s m args below meth c H locs cells slots Q (F0 m pc ls st0) := by
  intro T hT X
  rcases hr T hT X with ⟨v, st₀, t, T', L, h0, X', hL, e1, e2, ⟨⟨r, u, hv, hp, hb⟩, hF⟩, st⟩ | ⟨q, st₀, t, T', L, E, ce, h0, X', hL, e1, e2, ⟨u, hp, hb, hF⟩, hce, hcv, hcl, st⟩
  · cases hv
    obtain ⟨k1, k2, k3⟩ := vx_keep h0 e1 hS hA hf hL hF
    obtain ⟨t2, a1, b1⟩ := kk r u t T'.heap (locs ++ L) e1.symm (by rw [← e2]; exact X'.warmed.alike) hp hb k1 k2 k3 T' rfl X'
    exact ⟨t2, st t2 a1, b1⟩
  · obtain ⟨k1, k2, k3⟩ := vx_keep h0 e1 hS hAX hf hL hF
    obtain ⟨t2, a1, b1⟩ := kx E ce q u t T'.heap (locs ++ L) e1.symm (by rw [← e2]; exact X'.warmed.alike) hp hb k1 k2 k3 (by rw [e1]; exact hce) hcv hcl T' rfl X'
    exact ⟨t2, st.trans a1, b1⟩
theorem vx_calld {S SX : Type} {post : UInt64 → S → Prop} {px : SX → Prop} {B : S → State → Prop} {BX : String → SX → State → Prop} {AX : Nat → Prop} (hr : vx_Run p l e R s m args below meth c H locs cells slots mc ms (F0 m pc ls st0) rest (va_Qd post B A1 a) (vx_X px BX AX) free) (hS : va_S A0 H0 H locs) (hA : ∀ q, q < H.size → A1 q → A0 q) (hf : ∀ q, free q → A0 q) (hAX : ∀ q, q < H.size → AX q → A0 q)
    (kx : ∀ (E : String) (ce : Cell) (q9 : Addr) (u : SX) (t : State) (H1 : Heap) (locs1 : List Loc), t.heap = H1 → s.vm.Alike t.vm → px u → BX E u t → H.size ≤ H1.size → (∀ q : Nat, q < H.size → ¬ AX q → H1[q]? = H[q]?) → va_S A0 H0 H1 locs1 → H1[q9]? = some ce → ce.vm = .none → s.vm.findClass E = some ce.cls → vx_W p l e R s m args below meth c H1 locs1 (cells + mc) (slots + ms) Q (F0 m pc ls rest) q9)
    (kk : ∀ (r : UInt64) (u : S) (t : State) (H1 : Heap) (locs1 : List Loc), t.heap = H1 → s.vm.Alike t.vm → post r u → B u t → H.size ≤ H1.size → (∀ q : Nat, q < H.size → ¬ A1 q → H1[q]? = H[q]?) → va_S A0 H0 H1 locs1 → W p l e R s m args below meth c H1 locs1 (cells + mc) (slots + ms) Q (F0 m (pc + 3) ls (.double r :: rest))) : W p l e R s m args below meth c H locs cells slots Q (F0 m pc ls st0) := by
  intro T hT X
  rcases hr T hT X with ⟨v, st₀, t, T', L, h0, X', hL, e1, e2, ⟨⟨r, u, hv, hp, hb⟩, hF⟩, st⟩ | ⟨q, st₀, t, T', L, E, ce, h0, X', hL, e1, e2, ⟨u, hp, hb, hF⟩, hce, hcv, hcl, st⟩
  · cases hv
    obtain ⟨k1, k2, k3⟩ := vx_keep h0 e1 hS hA hf hL hF
    obtain ⟨t2, a1, b1⟩ := kk r u t T'.heap (locs ++ L) e1.symm (by rw [← e2]; exact X'.warmed.alike) hp hb k1 k2 k3 T' rfl X'
    exact ⟨t2, st t2 a1, b1⟩
  · obtain ⟨k1, k2, k3⟩ := vx_keep h0 e1 hS hAX hf hL hF
    obtain ⟨t2, a1, b1⟩ := kx E ce q u t T'.heap (locs ++ L) e1.symm (by rw [← e2]; exact X'.warmed.alike) hp hb k1 k2 k3 (by rw [e1]; exact hce) hcv hcl T' rfl X'
    exact ⟨t2, st.trans a1, b1⟩
theorem vx_callv {S SX : Type} {post : S → Prop} {px : SX → Prop} {B : S → State → Prop} {BX : String → SX → State → Prop} {AX : Nat → Prop} (hr : vx_Run p l e R s m args below meth c H locs cells slots mc ms (F0 m pc ls st0) rest (va_Qv post B A1 a) (vx_X px BX AX) free) (hS : va_S A0 H0 H locs) (hA : ∀ q, q < H.size → A1 q → A0 q) (hf : ∀ q, free q → A0 q) (hAX : ∀ q, q < H.size → AX q → A0 q)
    (kx : ∀ (E : String) (ce : Cell) (q9 : Addr) (u : SX) (t : State) (H1 : Heap) (locs1 : List Loc), t.heap = H1 → s.vm.Alike t.vm → px u → BX E u t → H.size ≤ H1.size → (∀ q : Nat, q < H.size → ¬ AX q → H1[q]? = H[q]?) → va_S A0 H0 H1 locs1 → H1[q9]? = some ce → ce.vm = .none → s.vm.findClass E = some ce.cls → vx_W p l e R s m args below meth c H1 locs1 (cells + mc) (slots + ms) Q (F0 m pc ls rest) q9)
    (kk : ∀ (u : S) (t : State) (H1 : Heap) (locs1 : List Loc), t.heap = H1 → s.vm.Alike t.vm → post u → B u t → H.size ≤ H1.size → (∀ q : Nat, q < H.size → ¬ A1 q → H1[q]? = H[q]?) → va_S A0 H0 H1 locs1 → W p l e R s m args below meth c H1 locs1 (cells + mc) (slots + ms) Q (F0 m (pc + 3) ls (rest))) : W p l e R s m args below meth c H locs cells slots Q (F0 m pc ls st0) := by
  intro T hT X
  rcases hr T hT X with ⟨v, st₀, t, T', L, h0, X', hL, e1, e2, ⟨⟨u, hv, hp, hb⟩, hF⟩, st⟩ | ⟨q, st₀, t, T', L, E, ce, h0, X', hL, e1, e2, ⟨u, hp, hb, hF⟩, hce, hcv, hcl, st⟩
  · cases hv
    obtain ⟨k1, k2, k3⟩ := vx_keep h0 e1 hS hA hf hL hF
    obtain ⟨t2, a1, b1⟩ := kk u t T'.heap (locs ++ L) e1.symm (by rw [← e2]; exact X'.warmed.alike) hp hb k1 k2 k3 T' rfl X'
    exact ⟨t2, st t2 a1, b1⟩
  · obtain ⟨k1, k2, k3⟩ := vx_keep h0 e1 hS hAX hf hL hF
    obtain ⟨t2, a1, b1⟩ := kx E ce q u t T'.heap (locs ++ L) e1.symm (by rw [← e2]; exact X'.warmed.alike) hp hb k1 k2 k3 (by rw [e1]; exact hce) hcv hcl T' rfl X'
    exact ⟨t2, st.trans a1, b1⟩
/-- caught by the row x of this method's table; the rows ahead don't take it -/
theorem vx_catch {own name : String} {E : String} {ce : Cell} {q : Addr} (hown : s.vm.findClass own = some m.cls) (pre : List ExceptionTableEntry) (x : ExceptionTableEntry) (suf : List ExceptionTableEntry) (hsplit : c.exceptionTable.toList = pre ++ x :: suf)
    (hpass : ∀ z ∈ pre, covers z pc = false ∨ (z.catchType ≠ 0 ∧ ∃ nm : String, (Cond.classLink own z.catchType nm).before args s = true ∧ va_Nc E nm s)) (hx : covers x pc = true) (h0 : x.catchType ≠ 0)
    (hlink : (Cond.classLink own x.catchType name).before args s = true) (hcast : (Cond.castable E name).before args s = true) (hcell : H[q]? = some ce) (hv : ce.vm = .none) (hcl : s.vm.findClass E = some ce.cls)
    (kk : W p l e R s m args below meth c H locs cells slots Q (F0 m x.handlerPc ls [.ref q])) : vx_W p l e R s m args below meth c H locs cells slots Q (F0 m pc ls rest) q := by
  intro T hT X
  have hpl : e.platform.magicAccessors = ({} : Platform).magicAccessors := by rw [X.admits.platform]
  obtain ⟨c3, c4, hc3, hc4, hasg⟩ := Cond.castable_spec hcast
  cases Option.some.inj (hc3.symm.trans hcl)
  obtain ⟨c5, hc5, hcl5⟩ := Cond.classLink_spec hown hlink e.platform hpl
  cases Option.some.inj (hc4.symm.trans hc5)
  obtain ⟨vm', X', st⟩ := X.thenCaughtThrough q (g := F0 m pc ls rest) rfl (Steps.refl _) (by rw [hT]; exact hcell) (by rw [hv]; rfl) (by obtain ⟨k9, h9, -⟩ := Vm.findClass_spec hcl; exact ⟨k9, h9⟩) pre x suf hsplit
    (fun z hz => by
      rcases hpass z hz with h | ⟨hz0, nm, hl1, hn1⟩
      · exact Or.inl h
      · obtain ⟨c6, hc6, hcl6⟩ := Cond.classLink_spec hown hl1 e.platform hpl
        obtain ⟨a8, b8, h1, h2, h3⟩ := hn1
        cases Option.some.inj (h1.symm.trans hcl)
        cases Option.some.inj (h2.symm.trans hc6)
        exact Or.inr ⟨hz0, _, hcl6, h3⟩) hx (Or.inr ⟨h0, c4, hcl5, hasg⟩)
  obtain ⟨t, a1, b1⟩ := kk (T.setVm vm') hT X'
  exact ⟨t, st.trans a1, b1⟩
end Rows
section Ends
variable {p : Program} {l : Launch} {e : Env} {R : Room} {s : State} {m : MethodId} {args : Array Value} {below : List Frame} {meth : Method} {c : Code} {H : Heap} {locs : List Loc} {cells slots : Nat} {Q : State → Prop}
variable {mc ms : Nat} {free : Addr → Prop} {A0 A1 : Nat → Prop} {H0 : Heap} {a : Array Value} {ls : Array Slot} {st0 rest : List Value}
variable {Qc : Array Value → State → Outcome → State → Prop} {XC : String → State → State → Prop}
/-- what a body that may throw owes at its end -/
def vx_MQ (below : List Frame) (Qc : Array Value → State → Outcome → State → Prop) (XC : String → State → State → Prop) (a : Array Value) (s : State) (mc ms : Nat) (free : Addr → Prop) : State → Prop := fun t =>
  ∃ o, t.status = .running ∧ Ended t below o ∧ vx_Q Qc XC mc ms free a s o t
theorem vx_ret {g : JFrame} {mc ms : Nat} (k : W p l e R s m args below meth c H locs cells slots (MQ below Qc args s mc ms free) g) : W p l e R s m args below meth c H locs cells slots (vx_MQ below Qc XC args s mc ms free) g := by
  intro T hT X
  obtain ⟨t, a1, o, b1, b2, b3, b4⟩ := k T hT X
  exact ⟨t, a1, o, b1, b2, Or.inl ⟨b3, b4⟩⟩
/-- not caught here: it goes on to the caller -/
theorem vx_widen {g : JFrame} {q : Addr} {k n : Nat} (h1 : cells ≤ k) (h2 : slots ≤ n) (kk : vx_W p l e R s m args below meth c H locs k n Q g q) : vx_W p l e R s m args below meth c H locs cells slots Q g q := fun T hT X => kk T hT (stand_widen X h1 h2)
theorem vx_out {pc : Nat} {E : String} {ce : Cell} {q : Addr} {mc ms : Nat} (hout : ∀ x ∈ c.exceptionTable.toList, covers x pc = false) (hlocks : meth.locks = false) (hcell : H[q]? = some ce) (hv : ce.vm = .none) (hcl : s.vm.findClass E = some ce.cls)
    (hx : ∀ t : State, t.heap = H → s.vm.Alike t.vm → XC E s t) (hf : ∀ z ∈ locs, free z.base) (hc : cells ≤ mc) (hs : slots ≤ ms) :
    vx_W p l e R s m args below meth c H locs cells slots (vx_MQ below Qc XC args s mc ms free) (F0 m pc ls rest) q := by
  intro T hT X
  obtain ⟨st1, hrun, hend, hW, hsm⟩ := X.leaveThrown q (g := F0 m pc ls rest) rfl rfl rfl hout hlocks
  have hcell9 : (T.setFrames (.throwing q :: below)).heap[q]? = some ce := by
    show T.heap[q]? = some ce
    rw [hT]; exact hcell
  exact ⟨_, st1, .threw q, hrun, hend, Or.inr ⟨q, rfl, E, ce, locs, hx _ hT hW.alike, hcell9, hv, hcl, hW, hsm.mono hc hs, hf⟩⟩
theorem vx_frame {U : State} {k n : Nat} (h : s.sameButNew ({ U with vm := s.vm } : State) locs k n) : s.heap.size ≤ U.heap.size ∧ ∀ q : Nat, q < s.heap.size → (∀ z ∈ locs, z.base ≠ q) → U.heap[q]? = s.heap[q]? := by
  obtain ⟨-, h2, -, -, -, h6⟩ := h
  refine ⟨h2, fun q hq hz => ?_⟩
  obtain ⟨c9, e1, e2, e3, e4⟩ := h6 q _ (Array.getElem?_eq_getElem hq)
  have hs : c9.slots = (s.heap[q]).slots := Array.ext_getElem? fun i => e4 i fun hm => hz _ hm rfl
  have h9 : c9 = s.heap[q] := by
    rw [hs] at e2
    exact e2
  have e5 : U.heap[q]? = some c9 := e1
  rw [e5, h9, Array.getElem?_eq_getElem hq]
/-- the words of a throw but the four that speak of the heap -/
def vx_no (w : Cond) : Bool := decide (w ≠ .isRef (.static Bundle.tN "UNASSIGNED_STACK" Bundle.steD)) && decide (w ≠ .isRef (.static Bundle.tN "SUPPRESSED_SENTINEL" Bundle.listD)) && decide (w ≠ .laysStatic Bundle.tN "UNASSIGNED_STACK" Bundle.steD) && decide (w ≠ .laysStatic Bundle.tN "SUPPRESSED_SENTINEL" Bundle.listD)
def vx_at0 (own : String) (ic : Nat) (X : String) (names : List String) : List Cond := (Bundle.ownAtoms0 own ic X names).filter vx_no
def vx_atS (own : String) (ic : Nat) (X : String) (names : List String) : List Cond := (Bundle.ownAtoms own ic X names).filter vx_no
/-- a word that the tables alone decide, or a good one -/
def vx_ot (w : Cond) : Bool := w.onTables || goodWord w
theorem vx_ot_at {args a' : Array Value} {s U : State} {w : Cond} (hW : s.WarmedH U.vm) (hvm : s.vm = U.vm) (hg : vx_ot w = true) (h : w.before args s = true) : w.before a' U = true := by
  simp only [vx_ot, Bool.or_eq_true] at hg
  rcases hg with hg | hg
  · exact va_tabs hg hvm h
  · exact word_at hW (good_of_word hg) h
/-- a list's words: the good ones out of the method's own list, the others by premises of their own -/
theorem vx_hat {args : Array Value} {s : State} {L B : List Cond} (h1 : ∀ w ∈ L.filter goodWord, w.before args s = true) (h2 : ∀ w ∈ L.filter (fun w => !goodWord w), w ∈ B) (h3 : ∀ w ∈ B, w.before args s = true) : ∀ w ∈ L, w.before args s = true := by
  intro w hw
  by_cases g : goodWord w = true
  · exact h1 w (List.mem_filter.mpr ⟨hw, g⟩)
  · refine h3 w (h2 w (List.mem_filter.mpr ⟨hw, ?_⟩))
    show (!goodWord w) = true
    cases hgw : goodWord w
    · rfl
    · exact absurd hgw g
theorem vx_c {args : Array Value} {s : State} {w : Cond} {B : List Cond} (h : w.before args s = true) (t : ∀ w ∈ B, w.before args s = true) : ∀ w' ∈ w :: B, w'.before args s = true := fun w' h' => (List.mem_cons.mp h').elim (fun e => by rw [e]; exact h) (t w')
theorem vx_n {args : Array Value} {s : State} : ∀ w ∈ ([] : List Cond), w.before args s = true := fun _ h => nomatch h
theorem vx_own {args : Array Value} {s : State} {L : List Cond} (h1 : ∀ w ∈ L.filter vx_no, w.before args s = true)
    (hU : (Cond.isRef (.static Bundle.tN "UNASSIGNED_STACK" Bundle.steD)).before args s = true) (hN : (Cond.isRef (.static Bundle.tN "SUPPRESSED_SENTINEL" Bundle.listD)).before args s = true)
    (lU : (Cond.laysStatic Bundle.tN "UNASSIGNED_STACK" Bundle.steD).before args s = true) (lN : (Cond.laysStatic Bundle.tN "SUPPRESSED_SENTINEL" Bundle.listD).before args s = true) : ∀ w ∈ L, w.before args s = true := by
  intro w hw
  by_cases e1 : w = .isRef (.static Bundle.tN "UNASSIGNED_STACK" Bundle.steD)
  · rw [e1]; exact hU
  · by_cases e2 : w = .isRef (.static Bundle.tN "SUPPRESSED_SENTINEL" Bundle.listD)
    · rw [e2]; exact hN
    · by_cases e3 : w = .laysStatic Bundle.tN "UNASSIGNED_STACK" Bundle.steD
      · rw [e3]; exact lU
      · by_cases e4 : w = .laysStatic Bundle.tN "SUPPRESSED_SENTINEL" Bundle.listD
        · rw [e4]; exact lN
        · exact h1 w (List.mem_filter.mpr ⟨hw, by unfold vx_no; rw [decide_eq_true e1, decide_eq_true e2, decide_eq_true e3, decide_eq_true e4]; rfl⟩)
/-- where a static field lies, its class's statics cell in H -/
def vx_L (C n d : String) (A : Nat → Prop) (U : State) (H : Heap) : Prop := ∃ (c : ClassId) (k : Class) (i : Nat) (f : Field) (a : Nat) (cell : Cell), U.vm.findClass C = some c ∧ U.fieldFound? C n d = some (c, k, i, f) ∧ f.isStatic = true ∧ k.statics = some a ∧ H[a]? = some cell ∧ cell.vm.isStatics = true ∧ cell.cls = c ∧ f.slot < cell.slots.size ∧ k.staticTypes[f.slot]? = some f.type ∧ ¬ A a
theorem vx_L.moved {C n d : String} {A : Nat → Prop} {u U : State} {H : Heap} (hvm : u.vm.Alike U.vm) (h : vx_L C n d A u H) : vx_L C n d A U H := by
  obtain ⟨c, k, i, f, a, cell, h1, h2, h3, h4, h5, h6, h7, h8, h9, h10⟩ := h
  obtain ⟨k', hi', he⟩ := State.fieldFound?_setVm hvm h2
  exact ⟨c, k', i, f, a, cell, by rw [hvm.findClass]; exact h1, hi', h3, by rw [he]; exact h4, h5, h6, h7, h8, by rw [he]; exact h9, h10⟩
theorem vx_L.kept {C n d : String} {A : Nat → Prop} {U : State} {H H1 : Heap} (h : vx_L C n d A U H) (hq : ∀ a : Nat, a < H.size → ¬ A a → H1[a]? = H[a]?) : vx_L C n d A U H1 := by
  obtain ⟨c, k, i, f, a, cell, h1, h2, h3, h4, h5, h6, h7, h8, h9, h10⟩ := h
  exact ⟨c, k, i, f, a, cell, h1, h2, h3, h4, by rw [hq a (Array.getElem?_eq_some_iff.mp h5).1 h10]; exact h5, h6, h7, h8, h9, h10⟩
theorem vx_L.narrow {C n d : String} {A B : Nat → Prop} {U : State} {H : Heap} (h : vx_L C n d A U H) (hAB : ∀ q, B q → A q) : vx_L C n d B U H := by
  obtain ⟨c, k, i, f, a, cell, h1, h2, h3, h4, h5, h6, h7, h8, h9, h10⟩ := h
  exact ⟨c, k, i, f, a, cell, h1, h2, h3, h4, h5, h6, h7, h8, h9, fun z => h10 (hAB _ z)⟩
theorem vx_L.word {C n d : String} {A : Nat → Prop} {s : State} {args : Array Value} (h : vx_L C n d A s s.heap) : (Cond.laysStatic C n d).before args s = true := by
  obtain ⟨c, k, i, f, a, cell, h1, h2, h3, h4, h5, h6, h7, h8, h9, -⟩ := h
  show (Cond.laysStatic C n d).holds args s none s [] = true
  exact Cond.laysStatic_of h1 h2 h3 h4 h5 h6 h7 h8 h9
/-- .. and what it holds: null or some reference -/
def vx_Zq (C n d : String) (A : Nat → Prop) (U : State) (H : Heap) : Prop := va_Zq C n d A U H ∧ vx_L C n d A U H
theorem vx_Zq.moved {C n d : String} {A : Nat → Prop} {u U : State} {H : Heap} (hvm : u.vm.Alike U.vm) (h : vx_Zq C n d A u H) : vx_Zq C n d A U H := ⟨va_Zq.moved hvm h.1, vx_L.moved hvm h.2⟩
theorem vx_Zq.kept {C n d : String} {A : Nat → Prop} {U : State} {H H1 : Heap} (h : vx_Zq C n d A U H) (hq : ∀ a : Nat, a < H.size → ¬ A a → H1[a]? = H[a]?) : vx_Zq C n d A U H1 := ⟨va_Zq.kept h.1 hq, vx_L.kept h.2 hq⟩
theorem vx_Zq.narrow {C n d : String} {A B : Nat → Prop} {U : State} {H : Heap} (h : vx_Zq C n d A U H) (hAB : ∀ q, B q → A q) : vx_Zq C n d B U H := ⟨va_Zq.narrow h.1 hAB, vx_L.narrow h.2 hAB⟩
theorem vx_Zqof {args : Array Value} {s : State} {C n d : String} {A : Nat → Prop} (hl : (Cond.laysStatic C n d).before args s = true) (hini : (Cond.initialized C).before args s = true) (h : (Cond.isRef (.static C n d)).before args s = true) (hA : ∀ a : Nat, a < s.heap.size → ¬ A a) : vx_Zq C n d A s s.heap := by
  refine ⟨va_Zqof hl hini h hA, ?_⟩
  obtain ⟨c, k, i, f, a, cell, h1, h2, h3, h4, h5, h6, h7, h8, h9⟩ := Cond.laysStatic_spec hl
  exact ⟨c, k, i, f, a, cell, h1, h2, h3, h4, h5, h6, h7, h8, h9, hA a (Array.getElem?_eq_some_iff.mp h5).1⟩
theorem vx_isRef {C n d : String} {v : Value} {A : Nat → Prop} {s : State} {args : Array Value} (h : va_Z C n d v A s s.heap) (hv : v.isRef = true) : (Cond.isRef (.static C n d)).before args s = true := by
  obtain ⟨cf, kf, fi, f, a, cell, h1, h2, h3, h4, h5, h6, h7, -⟩ := h
  have he : (Term.static C n d).eval args s none [] s = some v := by
    simp [Term.eval, State.fieldNamed?, h1, h2, h4, h5, h6, h7]
  simp only [Cond.before, Cond.holds, Cond.value, he]
  cases v <;> simp_all [Value.isRef]
theorem vx_isRefq {C n d : String} {A : Nat → Prop} {s : State} {args : Array Value} (h : va_Zq C n d A s s.heap) : (Cond.isRef (.static C n d)).before args s = true := by
  rcases h with h | ⟨t, h⟩
  · exact vx_isRef h rfl
  · exact vx_isRef h rfl
/-- the same frame, seen from here: as if the method were called anew in this heap -/
theorem vx_rebase {T : State} (X : Stand p l e R s m args below meth c T locs cells slots) {R' : Room} (hf : R'.frames ≤ R.frames) (hl : R'.locals ≤ R.locals) (hc : cells + R'.cells ≤ R.cells) (hs : slots + R'.slots ≤ R.slots) :
    Stand p l e R' ((T.setVm s.vm).setFrames (.invoking m args :: below)) m args below meth c T [] 0 0 := by
  have htop : (T.setVm s.vm).topJava?.isSome := X.here.top
  have hF : ((T.setVm s.vm).setFrames (.invoking m args :: below)).frames = .invoking m args :: below := State.frames_setFrames _ (State.cur_lt_of_top htop)
  obtain ⟨g₀, hg0⟩ := Option.isSome_iff_exists.mp htop
  obtain ⟨r, hr⟩ := State.topJava?_eq_some.mp hg0
  have hl9 : e.platform.stackLimits (T.setVm s.vm).me = e.platform.stackLimits s.me := X.limits
  have hb9 : (T.setVm s.vm).me.stackBytes = s.me.stackBytes := X.bytes
  refine ⟨X.admits, X.cas, X.clock, hF, ?_, X.hears, X.method, X.code, X.here, X.tail, X.warmed, ?_, ?_, ?_⟩
  · have h := X.room
    have hU : ((T.setVm s.vm).setFrames (.invoking m args :: below)).localsInUse = s.localsInUse := by
      rw [State.localsInUse_invoking hF (meth := meth) (c := c) X.method X.code, State.localsInUse_invoking X.frames X.method X.code]
    simp only [State.hasRoom, Bool.and_eq_true, decide_eq_true_eq] at h ⊢
    obtain ⟨⟨⟨⟨h1, h2, h3, h4, h5, h6⟩, h7⟩, h8⟩, h9⟩ := h
    rw [X.frames, List.length_cons] at h2 h3
    have q1 := X.heapSize
    have q2 := X.used
    simp only [hF, hU, List.length_cons, State.stackLimits_setFrames, State.stackBytes_setFrames, hl9, hb9]
    refine ⟨⟨⟨⟨by omega, by omega, by omega, by omega, by omega, h6⟩, ?_⟩, ?_⟩, X.book⟩
    · show T.heap.size + R'.cells ≤ e.platform.maxCells
      omega
    · show T.slotsUsed + R'.slots ≤ e.platform.maxSlots
      omega
  · rw [State.stackLimits_setFrames]; rfl
  · rw [State.stackBytes_setFrames]; rfl
  · refine ⟨?_, Nat.le_refl _, Nat.le_refl _, ?_, ?_, fun a c9 h9 => ⟨c9, h9, rfl, rfl, fun _ _ => rfl⟩⟩
    · obtain ⟨t, ht, -⟩ := State.frames_cons hr
      show T.setVm s.vm = { ((T.setVm s.vm).setFrames (.invoking m args :: below)).setFrames (T.setVm s.vm).frames with heap := T.heap, slotsUsed := T.slotsUsed }
      rw [State.setFrames_setFrames, State.setFrames_self ht]
      rfl
    · show T.slotsUsed = T.slotsUsed + ((T.heap.toList.drop T.heap.size).map (·.slots.size)).sum
      rw [List.drop_eq_nil_of_le (Nat.le_of_eq Array.length_toList)]
      rfl
    · show ((T.heap.toList.drop T.heap.size).map (·.slots.size)).sum ≤ 0
      rw [List.drop_eq_nil_of_le (Nat.le_of_eq Array.length_toList)]
      exact Nat.le_refl _
/-- 'throw new E()': new; dup; invokespecial; athrow -/
theorem vx_throw0 {cc : ByteArray} {pc : Nat} (hexec : p.tables.exec = Jvm.exec) (hb : c.code = cc) (hl : l.stackTraces = false) {own cls : String} {names : List String} {ik ic mc ms : Nat} {A : Nat → Prop}
    (hown : s.vm.findClass own = some m.cls) (hcls : Bundle.fit cls = true) (hnames : ∀ n ∈ names, Bundle.fit n = true)
    (hk : (Cond.classLink own ik cls).before args s = true) (hini : (Cond.initialized cls).before args s = true) (hat : ∀ w ∈ vx_at0 own ic cls names, w.before args s = true)
    (hgood : ∀ w ∈ Cond.classLink own ik cls :: Cond.initialized cls :: vx_at0 own ic cls names, vx_ot w = true)
    (hU : vx_Zq Bundle.tN "UNASSIGNED_STACK" Bundle.steD A s s.heap) (hN : vx_Zq Bundle.tN "SUPPRESSED_SENTINEL" Bundle.listD A s s.heap) (hS : va_S A s.heap H locs) (hsize : ls.size = c.maxLocals)
    (d0 : decode cc pc = .ok (.new ik, 3)) (d3 : decode cc (pc + 3) = .ok (.dup, 1)) (d4 : decode cc (pc + 4) = .ok (.invokespecial ic, 3)) (d7 : decode cc (pc + 7) = .ok (.athrow, 1))
    (hout : ∀ x ∈ c.exceptionTable.toList, covers x (pc + 7) = false)
    (hRframes : names.length + 3 < R.frames) (hRlocals : (rest.map fun v => v.category).sum + (13 * (names.length + 1) + 42) ≤ R.locals) (hRcells : cells + 1 ≤ R.cells) (hRslots : slots + 6 ≤ R.slots) (hlocks : meth.locks = false)
    (hx : ∀ t : State, s.vm.Alike t.vm → H.size ≤ t.heap.size → (∀ q : Nat, q < H.size → t.heap[q]? = H[q]?) → XC cls s t)
    (hf : ∀ z ∈ locs, free z.base) (hc : cells + 1 ≤ mc) (hs : slots + 6 ≤ ms) :
    W p l e R s m args below meth c H locs cells slots (vx_MQ below Qc XC args s mc ms free) (F0 m pc ls rest) := by
  intro T hT X
  have htr : e.platform.stackTraces = false := (show e.platform.stackTraces = l.stackTraces by rw [X.admits.platform]).trans hl
  have Y := vx_rebase X (R' := { frames := R.frames, locals := R.locals, cells := 1, slots := 6 }) (Nat.le_refl _) (Nat.le_refl _) hRcells hRslots
  obtain ⟨s', hA⟩ : ∃ z, z = (T.setVm s.vm).setFrames (.invoking m args :: below) := ⟨_, rfl⟩
  rw [← hA] at Y
  have hvm : s'.vm = s.vm := by rw [hA]; rfl
  have hhp : s'.heap = H := by rw [hA]; exact hT
  have hW0 : s.WarmedH s'.vm := by rw [hvm]; exact State.WarmedH.refl s
  have hat' : ∀ w ∈ vx_at0 own ic cls names, w.before args s' = true := fun w hw => vx_ot_at hW0 hvm.symm (hgood w (List.mem_cons_of_mem _ (List.mem_cons_of_mem _ hw))) (hat w hw)
  have hk' : (Cond.classLink own ik cls).before args s' = true := vx_ot_at hW0 hvm.symm (hgood _ List.mem_cons_self) hk
  have hini' : (Cond.initialized cls).before args s' = true := vx_ot_at hW0 hvm.symm (hgood _ (List.mem_cons_of_mem _ List.mem_cons_self)) hini
  have hU' : vx_Zq Bundle.tN "UNASSIGNED_STACK" Bundle.steD A s' s'.heap := by rw [hhp]; exact vx_Zq.moved hW0.alike (hU.kept hS.2.1)
  have hN' : vx_Zq Bundle.tN "SUPPRESSED_SENTINEL" Bundle.listD A s' s'.heap := by rw [hhp]; exact vx_Zq.moved hW0.alike (hN.kept hS.2.1)
  have h : ∀ w ∈ Bundle.ownAtoms0 own ic cls names, w.before args s' = true := vx_own hat' (vx_isRefq hU'.1) (vx_isRefq hN'.1) hU'.2.word hN'.2.word
  have hown' : s'.vm.findClass own = some m.cls := by rw [hvm]; exact hown
  have hins : (Cond.instantiable cls 6).before args s' = true := h _ (by simp [Bundle.ownAtoms0])
  obtain ⟨vm₁, cX, kX, hfX, hkX, -, -, X₁, st1⟩ := Y.newCold hexec (own := own) (C := cls) (index := ik) (n := 6) hown' hk' hins hini'
    (g := F0 m pc ls rest) rfl (by rw [hb]; exact d0) (Nat.le_refl _) (Nat.le_refl _)
  generalize hT1 : (T.setVm vm₁).pushCell { cls := cX, slots := kX.instanceTypes.map defaultValue, vm := .none } = T1 at X₁ st1
  have hcat : (Value.ref T.heap.size).category = 1 := rfl
  have hcellA : T1.heap[T.heap.size]? = some (freshCell cX kX) := by rw [← hT1]; exact State.heap_pushCell_size _ _
  have d3' : decode c.code (pc + 3) = .ok (.dup, 1) := by rw [hb]; exact d3
  obtain ⟨U, hsteps, hrun, hend, hW, hsame, ce, hce, hO⟩ := X₁.ctorThrow0 hexec htr (own := own) (cls := cls) (names := names) (ic := ic) hown' hcls hnames h (fun x hx => nomatch hx) hfX hkX hcellA (by rw [hhp, hT]; exact Nat.le_refl _)
    (g := { method := m, pc := pc + 4, locals := ls, stack := .ref T.heap.size :: .ref T.heap.size :: rest, locked := none }) rfl hsize rfl rfl (rest := rest) rfl
    (by rw [hb]; exact d4) (by rw [hb]; exact d7) hout hRframes (by simp only [List.map_cons, List.sum_cons, hcat]; omega) hlocks
  obtain ⟨f1, f2⟩ := vx_frame hsame
  rw [hhp] at f1 f2
  have hWs : s.WarmedH U.vm := State.WarmedH.trans hW0 hW
  have hcl : s.vm.findClass cls = some ce.cls := by
    have h9 := hO.cls
    rw [hvm] at h9
    exact h9
  have hall : s.sameButNew ({ U with vm := s.vm } : State) locs mc ms := by
    subst hA
    obtain ⟨e1, e2⟩ := hsame
    rw [State.setFrames_setFrames] at e1
    have h2 : (T.setVm s.vm).sameButNew ({ U with vm := s.vm } : State) [] (0 + 1) (0 + 6) := ⟨e1, e2⟩
    have h3 := X.same.trans h2
    rw [List.append_nil] at h3
    exact h3.mono hc hs
  refine ⟨U, ?_, .threw T.heap.size, hrun, hend, Or.inr ⟨T.heap.size, rfl, cls, ce, locs, hx U hWs.alike f1 (fun q hq => f2 q hq (fun z hz => nomatch hz)), hce, hO.vm, hcl, hWs, hall, hf⟩⟩
  refine st1 _ ?_
  show Steps p.tables e below (T1.setTop { method := m, pc := pc + 3, locals := ls, stack := .ref T.heap.size :: rest, locked := none }) _
  jvm_step X₁.here [X₁.here.top, hexec, d3', Value.category]
  exact hsteps
/-- 'throw new E("text")': new; dup; ldc; invokespecial; athrow -/
theorem vx_throwS {cc : ByteArray} {pc : Nat} (hexec : p.tables.exec = Jvm.exec) (hb : c.code = cc) (hl : l.stackTraces = false) {own cls text : String} {names : List String} {ik is ic mc ms sa : Nat} {A : Nat → Prop}
    (hown : s.vm.findClass own = some m.cls) (hcls : Bundle.fit cls = true) (hnames : ∀ n ∈ names, Bundle.fit n = true)
    (hk : (Cond.classLink own ik cls).before args s = true) (hini : (Cond.initialized cls).before args s = true) (hstr : vk_R own is text sa s) (hat : ∀ w ∈ vx_atS own ic cls names, w.before args s = true)
    (hgood : ∀ w ∈ Cond.classLink own ik cls :: Cond.initialized cls :: vx_atS own ic cls names, vx_ot w = true)
    (hU : vx_Zq Bundle.tN "UNASSIGNED_STACK" Bundle.steD A s s.heap) (hN : vx_Zq Bundle.tN "SUPPRESSED_SENTINEL" Bundle.listD A s s.heap) (hS : va_S A s.heap H locs) (hsize : ls.size = c.maxLocals)
    (d0 : decode cc pc = .ok (.new ik, 3)) (d3 : decode cc (pc + 3) = .ok (.dup, 1)) (d4 : decode cc (pc + 4) = .ok (.ldc is, 2)) (d6 : decode cc (pc + 6) = .ok (.invokespecial ic, 3)) (d9 : decode cc (pc + 9) = .ok (.athrow, 1))
    (hout : ∀ x ∈ c.exceptionTable.toList, covers x (pc + 9) = false)
    (hRframes : names.length + 3 < R.frames) (hRlocals : (rest.map fun v => v.category).sum + (13 * (names.length + 1) + 43) ≤ R.locals) (hRcells : cells + 1 ≤ R.cells) (hRslots : slots + 6 ≤ R.slots) (hlocks : meth.locks = false)
    (hx : ∀ t : State, s.vm.Alike t.vm → H.size ≤ t.heap.size → (∀ q : Nat, q < H.size → t.heap[q]? = H[q]?) → XC cls s t)
    (hf : ∀ z ∈ locs, free z.base) (hc : cells + 1 ≤ mc) (hs : slots + 6 ≤ ms) :
    W p l e R s m args below meth c H locs cells slots (vx_MQ below Qc XC args s mc ms free) (F0 m pc ls rest) := by
  intro T hT X
  have htr : e.platform.stackTraces = false := (show e.platform.stackTraces = l.stackTraces by rw [X.admits.platform]).trans hl
  have Y := vx_rebase X (R' := { frames := R.frames, locals := R.locals, cells := 1, slots := 6 }) (Nat.le_refl _) (Nat.le_refl _) hRcells hRslots
  obtain ⟨s', hA⟩ : ∃ z, z = (T.setVm s.vm).setFrames (.invoking m args :: below) := ⟨_, rfl⟩
  rw [← hA] at Y
  have hvm : s'.vm = s.vm := by rw [hA]; rfl
  have hhp : s'.heap = H := by rw [hA]; exact hT
  have hW0 : s.WarmedH s'.vm := by rw [hvm]; exact State.WarmedH.refl s
  have hat' : ∀ w ∈ vx_atS own ic cls names, w.before args s' = true := fun w hw => vx_ot_at hW0 hvm.symm (hgood w (List.mem_cons_of_mem _ (List.mem_cons_of_mem _ hw))) (hat w hw)
  have hk' : (Cond.classLink own ik cls).before args s' = true := vx_ot_at hW0 hvm.symm (hgood _ List.mem_cons_self) hk
  have hini' : (Cond.initialized cls).before args s' = true := vx_ot_at hW0 hvm.symm (hgood _ (List.mem_cons_of_mem _ List.mem_cons_self)) hini
  have hU' : vx_Zq Bundle.tN "UNASSIGNED_STACK" Bundle.steD A s' s'.heap := by rw [hhp]; exact vx_Zq.moved hW0.alike (hU.kept hS.2.1)
  have hN' : vx_Zq Bundle.tN "SUPPRESSED_SENTINEL" Bundle.listD A s' s'.heap := by rw [hhp]; exact vx_Zq.moved hW0.alike (hN.kept hS.2.1)
  have h : ∀ w ∈ Bundle.ownAtoms own ic cls names, w.before args s' = true := vx_own hat' (vx_isRefq hU'.1) (vx_isRefq hN'.1) hU'.2.word hN'.2.word
  have hown' : s'.vm.findClass own = some m.cls := by rw [hvm]; exact hown
  have hins : (Cond.instantiable cls 6).before args s' = true := h _ (by simp [Bundle.ownAtoms])
  obtain ⟨vm₁, cX, kX, hfX, hkX, -, -, X₁, st1⟩ := Y.newCold hexec (own := own) (C := cls) (index := ik) (n := 6) hown' hk' hins hini'
    (g := F0 m pc ls rest) rfl (by rw [hb]; exact d0) (Nat.le_refl _) (Nat.le_refl _)
  generalize hT1 : (T.setVm vm₁).pushCell { cls := cX, slots := kX.instanceTypes.map defaultValue, vm := .none } = T1 at X₁ st1
  have hcat : (Value.ref T.heap.size).category = 1 := rfl
  have hcellA : T1.heap[T.heap.size]? = some (freshCell cX kX) := by rw [← hT1]; exact State.heap_pushCell_size _ _
  have d3' : decode c.code (pc + 3) = .ok (.dup, 1) := by rw [hb]; exact d3
  have d4' : decode c.code (pc + 4) = .ok (.ldc is, 2) := by rw [hb]; exact d4
  have hstr' : vk_R own is text sa s' := vk_R.warm hW0 hstr
  obtain ⟨U, hsteps, hrun, hend, hW, hsame, ce, hce, hO⟩ := X₁.ctorThrowS hexec htr (own := own) (cls := cls) (names := names) (ic := ic) hown' hcls hnames h (fun x hx => nomatch hx) hfX hkX hcellA (by rw [hhp, hT]; exact Nat.le_refl _) (msg := .ref sa) rfl
    (g := { method := m, pc := pc + 6, locals := ls, stack := .ref sa :: .ref T.heap.size :: .ref T.heap.size :: rest, locked := none }) rfl hsize rfl rfl (rest := rest) rfl
    (by rw [hb]; exact d6) (by rw [hb]; exact d9) hout hRframes (by simp only [List.map_cons, List.sum_cons, hcat]; omega) hlocks
  obtain ⟨f1, f2⟩ := vx_frame hsame
  rw [hhp] at f1 f2
  have hWs : s.WarmedH U.vm := State.WarmedH.trans hW0 hW
  have hcl : s.vm.findClass cls = some ce.cls := by
    have h9 := hO.cls
    rw [hvm] at h9
    exact h9
  have hall : s.sameButNew ({ U with vm := s.vm } : State) locs mc ms := by
    subst hA
    obtain ⟨e1, e2⟩ := hsame
    rw [State.setFrames_setFrames] at e1
    have h2 : (T.setVm s.vm).sameButNew ({ U with vm := s.vm } : State) [] (0 + 1) (0 + 6) := ⟨e1, e2⟩
    have h3 := X.same.trans h2
    rw [List.append_nil] at h3
    exact h3.mono hc hs
  refine ⟨U, ?_, .threw T.heap.size, hrun, hend, Or.inr ⟨T.heap.size, rfl, cls, ce, locs, hx U hWs.alike f1 (fun q hq => f2 q hq (fun z hz => nomatch hz)), hce, hO.vm, hcl, hWs, hall, hf⟩⟩
  refine st1 _ ?_
  show Steps p.tables e below (T1.setTop { method := m, pc := pc + 3, locals := ls, stack := .ref T.heap.size :: rest, locked := none }) _
  jvm_step X₁.here [X₁.here.top, hexec, d3', Value.category]
  exact X₁.ldcString hexec (own := own) (text := text) (index := is) (a := sa) hown' hstr'.1 hstr'.2
    (g := { method := m, pc := pc + 4, locals := ls, stack := .ref T.heap.size :: .ref T.heap.size :: rest, locked := none }) rfl d4' _ hsteps
/-- 'throw new E("text")', the text by a wide index -/
theorem vx_throwSW {cc : ByteArray} {pc : Nat} (hexec : p.tables.exec = Jvm.exec) (hb : c.code = cc) (hl : l.stackTraces = false) {own cls text : String} {names : List String} {ik is ic mc ms sa : Nat} {A : Nat → Prop}
    (hown : s.vm.findClass own = some m.cls) (hcls : Bundle.fit cls = true) (hnames : ∀ n ∈ names, Bundle.fit n = true)
    (hk : (Cond.classLink own ik cls).before args s = true) (hini : (Cond.initialized cls).before args s = true) (hstr : vk_R own is text sa s) (hat : ∀ w ∈ vx_atS own ic cls names, w.before args s = true)
    (hgood : ∀ w ∈ Cond.classLink own ik cls :: Cond.initialized cls :: vx_atS own ic cls names, vx_ot w = true)
    (hU : vx_Zq Bundle.tN "UNASSIGNED_STACK" Bundle.steD A s s.heap) (hN : vx_Zq Bundle.tN "SUPPRESSED_SENTINEL" Bundle.listD A s s.heap) (hS : va_S A s.heap H locs) (hsize : ls.size = c.maxLocals)
    (d0 : decode cc pc = .ok (.new ik, 3)) (d3 : decode cc (pc + 3) = .ok (.dup, 1)) (d4 : decode cc (pc + 4) = .ok (.ldc_w is, 3)) (d7 : decode cc (pc + 7) = .ok (.invokespecial ic, 3)) (d10 : decode cc (pc + 10) = .ok (.athrow, 1))
    (hout : ∀ x ∈ c.exceptionTable.toList, covers x (pc + 10) = false)
    (hRframes : names.length + 3 < R.frames) (hRlocals : (rest.map fun v => v.category).sum + (13 * (names.length + 1) + 43) ≤ R.locals) (hRcells : cells + 1 ≤ R.cells) (hRslots : slots + 6 ≤ R.slots) (hlocks : meth.locks = false)
    (hx : ∀ t : State, s.vm.Alike t.vm → H.size ≤ t.heap.size → (∀ q : Nat, q < H.size → t.heap[q]? = H[q]?) → XC cls s t)
    (hf : ∀ z ∈ locs, free z.base) (hc : cells + 1 ≤ mc) (hs : slots + 6 ≤ ms) :
    W p l e R s m args below meth c H locs cells slots (vx_MQ below Qc XC args s mc ms free) (F0 m pc ls rest) := by
  intro T hT X
  have htr : e.platform.stackTraces = false := (show e.platform.stackTraces = l.stackTraces by rw [X.admits.platform]).trans hl
  have Y := vx_rebase X (R' := { frames := R.frames, locals := R.locals, cells := 1, slots := 6 }) (Nat.le_refl _) (Nat.le_refl _) hRcells hRslots
  obtain ⟨s', hA⟩ : ∃ z, z = (T.setVm s.vm).setFrames (.invoking m args :: below) := ⟨_, rfl⟩
  rw [← hA] at Y
  have hvm : s'.vm = s.vm := by rw [hA]; rfl
  have hhp : s'.heap = H := by rw [hA]; exact hT
  have hW0 : s.WarmedH s'.vm := by rw [hvm]; exact State.WarmedH.refl s
  have hat' : ∀ w ∈ vx_atS own ic cls names, w.before args s' = true := fun w hw => vx_ot_at hW0 hvm.symm (hgood w (List.mem_cons_of_mem _ (List.mem_cons_of_mem _ hw))) (hat w hw)
  have hk' : (Cond.classLink own ik cls).before args s' = true := vx_ot_at hW0 hvm.symm (hgood _ List.mem_cons_self) hk
  have hini' : (Cond.initialized cls).before args s' = true := vx_ot_at hW0 hvm.symm (hgood _ (List.mem_cons_of_mem _ List.mem_cons_self)) hini
  have hU' : vx_Zq Bundle.tN "UNASSIGNED_STACK" Bundle.steD A s' s'.heap := by rw [hhp]; exact vx_Zq.moved hW0.alike (hU.kept hS.2.1)
  have hN' : vx_Zq Bundle.tN "SUPPRESSED_SENTINEL" Bundle.listD A s' s'.heap := by rw [hhp]; exact vx_Zq.moved hW0.alike (hN.kept hS.2.1)
  have h : ∀ w ∈ Bundle.ownAtoms own ic cls names, w.before args s' = true := vx_own hat' (vx_isRefq hU'.1) (vx_isRefq hN'.1) hU'.2.word hN'.2.word
  have hown' : s'.vm.findClass own = some m.cls := by rw [hvm]; exact hown
  have hins : (Cond.instantiable cls 6).before args s' = true := h _ (by simp [Bundle.ownAtoms])
  obtain ⟨vm₁, cX, kX, hfX, hkX, -, -, X₁, st1⟩ := Y.newCold hexec (own := own) (C := cls) (index := ik) (n := 6) hown' hk' hins hini'
    (g := F0 m pc ls rest) rfl (by rw [hb]; exact d0) (Nat.le_refl _) (Nat.le_refl _)
  generalize hT1 : (T.setVm vm₁).pushCell { cls := cX, slots := kX.instanceTypes.map defaultValue, vm := .none } = T1 at X₁ st1
  have hcat : (Value.ref T.heap.size).category = 1 := rfl
  have hcellA : T1.heap[T.heap.size]? = some (freshCell cX kX) := by rw [← hT1]; exact State.heap_pushCell_size _ _
  have d3' : decode c.code (pc + 3) = .ok (.dup, 1) := by rw [hb]; exact d3
  have d4' : decode c.code (pc + 4) = .ok (.ldc_w is, 3) := by rw [hb]; exact d4
  have hstr' : vk_R own is text sa s' := vk_R.warm hW0 hstr
  obtain ⟨U, hsteps, hrun, hend, hW, hsame, ce, hce, hO⟩ := X₁.ctorThrowS hexec htr (own := own) (cls := cls) (names := names) (ic := ic) hown' hcls hnames h (fun x hx => nomatch hx) hfX hkX hcellA (by rw [hhp, hT]; exact Nat.le_refl _) (msg := .ref sa) rfl
    (g := { method := m, pc := pc + 7, locals := ls, stack := .ref sa :: .ref T.heap.size :: .ref T.heap.size :: rest, locked := none }) rfl hsize rfl rfl (rest := rest) rfl
    (by rw [hb]; exact d7) (by rw [hb]; exact d10) hout hRframes (by simp only [List.map_cons, List.sum_cons, hcat]; omega) hlocks
  obtain ⟨f1, f2⟩ := vx_frame hsame
  rw [hhp] at f1 f2
  have hWs : s.WarmedH U.vm := State.WarmedH.trans hW0 hW
  have hcl : s.vm.findClass cls = some ce.cls := by
    have h9 := hO.cls
    rw [hvm] at h9
    exact h9
  have hall : s.sameButNew ({ U with vm := s.vm } : State) locs mc ms := by
    subst hA
    obtain ⟨e1, e2⟩ := hsame
    rw [State.setFrames_setFrames] at e1
    have h2 : (T.setVm s.vm).sameButNew ({ U with vm := s.vm } : State) [] (0 + 1) (0 + 6) := ⟨e1, e2⟩
    have h3 := X.same.trans h2
    rw [List.append_nil] at h3
    exact h3.mono hc hs
  refine ⟨U, ?_, .threw T.heap.size, hrun, hend, Or.inr ⟨T.heap.size, rfl, cls, ce, locs, hx U hWs.alike f1 (fun q hq => f2 q hq (fun z hz => nomatch hz)), hce, hO.vm, hcl, hWs, hall, hf⟩⟩
  refine st1 _ ?_
  show Steps p.tables e below (T1.setTop { method := m, pc := pc + 3, locals := ls, stack := .ref T.heap.size :: rest, locked := none }) _
  jvm_step X₁.here [X₁.here.top, hexec, d3', Value.category]
  exact X₁.ldcStringW hexec (own := own) (text := text) (index := is) (a := sa) hown' hstr'.1 hstr'.2
    (g := { method := m, pc := pc + 4, locals := ls, stack := .ref T.heap.size :: .ref T.heap.size :: rest, locked := none }) rfl d4' _ hsteps
end Ends
section Bodies
variable {l : Launch}
theorem vx_ofW {y : MethodName} {ws ws' : List Cond} {rm : Room} {Pc : Array Value → State → Prop} {Qc : Array Value → State → Outcome → State → Prop} {XC : String → State → State → Prop} {mc ms : Nat} {free : Addr → Prop} {cc : ByteArray} {maxL : Nat} {ret : Option FieldType}
    (hy : plainName y.cls = true) (hw : ws = Cond.code y cc maxL ret :: ws')
    (body : ∀ p e s m args below meth c s₁, BodyLoose p l y (headSpec ws rm) cc maxL ret e s m args below meth c s₁ → c.maxLocals = maxL → (∀ x ∈ c.exceptionTable.toList, False) → Pc args s →
      W p l e (headSpec ws rm).room s m args below meth c s.heap [] 0 0 (vx_MQ below Qc XC args s mc ms free) (entryFrame m args maxL)) : vx_Met l y ws rm Pc Qc XC mc ms free := by
  refine MetFree.of_bodyS (code := cc) (maxLocals := maxL) (ret := ret) hy ?_ ?_
  · intro args s m h hn
    obtain ⟨meth, c, h1, h2, h3, h4, h5, h6, -, -⟩ := Cond.code_spec hn (atoms_spec (ws := ws) h _ (by rw [hw]; exact List.mem_cons_self))
    exact ⟨meth, c, h1, h2, h3, h4, h5, h6⟩
  · intro p e s m args below meth c s₁ B hml hP _
    have hh0 : s₁.heap = s.heap := by rw [B.state]; rfl
    have ht : ∀ x ∈ c.exceptionTable.toList, False := by
      obtain ⟨meth9, c9, h1, h2, -, -, -, -, h7, -⟩ := Cond.code_spec B.named (atoms_spec (ws := ws) B.pre _ (by rw [hw]; exact List.mem_cons_self))
      cases Option.some.inj (h1.symm.trans B.method)
      cases Option.some.inj (h2.symm.trans (Stand.of_body B).code)
      intro x hx
      rw [Array.isEmpty_iff.mp h7] at hx
      cases hx
    obtain ⟨t, a1, o, b1, b2, b3⟩ := body p e s m args below meth c s₁ B hml ht hP s₁ hh0 (Stand.of_body B)
    exact ⟨t, o, a1, b1, b2, b3⟩
/-- the table of a body with handlers -/
theorem vx_table {p : Program} {x y : MethodName} {S : Spec} {cc bytes : ByteArray} {maxL maxL' : Nat} {ret ret' : Option FieldType} {e : Env} {s s₁ : State} {m : MethodId} {args : Array Value} {below : List Frame} {meth : Method} {c : Code} {hh : List (Nat × Nat × Nat × Nat)}
    (B : BodyLoose p l y S cc maxL ret e s m args below meth c s₁) (h : (Cond.codeWith y bytes maxL' ret' hh).before args s = true) : c.exceptionTable.toList = tableOf hh := by
  obtain ⟨m9, meth9, c9, hn9, h1, h2, -, -, h6, -⟩ := Cond.codeWith_spec h
  cases Option.some.inj (hn9.symm.trans B.named)
  cases Option.some.inj (h1.symm.trans B.method)
  cases Option.some.inj (h2.symm.trans (Stand.of_body B).code)
  rw [← h6, table_eq]
end Bodies
end VXA
/-! ===== END ===== -/
/-! ===== BEGIN a static call of a method with an exception table ===== -/
section VXS
variable {p : Program} {l : Launch} {e : Env} {R : Room} {s : State} {m : MethodId} {args : Array Value} {below : List Frame} {meth : Method} {c : Code} {T : State} {H : Heap} {locs : List Loc} {cells slots : Nat}
abbrev vx_CSW (R : Room) (s : State) (args : Array Value) (own : String) (index : Nat) (y : MethodName) (bytes : ByteArray) (maxL : Nat) (ret : Option FieldType) (hh : List (Nat × Nat × Nat × Nat)) (ws : List Cond) (rm : Room) (mc ms n : Nat) : Prop :=
  (rm.cells = mc ∧ rm.slots = ms ∧ rm.frames + 1 ≤ R.frames ∧ 8 + (maxL + 11) + rm.locals ≤ R.locals ∧ (∀ w ∈ ws, ∀ (a' : Array Value) (U : State), s.WarmedH U.vm → w.before a' U = true) ∧ Cond.codeWith y bytes maxL ret hh ∈ ws) ∧
  (Cond.codeWith y bytes maxL ret hh).before args s = true ∧ (Cond.initialized y.cls).before args s = true ∧ (y.cls ≠ "java/lang/invoke/MethodHandle" ∧ y.cls ≠ "java/lang/invoke/VarHandle") ∧
  (∀ sig, parseMethodDescriptor y.desc = some sig → n = sig.parameters.length) ∧ (Cond.methodLink own index y).before args s = true ∧ (Cond.static y).before args s = true
theorem vx_cwSW {own : String} {index maxL mc ms : Nat} {y : MethodName} {bytes : ByteArray} {ret : Option FieldType} {hh : List (Nat × Nat × Nat × Nat)} {Ts ws ws' : List Cond} {rm : Room} (n : Nat) (ht : ∀ w ∈ Ts, w.before args s = true) (hT : GoodIn Ts (va_wsS own index y ws)) (hw : ws = Cond.codeWith y bytes maxL ret hh :: ws') (hrc : rm.cells = mc) (hrs : rm.slots = ms)
    (hd : y.cls ≠ "java/lang/invoke/MethodHandle" ∧ y.cls ≠ "java/lang/invoke/VarHandle" ∧ (parseMethodDescriptor y.desc).map (fun d => d.parameters.length) = some n) (hR : rm.frames + 1 ≤ R.frames ∧ 8 + (maxL + 11) + rm.locals ≤ R.locals) :
    vx_CSW R s args own index y bytes maxL ret hh ws rm mc ms n := by
  have ok : ∀ w ∈ va_wsS own index y ws, w.before args s = true := fun w h => ht w (hT w h).1
  have hG : GoodIn Ts ws := fun w h => hT w (by unfold va_wsS; exact List.mem_append_right _ h)
  have hc : Cond.codeWith y bytes maxL ret hh ∈ ws := by rw [hw]; exact List.mem_cons_self
  refine ⟨⟨hrc, hrs, hR.1, hR.2, pay_in ht hG, hc⟩, ht _ (hG _ hc).1, ok _ (by simp [va_wsS]), ⟨hd.1, hd.2.1⟩, fun sig h => ?_, ok _ (by simp [va_wsS]), ok _ (by simp [va_wsS])⟩
  have h2 := hd.2.2
  rw [h] at h2
  exact (Option.some.inj h2).symm
theorem vx_callSW (X : Stand p l e R s m args below meth c T locs cells slots) (hexec : p.tables.exec = Jvm.exec) {own : String} {index : Nat} {y : MethodName} {bytes : ByteArray} {maxL : Nat} {ret : Option FieldType} {hh : List (Nat × Nat × Nat × Nat)}
    (hown : s.vm.findClass own = some m.cls) (hlink : (Cond.methodLink own index y).before args s = true) (hstat : (Cond.static y).before args s = true) (hinit : (Cond.initialized y.cls).before args s = true)
    (hcode : (Cond.codeWith y bytes maxL ret hh).before args s = true) (hy : y.cls ≠ "java/lang/invoke/MethodHandle" ∧ y.cls ≠ "java/lang/invoke/VarHandle")
    {W9 : Nat} {Pre : Pt → Array Value → Prop} {Post : Pt → Array Value → Option Value → Pt → Prop} (hK : Back l R p e below s args y 3 W9 Pre Post)
    {g : JFrame} (hg : g.method = m) (hsize : g.locals.size = c.maxLocals) {argsL rest : List Value} (hlen : ∀ sig, parseMethodDescriptor y.desc = some sig → argsL.length = sig.parameters.length)
    (hstack : g.stack = argsL.reverse ++ rest) (hW : 2 * g.monitorRoom + (rest.map fun v => v.category).sum ≤ W9) (hdg : decode c.code g.pc = .ok (.invokestatic index, 3))
    (hpre : ∀ vm₁, s.WarmedH vm₁ → Pre ⟨T.setVm vm₁, locs, cells, slots⟩ argsL.toArray) :
    ∃ (v : Option Value) (vm₁ : Vm) (B : Pt), s.WarmedH vm₁ ∧ Stand p l e R s m args below meth c B.U B.locs B.cells B.slots ∧ Post ⟨T.setVm vm₁, locs, cells, slots⟩ argsL.toArray v B ∧
      ∀ target, Steps p.tables e below (B.U.setTop { g with pc := g.pc + 3, stack := v.toList ++ rest }) target → Steps p.tables e below (T.setTop g) target := by
  obtain ⟨mk, methM, cM, hnamed, hmethM, -, -, -, -, -, -, hsigM⟩ := Cond.codeWith_spec hcode
  have hstatic : methM.isStatic = true := Cond.static_spec hnamed hmethM hstat
  obtain ⟨kP, hkP, -⟩ := className_of_methodNamed hnamed
  have hinitP : kP.init = .initialized := Cond.initialized_spec (findClass_of_methodNamed hnamed) hkP hinit
  obtain ⟨vm₁, X₁, hstep₁⟩ := X.invokestatic hexec hown hlink hnamed hmethM hstatic hkP hinitP hy (g := g) hg (argsL := argsL) (rest := rest) (hlen _ hsigM) hstack hdg
  obtain ⟨v, B, X', hpost, hsteps⟩ := hK m meth c ⟨T.setVm vm₁, locs, cells, slots⟩ { g with stack := rest } (.invokestatic index) mk argsL.toArray X₁ hg hsize hdg hW (X₁.named hnamed) (hpre vm₁ X₁.warmed)
  exact ⟨v, vm₁, B, X₁.warmed, X', hpost, fun target h => hstep₁ _ fun acts => by rw [doInvoke_state]; exact hsteps.trans h⟩
theorem vx_runSW {y : MethodName} {bytes cc : ByteArray} {maxL nL mc ms n index : Nat} {ret : Option FieldType} {hh : List (Nat × Nat × Nat × Nat)} {ws : List Cond} {rm : Room} {Pc : Array Value → State → Prop} {Qc : Array Value → State → Outcome → State → Prop} {free : Addr → Prop} {Ts : List Cond} {own : String} {As rest : List Value} {g : JFrame}
    (S : CallFix p m c cc nL s args Ts own) (hM : Met l y ws rm Pc Qc mc ms free) (cw : vx_CSW R s args own index y bytes maxL ret hh ws rm mc ms n) (hp : PreS s H Pc As)
    (hg : g.method = m) (hn : As.length = n) (hsize : g.locals.size = nL) (hstack : g.stack = As.reverse ++ rest) (hW : 2 * g.monitorRoom + (rest.map fun v => v.category).sum ≤ 8) (hdg : decode cc g.pc = .ok (.invokestatic index, 3)) (hf : cells + mc ≤ R.cells ∧ slots + ms ≤ R.slots) :
    va_Run p l e R s m args below meth c H locs cells slots mc ms g rest (Qc As.toArray) (free) := by
  obtain ⟨⟨hrc, hrs, hfr, hlo, hws, hcw⟩, hcode, hini, hy, hlen, hl, hstt⟩ := cw
  have hK : Back l R p e below s args y 3 8 (PreOf R mc ms Pc) (PostOf Qc mc ms free) := va_backW (hh := hh) (bytes := bytes) (maxL := maxL) (ret := ret) hM hp.1 hrc hrs hfr hlo hws hcw (fun a' U hW => word_at hW (Or.inl (by first | rfl | simp [Cond.onTables, Cond.keeps, Cond.steady])) hini)
  obtain ⟨hx, hb, hml, ho, -⟩ := S
  intro T hT X
  obtain ⟨v, vm₁, ⟨U', l2, c2, s2⟩, hW₁, X', ⟨g', mk, t, L, e1, e2, hq, h1, hL, h2, h3⟩, st⟩ := vx_callSW X hx (hh := hh) (bytes := bytes) (maxL := maxL) (ret := ret) ho hl hstt hini hcode hy hK hg (hsize.trans hml.symm) (argsL := As) (rest := rest) (fun sig h => hn.trans (hlen sig h)) hstack hW (by rw [hb]; exact hdg)
    (fun vm₁ hW₁ => ⟨hf.1, hf.2, hp.2 (T.setVm vm₁) hT hW₁⟩)
  dsimp only [Pt.U, Pt.locs, Pt.cells, Pt.slots] at X' e1 e2 h1 h2 h3 st
  subst h1; subst h2; subst h3
  exact ⟨v, (T.setVm vm₁).calling g' mk As.toArray, t, U', L, hT, X', hL, e1, e2, hq, st⟩
/-- not caught here, past rows that name other classes: it goes on to the caller -/
theorem vx_outP {p : Program} {l : Launch} {e : Env} {R : Room} {s : State} {m : MethodId} {args : Array Value} {below : List Frame} {meth : Method} {c : Code} {H : Heap} {locs : List Loc} {cells slots : Nat} {free : Addr → Prop} {ls : Array Slot} {rest : List Value} {Qc : Array Value → State → Outcome → State → Prop} {XC : String → State → State → Prop}
    {pc : Nat} {own E : String} {ce : Cell} {q : Addr} {mc ms : Nat} (hown : s.vm.findClass own = some m.cls) (hlocks : meth.locks = false)
    (hpass : ∀ z ∈ c.exceptionTable.toList, covers z pc = false ∨ (z.catchType ≠ 0 ∧ ∃ nm : String, (Cond.classLink own z.catchType nm).before args s = true ∧ va_Nc E nm s)) (hcell : H[q]? = some ce) (hv : ce.vm = .none) (hcl : s.vm.findClass E = some ce.cls)
    (hx : ∀ t : State, t.heap = H → s.vm.Alike t.vm → XC E s t) (hf : ∀ z ∈ locs, free z.base) (hc : cells ≤ mc) (hs : slots ≤ ms) :
    vx_W p l e R s m args below meth c H locs cells slots (vx_MQ below Qc XC args s mc ms free) (F0 m pc ls rest) q := by
  intro T hT X
  have hpl : e.platform.magicAccessors = ({} : Platform).magicAccessors := by rw [X.admits.platform]
  obtain ⟨vm', hW', X', st⟩ := X.outThrough hlocks q (g := F0 m pc ls rest) rfl rfl rfl (cell := ce) (by rw [hT]; exact hcell) (by rw [hv]; rfl)
    (by obtain ⟨k9, h9, -⟩ := Vm.findClass_spec hcl; exact ⟨k9, h9⟩) (fun z hz => by
      rcases hpass z hz with h | ⟨hz0, nm, hl1, hn1⟩
      · exact Or.inl h
      · obtain ⟨c6, hc6, hcl6⟩ := Cond.classLink_spec hown hl1 e.platform hpl
        obtain ⟨a8, b8, h1, h2, h3⟩ := hn1
        cases Option.some.inj (h1.symm.trans hcl)
        cases Option.some.inj (h2.symm.trans hc6)
        exact Or.inr ⟨hz0, _, hcl6, h3⟩)
  obtain ⟨g₀, hfr⟩ := X'.frames_eq
  have hcell9 : ((T.setVm vm').setFrames (.throwing q :: below)).heap[q]? = some ce := by
    show T.heap[q]? = some ce
    rw [hT]; exact hcell
  have hend : Ended ((T.setVm vm').setFrames (.throwing q :: below)) below (.threw q) := State.frames_setFrames _ (State.cur_lt_of_frames hfr)
  refine ⟨(T.setVm vm').setFrames (.throwing q :: below), ?_, .threw q, X'.here.running, hend, Or.inr ⟨q, rfl, E, ce, locs, hx _ hT (X'.ends _).1.alike, hcell9, hv, hcl, (X'.ends _).1, (X'.ends _).2.mono hc hs, hf⟩⟩
  rw [X.pushThrowing_eq]
  exact st
/-- a thing of a world lies in the heap -/
theorem vx_lt {D : va_G} {cl : List vw_C} {ws : va_W} {H1 : Heap} (h : va_P D cl ws H1) {k : Nat} {q : Nat × va_E} (hk : ws[k]? = some q) : q.1 < H1.size := (h k q hk).lt
end VXS
/-! ===== END ===== -/
/-! ===== BEGIN methods with a table of their own: called by a name, returning or throwing ===== -/
section VXH
/-! vx_backW, vx_callVX, vx_callSX, vx_callVW, vx_runVW, vx_runVX, vx_runSX, vx_ofWH follow the same proofs as their sisters above (Free/Laws.lean, Shelf42/LK1.lean); vx_outP calls Shelf42/NT130.lean (outThrough). -/
section
variable {l : Launch} {R : Room} {p : Program} {e : Env} {below : List Frame} {s : State} {sargs : Array Value} {y : MethodName} {len W9 : Nat}
theorem vx_backW {ws : List Cond} {rm : Room} {Pc : Array Value → State → Prop} {Qc : Array Value → State → Outcome → State → Prop} {XC : String → State → State → Prop} {mc ms : Nat} {free : Addr → Prop} {bytes : ByteArray} {maxL : Nat} {ret : Option FieldType} {hh : List (Nat × Nat × Nat × Nat)}
    (hM : vx_Met l y ws rm Pc Qc XC mc ms free) (hblind : FrameBlind Pc) (hrc : rm.cells = mc) (hrs : rm.slots = ms)
    (hframes : rm.frames + 1 ≤ R.frames) (hlocals : W9 + (maxL + 11) + rm.locals ≤ R.locals)
    (hws : ∀ w ∈ ws, ∀ a' U, s.WarmedH U.vm → w.before a' U = true) (hcode : Cond.codeWith y bytes maxL ret hh ∈ ws) (hinit : ∀ a' U, s.WarmedH U.vm → (Cond.initialized y.cls).before a' U = true) :
    vx_Back l R p e below s sargs y len W9 (PreOf R mc ms Pc) (PostOf Qc mc ms free) (vx_Post XC mc ms free) := by
  intro m meth c A g ig mk a X hg hsize hdg hW hn hp
  have h1 : (headSpec ws rm).pre.before a A.U = true := atoms_intro fun w hw => hws w hw _ _ X.warmed
  have h2 : (Cond.codeWith y bytes maxL ret hh).before a A.U = true := hws _ hcode _ _ X.warmed
  have h3 : (Cond.initialized y.cls).before a A.U = true := hinit _ _ X.warmed
  have h4 : A.cells + (headSpec ws rm).room.cells ≤ R.cells := by rw [show (headSpec ws rm).room.cells = mc from hrc]; exact hp.1
  have h5 : A.slots + (headSpec ws rm).room.slots ≤ R.slots := by rw [show (headSpec ws rm).room.slots = ms from hrs]; exact hp.2.1
  have hPc : Pc a (A.U.calling g mk a) := hblind _ _ _ _ hp.2.2
  obtain ⟨U, Ls, c0, s0⟩ := A
  dsimp only [Pt.U, Pt.locs, Pt.cells, Pt.slots] at h1 h2 h3 h4 h5 X hn hPc ⊢
  obtain ⟨m9, methY, cY, hn9, hmY, hcY, -, hlY, -⟩ := Cond.codeWith_spec h2
  cases Option.some.inj (hn9.symm.trans hn)
  obtain ⟨kY, hkY, -⟩ := className_of_methodNamed hn
  have hinitY : kY.init = .initialized := Cond.initialized_spec (findClass_of_methodNamed hn) hkY h3
  have h : At U g.method c below := by rw [hg]; exact X.here
  have hlocals9 : W9 + (maxL + 11) + (headSpec ws rm).room.locals ≤ R.locals := hlocals
  have happ : (headSpec ws rm).appliesLoose y e.platform (U.calling g mk a) = true :=
    Spec.appliesLoose_calling (g := g) h hdg hn hkY hinitY
      (X.room_calling (g := g) (R' := (headSpec ws rm).room) hsize hmY hcY hframes (by rw [hlY]; omega) h4 h5) h1
  obtain ⟨mid, hmid⟩ := h.above
  have hfr : (U.setTop g).frames = (.java g :: mid) ++ below := by rw [State.frames_setTop' g h.top, hmid]; rfl
  obtain ⟨o, s₂, hsteps, -, hend, hq⟩ := Steps.callFree hM p X.admits X.cas X.clock (acts := []) hfr happ hPc trivial
  have hq' : vx_Q Qc XC mc ms free a (U.calling g mk a) o s₂ := hq
  rw [State.frames_setTop' g h.top] at hend
  obtain ⟨g₀, hg0⟩ := Option.isSome_iff_exists.mp h.top
  obtain ⟨r, hr⟩ := State.topJava?_eq_some.mp hg0
  have hr' : (({ U with heap := s₂.heap, slotsUsed := s₂.slotsUsed } : State).setVm s₂.vm).frames = .java g₀ :: r := hr
  rcases hq' with ⟨hqc, L, hfe, hL⟩ | ⟨q, rfl, E, ce, L, hx, hce, hcv, hcl, hW₂, hsm, hL⟩
  · obtain ⟨⟨v, rfl⟩, hW₂, e2, q2, q3, q4, q5, q6⟩ := id hfe
    have e3 : s₂ = ({ (U.calling g mk a).setFrames s₂.frames with heap := s₂.heap, slotsUsed := s₂.slotsUsed } : State).setVm s₂.vm := by
      have : s₂ = ({ s₂ with vm := (U.calling g mk a).vm } : State).setVm s₂.vm := rfl
      rw [e2] at this
      exact this
    obtain ⟨c₂, i₂, len₂, hc₂, hd₂, hf₂⟩ := hend
    have hW' : U.WarmedH s₂.vm := hW₂
    have hcc : c₂ = c := by
      have h1 : s₂.code? g.method = U.code? g.method := by
        rw [State.code?_eq, State.code?_eq, hW'.alike.method?]
      exact Option.some.inj (hc₂.symm.trans (h1.trans h.code))
    subst hcc
    have hlen : len₂ = len := by rw [hdg] at hd₂; cases hd₂; rfl
    subst hlen
    have hs₂ : s₂ = (({ U with heap := s₂.heap, slotsUsed := s₂.slotsUsed } : State).setVm s₂.vm).setTop { g with pc := g.pc + len₂, stack := v.toList ++ g.stack } := by
      refine e3.trans ?_
      rw [hf₂, State.calling_eq h.top, State.setFrames_setFrames, State.setTop_of_frames _ hr', hr]
      rfl
    have hsame : U.sameButNew ({ U with heap := s₂.heap, slotsUsed := s₂.slotsUsed } : State) L mc ms := by
      refine ⟨?_, q2, q3, q4, q5, q6⟩
      obtain ⟨t, ht, -⟩ := State.frames_cons hr
      show ({ U with heap := s₂.heap, slotsUsed := s₂.slotsUsed } : State) = { U.setFrames U.frames with heap := s₂.heap, slotsUsed := s₂.slotsUsed }
      rw [State.setFrames_self ht]
    subst hg
    refine Or.inl ⟨v, ⟨(({ U with heap := s₂.heap, slotsUsed := s₂.slotsUsed } : State).setVm s₂.vm), Ls ++ L, c0 + mc, s0 + ms⟩,
      ⟨X.admits, X.cas, X.clock, X.frames, X.room, X.hears, X.method, X.code, (X.here.setHeapUsed s₂.heap s₂.slotsUsed).setVm hW'.alike, X.tail, State.WarmedH.trans X.warmed hW', X.limits, X.bytes, X.same.trans (hsame.setVm s.vm)⟩,
      ⟨g, mk, s₂, L, rfl, rfl, hqc, rfl, hL, rfl, rfl⟩, ?_⟩
    show Steps p.tables e below _ ((({ U with heap := s₂.heap, slotsUsed := s₂.slotsUsed } : State).setVm s₂.vm).setTop { g with pc := g.pc + len₂, stack := v.toList ++ g.stack })
    rw [← hs₂]
    exact hsteps
  · obtain ⟨e2, q2, q3, q4, q5, q6⟩ := id hsm
    have e3 : s₂ = ({ (U.calling g mk a).setFrames s₂.frames with heap := s₂.heap, slotsUsed := s₂.slotsUsed } : State).setVm s₂.vm := by
      have : s₂ = ({ s₂ with vm := (U.calling g mk a).vm } : State).setVm s₂.vm := rfl
      rw [e2] at this
      exact this
    have hf₂ : s₂.frames = .throwing q :: .java g :: U.frames.tail := hend
    have hW' : U.WarmedH s₂.vm := hW₂
    have hs₂ : s₂ = ((({ U with heap := s₂.heap, slotsUsed := s₂.slotsUsed } : State).setVm s₂.vm).setTop g).pushFrame (.throwing q) := by
      refine e3.trans ?_
      rw [hf₂, State.calling_eq h.top, State.setFrames_setFrames, State.pushFrame, State.frames_setTop _ hr', State.setTop_of_frames _ hr', State.setFrames_setFrames, hr]
      rfl
    have hsame : U.sameButNew ({ U with heap := s₂.heap, slotsUsed := s₂.slotsUsed } : State) L mc ms := by
      refine ⟨?_, q2, q3, q4, q5, q6⟩
      obtain ⟨t, ht, -⟩ := State.frames_cons hr
      show ({ U with heap := s₂.heap, slotsUsed := s₂.slotsUsed } : State) = { U.setFrames U.frames with heap := s₂.heap, slotsUsed := s₂.slotsUsed }
      rw [State.setFrames_self ht]
    subst hg
    refine Or.inr ⟨q, ⟨(({ U with heap := s₂.heap, slotsUsed := s₂.slotsUsed } : State).setVm s₂.vm), Ls ++ L, c0 + mc, s0 + ms⟩,
      ⟨X.admits, X.cas, X.clock, X.frames, X.room, X.hears, X.method, X.code, (X.here.setHeapUsed s₂.heap s₂.slotsUsed).setVm hW'.alike, X.tail, State.WarmedH.trans X.warmed hW', X.limits, X.bytes, X.same.trans (hsame.setVm s.vm)⟩,
      ⟨g, mk, s₂, L, E, ce, rfl, rfl, hx, hce, hcv, hcl, rfl, hL, rfl, rfl⟩, ?_⟩
    show Steps p.tables e below _ (((({ U with heap := s₂.heap, slotsUsed := s₂.slotsUsed } : State).setVm s₂.vm).setTop g).pushFrame (.throwing q))
    rw [← hs₂]
    exact hsteps
end
variable {p : Program} {l : Launch} {e : Env} {R : Room} {s : State} {m : MethodId} {args : Array Value} {below : List Frame} {meth : Method} {c : Code} {T : State} {H : Heap} {locs : List Loc} {cells slots : Nat}
theorem vx_callVX (X : Stand p l e R s m args below meth c T locs cells slots) (hexec : p.tables.exec = Jvm.exec) {own C : String} {index : Nat} {y : MethodName} {bytes : ByteArray} {maxL : Nat} {ret : Option FieldType} {hh : List (Nat × Nat × Nat × Nat)}
    (hown : s.vm.findClass own = some m.cls) (hlink : (Cond.methodLink own index y).before args s = true) (hinst : (Cond.instanceMethod y).before args s = true) (hsel : (Cond.selects C y y).before args s = true)
    (hcode : (Cond.codeWith y bytes maxL ret hh).before args s = true) (hy : y.cls ≠ "java/lang/invoke/MethodHandle" ∧ y.cls ≠ "java/lang/invoke/VarHandle")
    {W9 : Nat} {Pre : Pt → Array Value → Prop} {Post : Pt → Array Value → Option Value → Pt → Prop} {PostX : Pt → Array Value → Addr → Pt → Prop} (hK : vx_Back l R p e below s args y 3 W9 Pre Post PostX)
    {b : Addr} {cellB : Cell} (hcell : T.heap[b]? = some cellB) (hobj : cellB.vm.isStatics = false) (hcls : s.vm.findClass C = some cellB.cls)
    {g : JFrame} (hg : g.method = m) (hsize : g.locals.size = c.maxLocals) {argsL rest : List Value} (hlen : ∀ sig, parseMethodDescriptor y.desc = some sig → argsL.length = sig.parameters.length)
    (hstack : g.stack = argsL.reverse ++ .ref b :: rest) (hW : 2 * g.monitorRoom + (rest.map fun v => v.category).sum ≤ W9) (hdg : decode c.code g.pc = .ok (.invokevirtual index, 3))
    (hpre : ∀ vm₁, s.WarmedH vm₁ → Pre ⟨T.setVm vm₁, locs, cells, slots⟩ (Value.ref b :: argsL).toArray) :
    (∃ (v : Option Value) (vm₁ : Vm) (B : Pt), s.WarmedH vm₁ ∧ Stand p l e R s m args below meth c B.U B.locs B.cells B.slots ∧ Post ⟨T.setVm vm₁, locs, cells, slots⟩ (Value.ref b :: argsL).toArray v B ∧
      ∀ target, Steps p.tables e below (B.U.setTop { g with pc := g.pc + 3, stack := v.toList ++ rest }) target → Steps p.tables e below (T.setTop g) target) ∨
    (∃ (q : Addr) (vm₁ : Vm) (B : Pt), s.WarmedH vm₁ ∧ Stand p l e R s m args below meth c B.U B.locs B.cells B.slots ∧ PostX ⟨T.setVm vm₁, locs, cells, slots⟩ (Value.ref b :: argsL).toArray q B ∧
      Steps p.tables e below (T.setTop g) ((B.U.setTop { g with stack := rest }).pushFrame (.throwing q))) := by
  obtain ⟨mk, methM, hnamed, hmethM, hstM, habM⟩ := Cond.instanceMethod_spec hinst
  obtain ⟨m8, methM', cM, hn8, hmethM', -, -, -, -, -, -, hsigM⟩ := Cond.codeWith_spec hcode
  cases Option.some.inj (hn8.symm.trans hnamed)
  cases hmethM.symm.trans hmethM'
  obtain ⟨c2, r2, m2, q1, q2, q3, q4, kP, hkP, hkPi⟩ := Cond.selects_spec hsel
  cases hcls.symm.trans q1
  cases (State.methodFound?_of_named hnamed hy).symm.trans q2
  cases hnamed.symm.trans q3
  have hselP : selectMethod e.platform s.vm cellB.cls mk = .method mk := by rw [Launch.admits_selectMethod X.admits]; exact q4
  obtain ⟨vm₁, X₁, hstep₁⟩ := X.invokevirtual hexec hown hlink hnamed hmethM hstM hkP hkPi hy (a := b) (cell := cellB) hcell
    (fun z h => by rw [h] at hobj; cases hobj) hselP hmethM habM hkP hkPi (g := g) hg (argsL := argsL) (rest := rest) (hlen _ hsigM) hstack hdg
  rcases hK m meth c ⟨T.setVm vm₁, locs, cells, slots⟩ { g with stack := rest } (.invokevirtual index) mk (Value.ref b :: argsL).toArray X₁ hg hsize hdg hW (X₁.named hnamed) (hpre vm₁ X₁.warmed) with ⟨v, B, X', hpost, hsteps⟩ | ⟨q, B, X', hpost, hsteps⟩
  · exact Or.inl ⟨v, vm₁, B, X₁.warmed, X', hpost, fun target h => hstep₁ _ fun acts => by rw [doInvoke_state]; exact hsteps.trans h⟩
  · exact Or.inr ⟨q, vm₁, B, X₁.warmed, X', hpost, hstep₁ _ fun acts => by rw [doInvoke_state]; exact hsteps⟩
theorem vx_callSX (X : Stand p l e R s m args below meth c T locs cells slots) (hexec : p.tables.exec = Jvm.exec) {own : String} {index : Nat} {y : MethodName} {bytes : ByteArray} {maxL : Nat} {ret : Option FieldType} {hh : List (Nat × Nat × Nat × Nat)}
    (hown : s.vm.findClass own = some m.cls) (hlink : (Cond.methodLink own index y).before args s = true) (hstat : (Cond.static y).before args s = true) (hinit : (Cond.initialized y.cls).before args s = true)
    (hcode : (Cond.codeWith y bytes maxL ret hh).before args s = true) (hy : y.cls ≠ "java/lang/invoke/MethodHandle" ∧ y.cls ≠ "java/lang/invoke/VarHandle")
    {W9 : Nat} {Pre : Pt → Array Value → Prop} {Post : Pt → Array Value → Option Value → Pt → Prop} {PostX : Pt → Array Value → Addr → Pt → Prop} (hK : vx_Back l R p e below s args y 3 W9 Pre Post PostX)
    {g : JFrame} (hg : g.method = m) (hsize : g.locals.size = c.maxLocals) {argsL rest : List Value} (hlen : ∀ sig, parseMethodDescriptor y.desc = some sig → argsL.length = sig.parameters.length)
    (hstack : g.stack = argsL.reverse ++ rest) (hW : 2 * g.monitorRoom + (rest.map fun v => v.category).sum ≤ W9) (hdg : decode c.code g.pc = .ok (.invokestatic index, 3))
    (hpre : ∀ vm₁, s.WarmedH vm₁ → Pre ⟨T.setVm vm₁, locs, cells, slots⟩ argsL.toArray) :
    (∃ (v : Option Value) (vm₁ : Vm) (B : Pt), s.WarmedH vm₁ ∧ Stand p l e R s m args below meth c B.U B.locs B.cells B.slots ∧ Post ⟨T.setVm vm₁, locs, cells, slots⟩ argsL.toArray v B ∧
      ∀ target, Steps p.tables e below (B.U.setTop { g with pc := g.pc + 3, stack := v.toList ++ rest }) target → Steps p.tables e below (T.setTop g) target) ∨
    (∃ (q : Addr) (vm₁ : Vm) (B : Pt), s.WarmedH vm₁ ∧ Stand p l e R s m args below meth c B.U B.locs B.cells B.slots ∧ PostX ⟨T.setVm vm₁, locs, cells, slots⟩ argsL.toArray q B ∧
      Steps p.tables e below (T.setTop g) ((B.U.setTop { g with stack := rest }).pushFrame (.throwing q))) := by
  obtain ⟨mk, methM, cM, hnamed, hmethM, -, -, -, -, -, -, hsigM⟩ := Cond.codeWith_spec hcode
  have hstatic : methM.isStatic = true := Cond.static_spec hnamed hmethM hstat
  obtain ⟨kP, hkP, -⟩ := className_of_methodNamed hnamed
  have hinitP : kP.init = .initialized := Cond.initialized_spec (findClass_of_methodNamed hnamed) hkP hinit
  obtain ⟨vm₁, X₁, hstep₁⟩ := X.invokestatic hexec hown hlink hnamed hmethM hstatic hkP hinitP hy (g := g) hg (argsL := argsL) (rest := rest) (hlen _ hsigM) hstack hdg
  rcases hK m meth c ⟨T.setVm vm₁, locs, cells, slots⟩ { g with stack := rest } (.invokestatic index) mk argsL.toArray X₁ hg hsize hdg hW (X₁.named hnamed) (hpre vm₁ X₁.warmed) with ⟨v, B, X', hpost, hsteps⟩ | ⟨q, B, X', hpost, hsteps⟩
  · exact Or.inl ⟨v, vm₁, B, X₁.warmed, X', hpost, fun target h => hstep₁ _ fun acts => by rw [doInvoke_state]; exact hsteps.trans h⟩
  · exact Or.inr ⟨q, vm₁, B, X₁.warmed, X', hpost, hstep₁ _ fun acts => by rw [doInvoke_state]; exact hsteps⟩
theorem vx_callVW (X : Stand p l e R s m args below meth c T locs cells slots) (hexec : p.tables.exec = Jvm.exec) {own C : String} {index : Nat} {y : MethodName} {bytes : ByteArray} {maxL : Nat} {ret : Option FieldType} {hh : List (Nat × Nat × Nat × Nat)}
    (hown : s.vm.findClass own = some m.cls) (hlink : (Cond.methodLink own index y).before args s = true) (hinst : (Cond.instanceMethod y).before args s = true) (hsel : (Cond.selects C y y).before args s = true)
    (hcode : (Cond.codeWith y bytes maxL ret hh).before args s = true) (hy : y.cls ≠ "java/lang/invoke/MethodHandle" ∧ y.cls ≠ "java/lang/invoke/VarHandle")
    {W9 : Nat} {Pre : Pt → Array Value → Prop} {Post : Pt → Array Value → Option Value → Pt → Prop} (hK : Back l R p e below s args y 3 W9 Pre Post)
    {b : Addr} {cellB : Cell} (hcell : T.heap[b]? = some cellB) (hobj : cellB.vm.isStatics = false) (hcls : s.vm.findClass C = some cellB.cls)
    {g : JFrame} (hg : g.method = m) (hsize : g.locals.size = c.maxLocals) {argsL rest : List Value} (hlen : ∀ sig, parseMethodDescriptor y.desc = some sig → argsL.length = sig.parameters.length)
    (hstack : g.stack = argsL.reverse ++ .ref b :: rest) (hW : 2 * g.monitorRoom + (rest.map fun v => v.category).sum ≤ W9) (hdg : decode c.code g.pc = .ok (.invokevirtual index, 3))
    (hpre : ∀ vm₁, s.WarmedH vm₁ → Pre ⟨T.setVm vm₁, locs, cells, slots⟩ (Value.ref b :: argsL).toArray) :
    ∃ (v : Option Value) (vm₁ : Vm) (B : Pt), s.WarmedH vm₁ ∧ Stand p l e R s m args below meth c B.U B.locs B.cells B.slots ∧ Post ⟨T.setVm vm₁, locs, cells, slots⟩ (Value.ref b :: argsL).toArray v B ∧
      ∀ target, Steps p.tables e below (B.U.setTop { g with pc := g.pc + 3, stack := v.toList ++ rest }) target → Steps p.tables e below (T.setTop g) target := by
  obtain ⟨mk, methM, hnamed, hmethM, hstM, habM⟩ := Cond.instanceMethod_spec hinst
  obtain ⟨m8, methM', cM, hn8, hmethM', -, -, -, -, -, -, hsigM⟩ := Cond.codeWith_spec hcode
  cases Option.some.inj (hn8.symm.trans hnamed)
  cases hmethM.symm.trans hmethM'
  obtain ⟨c2, r2, m2, q1, q2, q3, q4, kP, hkP, hkPi⟩ := Cond.selects_spec hsel
  cases hcls.symm.trans q1
  cases (State.methodFound?_of_named hnamed hy).symm.trans q2
  cases hnamed.symm.trans q3
  have hselP : selectMethod e.platform s.vm cellB.cls mk = .method mk := by rw [Launch.admits_selectMethod X.admits]; exact q4
  obtain ⟨vm₁, X₁, hstep₁⟩ := X.invokevirtual hexec hown hlink hnamed hmethM hstM hkP hkPi hy (a := b) (cell := cellB) hcell
    (fun z h => by rw [h] at hobj; cases hobj) hselP hmethM habM hkP hkPi (g := g) hg (argsL := argsL) (rest := rest) (hlen _ hsigM) hstack hdg
  obtain ⟨v, B, X', hpost, hsteps⟩ := hK m meth c ⟨T.setVm vm₁, locs, cells, slots⟩ { g with stack := rest } (.invokevirtual index) mk (Value.ref b :: argsL).toArray X₁ hg hsize hdg hW (X₁.named hnamed) (hpre vm₁ X₁.warmed)
  exact ⟨v, vm₁, B, X₁.warmed, X', hpost, fun target h => hstep₁ _ fun acts => by rw [doInvoke_state]; exact hsteps.trans h⟩
abbrev vx_CVW (R : Room) (s : State) (args : Array Value) (own C : String) (index : Nat) (y : MethodName) (bytes : ByteArray) (maxL : Nat) (ret : Option FieldType) (hh : List (Nat × Nat × Nat × Nat)) (ws : List Cond) (rm : Room) (mc ms n : Nat) : Prop :=
  (rm.cells = mc ∧ rm.slots = ms ∧ rm.frames + 1 ≤ R.frames ∧ 8 + (maxL + 11) + rm.locals ≤ R.locals ∧ (∀ w ∈ ws, ∀ (a' : Array Value) (U : State), s.WarmedH U.vm → w.before a' U = true) ∧ Cond.codeWith y bytes maxL ret hh ∈ ws) ∧
  (Cond.codeWith y bytes maxL ret hh).before args s = true ∧ (Cond.initialized y.cls).before args s = true ∧ (y.cls ≠ "java/lang/invoke/MethodHandle" ∧ y.cls ≠ "java/lang/invoke/VarHandle") ∧
  (∀ sig, parseMethodDescriptor y.desc = some sig → n = sig.parameters.length) ∧ (Cond.methodLink own index y).before args s = true ∧ (Cond.instanceMethod y).before args s = true ∧ (Cond.selects C y y).before args s = true
theorem vx_cwVW {own C : String} {index maxL mc ms : Nat} {y : MethodName} {bytes : ByteArray} {ret : Option FieldType} {hh : List (Nat × Nat × Nat × Nat)} {Ts ws ws' : List Cond} {rm : Room} (n : Nat) (ht : ∀ w ∈ Ts, w.before args s = true) (hT : GoodIn Ts (wsV own index C y ws)) (hw : ws = Cond.codeWith y bytes maxL ret hh :: ws') (hrc : rm.cells = mc) (hrs : rm.slots = ms)
    (hd : y.cls = C ∧ y.cls ≠ "java/lang/invoke/MethodHandle" ∧ y.cls ≠ "java/lang/invoke/VarHandle" ∧ (parseMethodDescriptor y.desc).map (fun d => d.parameters.length) = some n) (hR : rm.frames + 1 ≤ R.frames ∧ 8 + (maxL + 11) + rm.locals ≤ R.locals) :
    vx_CVW R s args own C index y bytes maxL ret hh ws rm mc ms n := by
  obtain ⟨hC, hd⟩ := hd
  subst hC
  have ok : ∀ w ∈ wsV own index y.cls y ws, w.before args s = true := fun w h => ht w (hT w h).1
  have hG : GoodIn Ts ws := fun w h => hT w (by unfold wsV; exact List.mem_append_right _ h)
  have hc : Cond.codeWith y bytes maxL ret hh ∈ ws := by rw [hw]; exact List.mem_cons_self
  refine ⟨⟨hrc, hrs, hR.1, hR.2, pay_in ht hG, hc⟩, ht _ (hG _ hc).1, ok _ (by simp [wsV]), ⟨hd.1, hd.2.1⟩, fun sig h => ?_, ok _ (by simp [wsV]), ok _ (by simp [wsV]), ok _ (by simp [wsV])⟩
  have h2 := hd.2.2
  rw [h] at h2
  exact (Option.some.inj h2).symm
theorem vx_runVW {y : MethodName} {bytes cc : ByteArray} {maxL nL mc ms n index : Nat} {ret : Option FieldType} {hh : List (Nat × Nat × Nat × Nat)} {ws : List Cond} {rm : Room} {Pc : Array Value → State → Prop} {Qc : Array Value → State → Outcome → State → Prop} {free : Addr → Prop} {Ts : List Cond} {own C : String} {b : Addr} {As rest : List Value} {g : JFrame}
    (S : CallFix p m c cc nL s args Ts own) (hM : Met l y ws rm Pc Qc mc ms free) (cw : vx_CVW R s args own C index y bytes maxL ret hh ws rm mc ms n) (hp : PreV s H C b Pc As)
    (hg : g.method = m) (hn : As.length = n) (hsize : g.locals.size = nL) (hstack : g.stack = As.reverse ++ .ref b :: rest) (hW : 2 * g.monitorRoom + (rest.map fun v => v.category).sum ≤ 8) (hdg : decode cc g.pc = .ok (.invokevirtual index, 3)) (hf : cells + mc ≤ R.cells ∧ slots + ms ≤ R.slots) :
    va_Run p l e R s m args below meth c H locs cells slots mc ms g rest (Qc (Value.ref b :: As).toArray) free := by
  obtain ⟨⟨hrc, hrs, hfr, hlo, hws, hcw⟩, hcode, hini, hy, hlen, hl, hin, hse⟩ := cw
  have hK : Back l R p e below s args y 3 8 (PreOf R mc ms Pc) (PostOf Qc mc ms free) := va_backW (hh := hh) (bytes := bytes) (maxL := maxL) (ret := ret) hM hp.1 hrc hrs hfr hlo hws hcw (fun a' U hW => word_at hW (Or.inl (by first | rfl | simp [Cond.onTables, Cond.keeps, Cond.steady])) hini)
  obtain ⟨hx, hb, hml, ho, -⟩ := S
  obtain ⟨-, ⟨cellB, hcB, hoB, hclB⟩, hPc⟩ := hp
  intro T hT X
  obtain ⟨v, vm₁, ⟨U', l2, c2, s2⟩, hW₁, X', ⟨g', mk, t, L, e1, e2, hq, h1, hL, h2, h3⟩, st⟩ := vx_callVW X hx (C := C) (hh := hh) (bytes := bytes) (maxL := maxL) (ret := ret) ho hl hin hse hcode hy hK (by rw [hT]; exact hcB) hoB hclB hg (hsize.trans hml.symm) (argsL := As) (rest := rest) (fun sig h => hn.trans (hlen sig h)) hstack hW (by rw [hb]; exact hdg)
    (fun vm₁ hW₁ => ⟨hf.1, hf.2, hPc (T.setVm vm₁) hT hW₁⟩)
  dsimp only [Pt.U, Pt.locs, Pt.cells, Pt.slots] at X' e1 e2 h1 h2 h3 st
  subst h1; subst h2; subst h3
  exact ⟨v, (T.setVm vm₁).calling g' mk (Value.ref b :: As).toArray, t, U', L, hT, X', hL, e1, e2, hq, st⟩
section
variable {y : MethodName} {bytes cc : ByteArray} {maxL nL mc ms n index : Nat} {ret : Option FieldType} {ws : List Cond} {rm : Room} {Pc : Array Value → State → Prop} {Qc : Array Value → State → Outcome → State → Prop} {XC : String → State → State → Prop} {free : Addr → Prop} {Ts : List Cond} {own C : String} {b : Addr} {As rest : List Value} {g : JFrame}
theorem vx_runVX {hh : List (Nat × Nat × Nat × Nat)} (S : CallFix p m c cc nL s args Ts own) (hM : vx_Met l y ws rm Pc Qc XC mc ms free) (cw : vx_CVW R s args own C index y bytes maxL ret hh ws rm mc ms n) (hp : PreV s H C b Pc As)
    (hg : g.method = m) (hn : As.length = n) (hsize : g.locals.size = nL) (hstack : g.stack = As.reverse ++ .ref b :: rest) (hW : 2 * g.monitorRoom + (rest.map fun v => v.category).sum ≤ 8) (hdg : decode cc g.pc = .ok (.invokevirtual index, 3)) (hf : cells + mc ≤ R.cells ∧ slots + ms ≤ R.slots) :
    vx_Run p l e R s m args below meth c H locs cells slots mc ms g rest (Qc (Value.ref b :: As).toArray) XC free := by
  obtain ⟨⟨hrc, hrs, hfr, hlo, hws, hcw⟩, hcode, hini, hy, hlen, hl, hin, hse⟩ := cw
  have hK : vx_Back l R p e below s args y 3 8 (PreOf R mc ms Pc) (PostOf Qc mc ms free) (vx_Post XC mc ms free) := vx_backW (hh := hh) (bytes := bytes) (maxL := maxL) (ret := ret) hM hp.1 hrc hrs hfr hlo hws hcw (fun a' U hW => word_at hW (Or.inl (by first | rfl | simp [Cond.onTables, Cond.keeps, Cond.steady])) hini)
  obtain ⟨hx, hb, hml, ho, -⟩ := S
  obtain ⟨-, ⟨cellB, hcB, hoB, hclB⟩, hPc⟩ := hp
  intro T hT X
  rcases vx_callVX X hx (C := C) (hh := hh) (bytes := bytes) (maxL := maxL) (ret := ret) ho hl hin hse hcode hy hK (by rw [hT]; exact hcB) hoB hclB hg (hsize.trans hml.symm) (argsL := As) (rest := rest) (fun sig h => hn.trans (hlen sig h)) hstack hW (by rw [hb]; exact hdg)
    (fun vm₁ hW₁ => ⟨hf.1, hf.2, hPc (T.setVm vm₁) hT hW₁⟩) with ⟨v, vm₁, ⟨U', l2, c2, s2⟩, hW₁, X', ⟨g', mk, t, L, e1, e2, hq, h1, hL, h2, h3⟩, st⟩ | ⟨q, vm₁, ⟨U', l2, c2, s2⟩, hW₁, X', ⟨g', mk, t, L, E, ce, e1, e2, hq, hce, hcv, hcl, h1, hL, h2, h3⟩, st⟩
  · dsimp only [Pt.U, Pt.locs, Pt.cells, Pt.slots] at X' e1 e2 h1 h2 h3 st
    subst h1; subst h2; subst h3
    exact Or.inl ⟨v, (T.setVm vm₁).calling g' mk (Value.ref b :: As).toArray, t, U', L, hT, X', hL, e1, e2, hq, st⟩
  · dsimp only [Pt.U, Pt.locs, Pt.cells, Pt.slots] at X' e1 e2 h1 h2 h3 st hcl
    subst h1; subst h2; subst h3
    exact Or.inr ⟨q, (T.setVm vm₁).calling g' mk (Value.ref b :: As).toArray, t, U', L, E, ce, hT, X', hL, e1, e2, hq, hce, hcv, vx_cls hW₁ hcl, st⟩
theorem vx_runSX {hh : List (Nat × Nat × Nat × Nat)} (S : CallFix p m c cc nL s args Ts own) (hM : vx_Met l y ws rm Pc Qc XC mc ms free) (cw : vx_CSW R s args own index y bytes maxL ret hh ws rm mc ms n) (hp : PreS s H Pc As)
    (hg : g.method = m) (hn : As.length = n) (hsize : g.locals.size = nL) (hstack : g.stack = As.reverse ++ rest) (hW : 2 * g.monitorRoom + (rest.map fun v => v.category).sum ≤ 8) (hdg : decode cc g.pc = .ok (.invokestatic index, 3)) (hf : cells + mc ≤ R.cells ∧ slots + ms ≤ R.slots) :
    vx_Run p l e R s m args below meth c H locs cells slots mc ms g rest (Qc As.toArray) XC free := by
  obtain ⟨⟨hrc, hrs, hfr, hlo, hws, hcw⟩, hcode, hini, hy, hlen, hl, hstt⟩ := cw
  have hK : vx_Back l R p e below s args y 3 8 (PreOf R mc ms Pc) (PostOf Qc mc ms free) (vx_Post XC mc ms free) := vx_backW (hh := hh) (bytes := bytes) (maxL := maxL) (ret := ret) hM hp.1 hrc hrs hfr hlo hws hcw (fun a' U hW => word_at hW (Or.inl (by first | rfl | simp [Cond.onTables, Cond.keeps, Cond.steady])) hini)
  obtain ⟨hx, hb, hml, ho, -⟩ := S
  intro T hT X
  rcases vx_callSX X hx (hh := hh) (bytes := bytes) (maxL := maxL) (ret := ret) ho hl hstt hini hcode hy hK hg (hsize.trans hml.symm) (argsL := As) (rest := rest) (fun sig h => hn.trans (hlen sig h)) hstack hW (by rw [hb]; exact hdg)
    (fun vm₁ hW₁ => ⟨hf.1, hf.2, hp.2 (T.setVm vm₁) hT hW₁⟩) with ⟨v, vm₁, ⟨U', l2, c2, s2⟩, hW₁, X', ⟨g', mk, t, L, e1, e2, hq, h1, hL, h2, h3⟩, st⟩ | ⟨q, vm₁, ⟨U', l2, c2, s2⟩, hW₁, X', ⟨g', mk, t, L, E, ce, e1, e2, hq, hce, hcv, hcl, h1, hL, h2, h3⟩, st⟩
  · dsimp only [Pt.U, Pt.locs, Pt.cells, Pt.slots] at X' e1 e2 h1 h2 h3 st
    subst h1; subst h2; subst h3
    exact Or.inl ⟨v, (T.setVm vm₁).calling g' mk As.toArray, t, U', L, hT, X', hL, e1, e2, hq, st⟩
  · dsimp only [Pt.U, Pt.locs, Pt.cells, Pt.slots] at X' e1 e2 h1 h2 h3 st hcl
    subst h1; subst h2; subst h3
    exact Or.inr ⟨q, (T.setVm vm₁).calling g' mk As.toArray, t, U', L, E, ce, hT, X', hL, e1, e2, hq, hce, hcv, vx_cls hW₁ hcl, st⟩
end
end VXH
theorem vx_ofWH {l : Launch} {y : MethodName} {ws ws' : List Cond} {rm : Room} {Pc : Array Value → State → Prop} {Qc : Array Value → State → Outcome → State → Prop} {XC : String → State → State → Prop} {mc ms : Nat} {free : Addr → Prop} {cc : ByteArray} {maxL : Nat} {ret : Option FieldType} {hh : List (Nat × Nat × Nat × Nat)}
    (hy : plainName y.cls = true) (hw : ws = Cond.codeWith y cc maxL ret hh :: ws')
    (body : ∀ p e s m args below meth c s₁, BodyLoose p l y (headSpec ws rm) cc maxL ret e s m args below meth c s₁ → c.maxLocals = maxL → Pc args s →
      W p l e (headSpec ws rm).room s m args below meth c s.heap [] 0 0 (vx_MQ below Qc XC args s mc ms free) (entryFrame m args maxL)) : vx_Met l y ws rm Pc Qc XC mc ms free := by
  refine MetFree.of_bodyS (code := cc) (maxLocals := maxL) (ret := ret) hy ?_ ?_
  · intro args s m h hn
    obtain ⟨m9, meth, c, hn9, h1, h2, h3, h4, -, h5, h6, -⟩ := Cond.codeWith_spec (atoms_spec (ws := ws) h _ (by rw [hw]; exact List.mem_cons_self))
    cases hn.symm.trans hn9
    exact ⟨meth, c, h1, h2, h3, h4, h5, h6⟩
  · intro p e s m args below meth c s₁ B hml hP _
    have hh0 : s₁.heap = s.heap := by rw [B.state]; rfl
    obtain ⟨t, a1, o, b1, b2, b3⟩ := body p e s m args below meth c s₁ B hml hP s₁ hh0 (Stand.of_body B)
    exact ⟨t, o, a1, b1, b2, b3⟩
/-! ===== END ===== -/
/-! ===== BEGIN a private method of a nest mate that may throw (follows va_callVN, va_callSN, va_runVN, va_runSN) ===== -/
section
variable {p : Program} {l : Launch} {e : Env} {R : Room} {s : State} {m : MethodId} {args : Array Value} {below : List Frame} {meth : Method} {c : Code} {H : Heap} {locs : List Loc} {cells slots : Nat}
variable {T : State}
theorem vx_callVN (X : Stand p l e R s m args below meth c T locs cells slots) (hexec : p.tables.exec = Jvm.exec) {own C : String} {index : Nat} {host : String} {y : MethodName} {bytes : ByteArray} {maxL : Nat} {ret : Option FieldType}
    (hown : s.vm.findClass own = some m.cls) (hlink : (Cond.methodLinkNest own index y host).before args s = true) (hinst : (Cond.instanceMethod y).before args s = true) (hsel : (Cond.selects C y y).before args s = true)
    (hcode : (Cond.code y bytes maxL ret).before args s = true) (hy : y.cls ≠ "java/lang/invoke/MethodHandle" ∧ y.cls ≠ "java/lang/invoke/VarHandle")
    {W : Nat} {Pre : Pt → Array Value → Prop} {Post : Pt → Array Value → Option Value → Pt → Prop} {PostX : Pt → Array Value → Addr → Pt → Prop} (hK : vx_Back l R p e below s args y 3 W Pre Post PostX)
    {b : Addr} {cellB : Cell} (hcell : T.heap[b]? = some cellB) (hobj : cellB.vm.isStatics = false) (hcls : s.vm.findClass C = some cellB.cls)
    {g : JFrame} (hg : g.method = m) (hsize : g.locals.size = c.maxLocals) {argsL rest : List Value} (hlen : ∀ sig, parseMethodDescriptor y.desc = some sig → argsL.length = sig.parameters.length)
    (hstack : g.stack = argsL.reverse ++ .ref b :: rest) (hW : 2 * g.monitorRoom + (rest.map fun v => v.category).sum ≤ W) (hdg : decode c.code g.pc = .ok (.invokevirtual index, 3))
    (hpre : ∀ vm₁, s.WarmedH vm₁ → Pre ⟨T.setVm vm₁, locs, cells, slots⟩ (Value.ref b :: argsL).toArray) :
    (∃ (v : Option Value) (vm₁ : Vm) (B : Pt), s.WarmedH vm₁ ∧ Stand p l e R s m args below meth c B.U B.locs B.cells B.slots ∧ Post ⟨T.setVm vm₁, locs, cells, slots⟩ (Value.ref b :: argsL).toArray v B ∧
      ∀ target, Steps p.tables e below (B.U.setTop { g with pc := g.pc + 3, stack := v.toList ++ rest }) target → Steps p.tables e below (T.setTop g) target) ∨
    (∃ (q : Addr) (vm₁ : Vm) (B : Pt), s.WarmedH vm₁ ∧ Stand p l e R s m args below meth c B.U B.locs B.cells B.slots ∧ PostX ⟨T.setVm vm₁, locs, cells, slots⟩ (Value.ref b :: argsL).toArray q B ∧
      Steps p.tables e below (T.setTop g) ((B.U.setTop { g with stack := rest }).pushFrame (.throwing q))) := by
  obtain ⟨mk, methM, hnamed, hmethM, hstM, habM⟩ := Cond.instanceMethod_spec hinst
  obtain ⟨methM', cM, hmethM', -, -, -, -, -, -, hsigM⟩ := Cond.code_spec hnamed hcode
  cases hmethM.symm.trans hmethM'
  obtain ⟨c2, r2, m2, q1, q2, q3, q4, kP, hkP, hkPi⟩ := Cond.selects_spec hsel
  cases hcls.symm.trans q1
  cases (State.methodFound?_of_named hnamed hy).symm.trans q2
  cases hnamed.symm.trans q3
  have hselP : selectMethod e.platform s.vm cellB.cls mk = .method mk := by rw [Launch.admits_selectMethod X.admits]; exact q4
  obtain ⟨vm₁, X₁, hstep₁⟩ := X.invokevirtualNest hexec hown hlink hnamed hmethM hstM hkP hkPi hy (a := b) (cell := cellB) hcell
    (fun z h => by rw [h] at hobj; cases hobj) hselP hmethM habM hkP hkPi (g := g) hg (argsL := argsL) (rest := rest) (hlen _ hsigM) hstack hdg
  rcases hK m meth c ⟨T.setVm vm₁, locs, cells, slots⟩ { g with stack := rest } (.invokevirtual index) mk (Value.ref b :: argsL).toArray X₁ hg hsize hdg hW (X₁.named hnamed) (hpre vm₁ X₁.warmed) with ⟨v, B, X', hpost, hsteps⟩ | ⟨q, B, X', hpost, hsteps⟩
  · exact Or.inl ⟨v, vm₁, B, X₁.warmed, X', hpost, fun target h => hstep₁ _ fun acts => by rw [doInvoke_state]; exact hsteps.trans h⟩
  · exact Or.inr ⟨q, vm₁, B, X₁.warmed, X', hpost, hstep₁ _ fun acts => by rw [doInvoke_state]; exact hsteps⟩
theorem vx_callSN (X : Stand p l e R s m args below meth c T locs cells slots) (hexec : p.tables.exec = Jvm.exec) {own : String} {index : Nat} {host : String} {y : MethodName} {bytes : ByteArray} {maxL : Nat} {ret : Option FieldType}
    (hown : s.vm.findClass own = some m.cls) (hlink : (Cond.methodLinkNest own index y host).before args s = true) (hstat : (Cond.static y).before args s = true) (hinit : (Cond.initialized y.cls).before args s = true)
    (hcode : (Cond.code y bytes maxL ret).before args s = true) (hy : y.cls ≠ "java/lang/invoke/MethodHandle" ∧ y.cls ≠ "java/lang/invoke/VarHandle")
    {W : Nat} {Pre : Pt → Array Value → Prop} {Post : Pt → Array Value → Option Value → Pt → Prop} {PostX : Pt → Array Value → Addr → Pt → Prop} (hK : vx_Back l R p e below s args y 3 W Pre Post PostX)
    {g : JFrame} (hg : g.method = m) (hsize : g.locals.size = c.maxLocals) {argsL rest : List Value} (hlen : ∀ sig, parseMethodDescriptor y.desc = some sig → argsL.length = sig.parameters.length)
    (hstack : g.stack = argsL.reverse ++ rest) (hW : 2 * g.monitorRoom + (rest.map fun v => v.category).sum ≤ W) (hdg : decode c.code g.pc = .ok (.invokestatic index, 3))
    (hpre : ∀ vm₁, s.WarmedH vm₁ → Pre ⟨T.setVm vm₁, locs, cells, slots⟩ argsL.toArray) :
    (∃ (v : Option Value) (vm₁ : Vm) (B : Pt), s.WarmedH vm₁ ∧ Stand p l e R s m args below meth c B.U B.locs B.cells B.slots ∧ Post ⟨T.setVm vm₁, locs, cells, slots⟩ argsL.toArray v B ∧
      ∀ target, Steps p.tables e below (B.U.setTop { g with pc := g.pc + 3, stack := v.toList ++ rest }) target → Steps p.tables e below (T.setTop g) target) ∨
    (∃ (q : Addr) (vm₁ : Vm) (B : Pt), s.WarmedH vm₁ ∧ Stand p l e R s m args below meth c B.U B.locs B.cells B.slots ∧ PostX ⟨T.setVm vm₁, locs, cells, slots⟩ argsL.toArray q B ∧
      Steps p.tables e below (T.setTop g) ((B.U.setTop { g with stack := rest }).pushFrame (.throwing q))) := by
  obtain ⟨mk, hnamed⟩ := Cond.code_named hcode
  obtain ⟨methM, cM, hmethM, -, -, -, -, -, -, hsigM⟩ := Cond.code_spec hnamed hcode
  have hstatic : methM.isStatic = true := Cond.static_spec hnamed hmethM hstat
  obtain ⟨kP, hkP, -⟩ := className_of_methodNamed hnamed
  have hinitP : kP.init = .initialized := Cond.initialized_spec (findClass_of_methodNamed hnamed) hkP hinit
  obtain ⟨vm₁, X₁, hstep₁⟩ := X.invokestaticNest hexec hown hlink hnamed hmethM hstatic hkP hinitP hy (g := g) hg (argsL := argsL) (rest := rest) (hlen _ hsigM) hstack hdg
  rcases hK m meth c ⟨T.setVm vm₁, locs, cells, slots⟩ { g with stack := rest } (.invokestatic index) mk argsL.toArray X₁ hg hsize hdg hW (X₁.named hnamed) (hpre vm₁ X₁.warmed) with ⟨v, B, X', hpost, hsteps⟩ | ⟨q, B, X', hpost, hsteps⟩
  · exact Or.inl ⟨v, vm₁, B, X₁.warmed, X', hpost, fun target h => hstep₁ _ fun acts => by rw [doInvoke_state]; exact hsteps.trans h⟩
  · exact Or.inr ⟨q, vm₁, B, X₁.warmed, X', hpost, hstep₁ _ fun acts => by rw [doInvoke_state]; exact hsteps⟩
theorem vx_runVN {y : MethodName} {bytes cc : ByteArray} {maxL nL mc ms n index : Nat} {ret : Option FieldType} {ws : List Cond} {rm : Room} {Pc : Array Value → State → Prop} {Qc : Array Value → State → Outcome → State → Prop} {XC : String → State → State → Prop} {free : Addr → Prop} {Ts : List Cond} {own C host : String} {b : Addr} {As rest : List Value} {g : JFrame}
    (S : CallFix p m c cc nL s args Ts own) (hM : vx_Met l y ws rm Pc Qc XC mc ms free) (cw : va_CN R s args own index y host bytes maxL ret ws rm mc ms n ∧ (Cond.instanceMethod y).before args s = true ∧ (Cond.selects C y y).before args s = true) (hp : PreV s H C b Pc As)
    (hg : g.method = m) (hn : As.length = n) (hsize : g.locals.size = nL) (hstack : g.stack = As.reverse ++ .ref b :: rest) (hW : 2 * g.monitorRoom + (rest.map fun v => v.category).sum ≤ 8) (hdg : decode cc g.pc = .ok (.invokevirtual index, 3)) (hf : cells + mc ≤ R.cells ∧ slots + ms ≤ R.slots) :
    vx_Run p l e R s m args below meth c H locs cells slots mc ms g rest (Qc (Value.ref b :: As).toArray) XC free := by
  obtain ⟨⟨⟨hrc, hrs, hfr, hlo, hws, hcw⟩, hcode, hini, hy, hlen, hl⟩, hx1, hx2⟩ := cw
  have hK : vx_Back l R p e below s args y 3 8 (PreOf R mc ms Pc) (PostOf Qc mc ms free) (vx_Post XC mc ms free) := vx_back (bytes := bytes) (maxL := maxL) (ret := ret) hM hp.1 hrc hrs hfr hlo hws hcw (fun a' U hW => word_at hW (Or.inl (by first | rfl | simp [Cond.onTables, Cond.keeps, Cond.steady])) hini)
  obtain ⟨hx, hb, hml, ho, -⟩ := S
  obtain ⟨-, ⟨cellB, hcB, hoB, hclB⟩, hPc⟩ := hp
  intro T hT X
  rcases vx_callVN X hx (C := C) (bytes := bytes) (maxL := maxL) (ret := ret) ho hl hx1 hx2 hcode hy hK (by rw [hT]; exact hcB) hoB hclB hg (hsize.trans hml.symm) (argsL := As) (rest := rest) (fun sig h => hn.trans (hlen sig h)) hstack hW (by rw [hb]; exact hdg)
    (fun vm₁ hW₁ => ⟨hf.1, hf.2, hPc (T.setVm vm₁) hT hW₁⟩) with ⟨v, vm₁, ⟨U', l2, c2, s2⟩, hW₁, X', ⟨g', mk, t, L, e1, e2, hq, h1, hL, h2, h3⟩, st⟩ | ⟨q, vm₁, ⟨U', l2, c2, s2⟩, hW₁, X', ⟨g', mk, t, L, E, ce, e1, e2, hq, hce, hcv, hcl, h1, hL, h2, h3⟩, st⟩
  · dsimp only [Pt.U, Pt.locs, Pt.cells, Pt.slots] at X' e1 e2 h1 h2 h3 st
    subst h1; subst h2; subst h3
    exact Or.inl ⟨v, (T.setVm vm₁).calling g' mk (Value.ref b :: As).toArray, t, U', L, hT, X', hL, e1, e2, hq, st⟩
  · dsimp only [Pt.U, Pt.locs, Pt.cells, Pt.slots] at X' e1 e2 h1 h2 h3 st hcl
    subst h1; subst h2; subst h3
    exact Or.inr ⟨q, (T.setVm vm₁).calling g' mk (Value.ref b :: As).toArray, t, U', L, E, ce, hT, X', hL, e1, e2, hq, hce, hcv, vx_cls hW₁ hcl, st⟩
theorem vx_runSN {y : MethodName} {bytes cc : ByteArray} {maxL nL mc ms n index : Nat} {ret : Option FieldType} {ws : List Cond} {rm : Room} {Pc : Array Value → State → Prop} {Qc : Array Value → State → Outcome → State → Prop} {XC : String → State → State → Prop} {free : Addr → Prop} {Ts : List Cond} {own host : String} {As rest : List Value} {g : JFrame}
    (S : CallFix p m c cc nL s args Ts own) (hM : vx_Met l y ws rm Pc Qc XC mc ms free) (cw : va_CN R s args own index y host bytes maxL ret ws rm mc ms n ∧ (Cond.static y).before args s = true ∧ True) (hp : PreS s H Pc As)
    (hg : g.method = m) (hn : As.length = n) (hsize : g.locals.size = nL) (hstack : g.stack = As.reverse ++ rest) (hW : 2 * g.monitorRoom + (rest.map fun v => v.category).sum ≤ 8) (hdg : decode cc g.pc = .ok (.invokestatic index, 3)) (hf : cells + mc ≤ R.cells ∧ slots + ms ≤ R.slots) :
    vx_Run p l e R s m args below meth c H locs cells slots mc ms g rest (Qc As.toArray) XC free := by
  obtain ⟨⟨⟨hrc, hrs, hfr, hlo, hws, hcw⟩, hcode, hini, hy, hlen, hl⟩, hx1, hx2⟩ := cw
  have hK : vx_Back l R p e below s args y 3 8 (PreOf R mc ms Pc) (PostOf Qc mc ms free) (vx_Post XC mc ms free) := vx_back (bytes := bytes) (maxL := maxL) (ret := ret) hM hp.1 hrc hrs hfr hlo hws hcw (fun a' U hW => word_at hW (Or.inl (by first | rfl | simp [Cond.onTables, Cond.keeps, Cond.steady])) hini)
  obtain ⟨hx, hb, hml, ho, -⟩ := S
  have hPc := hp.2
  intro T hT X
  rcases vx_callSN X hx (bytes := bytes) (maxL := maxL) (ret := ret) ho hl hx1 hini hcode hy hK hg (hsize.trans hml.symm) (argsL := As) (rest := rest) (fun sig h => hn.trans (hlen sig h)) hstack hW (by rw [hb]; exact hdg)
    (fun vm₁ hW₁ => ⟨hf.1, hf.2, hPc (T.setVm vm₁) hT hW₁⟩) with ⟨v, vm₁, ⟨U', l2, c2, s2⟩, hW₁, X', ⟨g', mk, t, L, e1, e2, hq, h1, hL, h2, h3⟩, st⟩ | ⟨q, vm₁, ⟨U', l2, c2, s2⟩, hW₁, X', ⟨g', mk, t, L, E, ce, e1, e2, hq, hce, hcv, hcl, h1, hL, h2, h3⟩, st⟩
  · dsimp only [Pt.U, Pt.locs, Pt.cells, Pt.slots] at X' e1 e2 h1 h2 h3 st
    subst h1; subst h2; subst h3
    exact Or.inl ⟨v, (T.setVm vm₁).calling g' mk As.toArray, t, U', L, hT, X', hL, e1, e2, hq, st⟩
  · dsimp only [Pt.U, Pt.locs, Pt.cells, Pt.slots] at X' e1 e2 h1 h2 h3 st hcl
    subst h1; subst h2; subst h3
    exact Or.inr ⟨q, (T.setVm vm₁).calling g' mk As.toArray, t, U', L, E, ce, hT, X', hL, e1, e2, hq, hce, hcv, vx_cls hW₁ hcl, st⟩
end
/-! ===== END ===== -/

/-! ===== BEGIN printed: names, fields, word lists, decode rows ===== -/
def RX0 : String := "IslandReserve$Fleet"
def TX0 : u_T := fun k => match k with
  | 0 => ("IslandReserve$Fleet", "greatest", "[I", true)
  | 1 => ("IslandReserve$Fleet", "least", "[I", true)
  | 2 => ("IslandReserve$Fleet", "merit", "[I", true)
  | 3 => ("IslandReserve$Fleet", "warmUp", "[I", true)
  | 4 => ("IslandReserve$Fleet", "phase", "[I", true)
  | 5 => ("IslandReserve$Fleet", "left", "[I", true)
  | 6 => ("IslandReserve$Fleet", "fuel", "[I", true)
  | _ => ("IslandReserve$Fleet", "ranHours", "[I", true)
def tyX0 : Nat → FieldType := fun k => match k with
  | 0 => .array .int
  | 1 => .array .int
  | 2 => .array .int
  | 3 => .array .int
  | 4 => .array .int
  | 5 => .array .int
  | 6 => .array .int
  | _ => .array .int
abbrev wsX00 : List Cond := u_ws RX0 TX0 8
theorem nmX0 : ∀ a, a < 8 → ∀ b, b < 8 → a ≠ b → (TX0 a).2.1 ≠ (TX0 b).2.1 := by decide +kernel
theorem tyX0_ok : ∀ k, k < 8 → parseFieldDescriptor (TX0 k).2.2.1 = some (tyX0 k) := by decide +kernel
abbrev cX0_init : ByteArray := prog_2_method_1_code
def yX0_init : MethodName := ⟨RX0, "<init>", "()V"⟩
abbrev cX0_copyFrom : ByteArray := prog_2_method_2_code
def yX0_copyFrom : MethodName := ⟨RX0, "copyFrom", "(LIslandReserve$Fleet;)V"⟩
abbrev cX0_begin : ByteArray := prog_2_method_3_code
def yX0_begin : MethodName := ⟨RX0, "begin", "(I)V"⟩
abbrev cX0_become : ByteArray := prog_2_method_4_code
def yX0_become : MethodName := ⟨RX0, "become", "(II)V"⟩
abbrev cX0_isInUse : ByteArray := prog_2_method_5_code
def yX0_isInUse : MethodName := ⟨RX0, "isInUse", "(I)Z"⟩
abbrev cX0_maskOf : ByteArray := prog_2_method_6_code
def yX0_maskOf : MethodName := ⟨RX0, "maskOf", "(I)I"⟩
abbrev cX0_sizeOf : ByteArray := prog_2_method_7_code
def yX0_sizeOf : MethodName := ⟨RX0, "sizeOf", "(I)I"⟩
abbrev cX0_warmUpAnHour : ByteArray := prog_2_method_8_code
def yX0_warmUpAnHour : MethodName := ⟨RX0, "warmUpAnHour", "()V"⟩
abbrev cX0_burnFuel : ByteArray := prog_2_method_9_code
def yX0_burnFuel : MethodName := ⟨RX0, "burnFuel", "([I)V"⟩
abbrev cX0_fuelFor : ByteArray := prog_2_method_10_code
def yX0_fuelFor : MethodName := ⟨RX0, "fuelFor", "([I)I"⟩
abbrev cX0_fuelSoFar : ByteArray := prog_2_method_11_code
def yX0_fuelSoFar : MethodName := ⟨RX0, "fuelSoFar", "()I"⟩
abbrev cX0_firstByMerit : ByteArray := prog_2_method_12_code
def yX0_firstByMerit : MethodName := ⟨RX0, "firstByMerit", "(I)I"⟩
def RX1 : String := "IslandReserve$Island"
def TX1 : u_T := fun k => match k with
  | 0 => ("IslandReserve$Island", "fleet", "LIslandReserve$Fleet;", true)
  | 1 => ("IslandReserve$Island", "hours", "[[I", true)
  | 2 => ("IslandReserve$Island", "settings", "[I", true)
  | 3 => ("IslandReserve$Island", "hour", "I", false)
  | 4 => ("IslandReserve$Island", "warmth", "I", false)
  | 5 => ("IslandReserve$Island", "isSpoiled", "Z", false)
  | _ => ("IslandReserve$Island", "storeIsShed", "Z", false)
def tyX1 : Nat → FieldType := fun k => match k with
  | 0 => .object "IslandReserve$Fleet"
  | 1 => .array (.array .int)
  | 2 => .array .int
  | 3 => .int
  | 4 => .int
  | 5 => .boolean
  | _ => .boolean
abbrev wsX10 : List Cond := u_ws RX1 TX1 7
theorem nmX1 : ∀ a, a < 7 → ∀ b, b < 7 → a ≠ b → (TX1 a).2.1 ≠ (TX1 b).2.1 := by decide +kernel
theorem tyX1_ok : ∀ k, k < 7 → parseFieldDescriptor (TX1 k).2.2.1 = some (tyX1 k) := by decide +kernel
abbrev cX1_init : ByteArray := prog_3_method_1_code
def yX1_init : MethodName := ⟨RX1, "<init>", "()V"⟩
abbrev cX1_copyFrom : ByteArray := prog_3_method_2_code
def yX1_copyFrom : MethodName := ⟨RX1, "copyFrom", "(LIslandReserve$Island;)V"⟩
abbrev cX1_hourOfNow : ByteArray := prog_3_method_3_code
def yX1_hourOfNow : MethodName := ⟨RX1, "hourOfNow", "()I"⟩
abbrev cX1_hasStill : ByteArray := prog_3_method_4_code
def yX1_hasStill : MethodName := ⟨RX1, "hasStill", "(I)Z"⟩
abbrev cX1_loadOf : ByteArray := prog_3_method_5_code
def yX1_loadOf : MethodName := ⟨RX1, "loadOf", "(I)I"⟩
abbrev cX1_letHoursGoBy : ByteArray := prog_3_method_6_code
def yX1_letHoursGoBy : MethodName := ⟨RX1, "letHoursGoBy", "(ILIslandReserve$Sharing;)V"⟩
abbrev cX1_letAnHourGoBy : ByteArray := prog_3_method_7_code
def yX1_letAnHourGoBy : MethodName := ⟨RX1, "letAnHourGoBy", "(LIslandReserve$Sharing;)V"⟩
abbrev cX1_changeWarmth : ByteArray := prog_3_method_8_code
def yX1_changeWarmth : MethodName := ⟨RX1, "changeWarmth", "()V"⟩
abbrev cX1_darkHours : ByteArray := prog_3_method_9_code
def yX1_darkHours : MethodName := ⟨RX1, "darkHours", "()I"⟩
abbrev cX1_safeHours : ByteArray := prog_3_method_10_code
def yX1_safeHours : MethodName := ⟨RX1, "safeHours", "()I"⟩
def RX2 : String := "IslandReserve$Plan"
def TX2 : u_T := fun k => match k with
  | 0 => ("IslandReserve$Plan", "kind", "[I", true)
  | 1 => ("IslandReserve$Plan", "first", "[I", true)
  | 2 => ("IslandReserve$Plan", "second", "[I", true)
  | 3 => ("IslandReserve$Plan", "orders", "I", false)
  | _ => ("IslandReserve$Plan", "awaited", "I", false)
def tyX2 : Nat → FieldType := fun k => match k with
  | 0 => .array .int
  | 1 => .array .int
  | 2 => .array .int
  | 3 => .int
  | _ => .int
abbrev wsX20 : List Cond := u_ws RX2 TX2 5
theorem nmX2 : ∀ a, a < 5 → ∀ b, b < 5 → a ≠ b → (TX2 a).2.1 ≠ (TX2 b).2.1 := by decide +kernel
theorem tyX2_ok : ∀ k, k < 5 → parseFieldDescriptor (TX2 k).2.2.1 = some (tyX2 k) := by decide +kernel
abbrev cX2_init : ByteArray := prog_4_method_1_code
def yX2_init : MethodName := ⟨RX2, "<init>", "()V"⟩
abbrev cX2_read : ByteArray := prog_4_method_2_code
def yX2_read : MethodName := ⟨RX2, "read", "([II)I"⟩
abbrev cX2_isWhole : ByteArray := prog_4_method_3_code
def yX2_isWhole : MethodName := ⟨RX2, "isWhole", "()Z"⟩
abbrev cX2_takes : ByteArray := prog_4_method_4_code
def yX2_takes : MethodName := ⟨RX2, "takes", "(I)Z"⟩
abbrev cX2_takesOrder : ByteArray := prog_4_method_5_code
def yX2_takesOrder : MethodName := ⟨RX2, "takesOrder", "(I)Z"⟩
abbrev cX2_takesDigit : ByteArray := prog_4_method_6_code
def yX2_takesDigit : MethodName := ⟨RX2, "takesDigit", "(II)Z"⟩
abbrev cX2_begins : ByteArray := prog_4_method_7_code
def yX2_begins : MethodName := ⟨RX2, "begins", "([IIIZI)Z"⟩
abbrev cX2_goesOn : ByteArray := prog_4_method_8_code
def yX2_goesOn : MethodName := ⟨RX2, "goesOn", "([IIII)Z"⟩
def RX3 : String := "IslandReserve$Sharing"
def TX3 : u_T := fun k => match k with
  | 0 => ("IslandReserve$Sharing", "load", "[I", true)
  | 1 => ("IslandReserve$Sharing", "dark", "I", false)
  | 2 => ("IslandReserve$Sharing", "burned", "I", false)
  | 3 => ("IslandReserve$Sharing", "reserve", "I", false)
  | _ => ("IslandReserve$Sharing", "isEnough", "Z", false)
def tyX3 : Nat → FieldType := fun k => match k with
  | 0 => .array .int
  | 1 => .int
  | 2 => .int
  | 3 => .int
  | _ => .boolean
abbrev wsX30 : List Cond := u_ws RX3 TX3 5
theorem nmX3 : ∀ a, a < 5 → ∀ b, b < 5 → a ≠ b → (TX3 a).2.1 ≠ (TX3 b).2.1 := by decide +kernel
theorem tyX3_ok : ∀ k, k < 5 → parseFieldDescriptor (TX3 k).2.2.1 = some (tyX3 k) := by decide +kernel
abbrev cX3_init : ByteArray := prog_5_method_1_code
def yX3_init : MethodName := ⟨RX3, "<init>", "()V"⟩
abbrev cX3_shareOut : ByteArray := prog_5_method_2_code
def yX3_shareOut : MethodName := ⟨RX3, "shareOut", "(LIslandReserve$Fleet;II)V"⟩
abbrev cX3_giveByMerit : ByteArray := prog_5_method_3_code
def yX3_giveByMerit : MethodName := ⟨RX3, "giveByMerit", "(LIslandReserve$Fleet;II)I"⟩
def RX4 : String := "IslandReserve"
def TX4 : u_T := fun k => match k with
  | 0 => ("IslandReserve", "now", "LIslandReserve$Island;", true)
  | 1 => ("IslandReserve", "trial", "LIslandReserve$Island;", true)
  | 2 => ("IslandReserve", "saved", "[LIslandReserve$Island;", true)
  | 3 => ("IslandReserve", "oldestSaved", "I", false)
  | 4 => ("IslandReserve", "savedCount", "I", false)
  | 5 => ("IslandReserve", "codes", "[I", true)
  | 6 => ("IslandReserve", "codeCount", "I", false)
  | 7 => ("IslandReserve", "plan", "LIslandReserve$Plan;", true)
  | _ => ("IslandReserve", "sharing", "LIslandReserve$Sharing;", true)
def tyX4 : Nat → FieldType := fun k => match k with
  | 0 => .object "IslandReserve$Island"
  | 1 => .object "IslandReserve$Island"
  | 2 => .array (.object "IslandReserve$Island")
  | 3 => .int
  | 4 => .int
  | 5 => .array .int
  | 6 => .int
  | 7 => .object "IslandReserve$Plan"
  | _ => .object "IslandReserve$Sharing"
abbrev wsX40 : List Cond := u_ws RX4 TX4 9
theorem nmX4 : ∀ a, a < 9 → ∀ b, b < 9 → a ≠ b → (TX4 a).2.1 ≠ (TX4 b).2.1 := by decide +kernel
theorem tyX4_ok : ∀ k, k < 9 → parseFieldDescriptor (TX4 k).2.2.1 = some (tyX4 k) := by decide +kernel
abbrev cX4_init : ByteArray := prog_1_method_1_code
def yX4_init : MethodName := ⟨RX4, "<init>", "()V"⟩
abbrev cX4_rate : ByteArray := prog_1_method_2_code
def yX4_rate : MethodName := ⟨RX4, "rate", "(IIIII)I"⟩
abbrev cX4_start : ByteArray := prog_1_method_3_code
def yX4_start : MethodName := ⟨RX4, "start", "(I)I"⟩
abbrev cX4_stop : ByteArray := prog_1_method_4_code
def yX4_stop : MethodName := ⟨RX4, "stop", "(I)I"⟩
abbrev cX4_lose : ByteArray := prog_1_method_5_code
def yX4_lose : MethodName := ⟨RX4, "lose", "(I)I"⟩
abbrev cX4_shed : ByteArray := prog_1_method_6_code
def yX4_shed : MethodName := ⟨RX4, "shed", "()I"⟩
abbrev cX4_forecast : ByteArray := prog_1_method_7_code
def yX4_forecast : MethodName := ⟨RX4, "forecast", "(II)I"⟩
abbrev cX4_pass : ByteArray := prog_1_method_8_code
def yX4_pass : MethodName := ⟨RX4, "pass", "(I)I"⟩
abbrev cX4_set : ByteArray := prog_1_method_9_code
def yX4_set : MethodName := ⟨RX4, "set", "(II)I"⟩
abbrev cX4_append : ByteArray := prog_1_method_10_code
def yX4_append : MethodName := ⟨RX4, "append", "(I)I"⟩
abbrev cX4_clearBuffer : ByteArray := prog_1_method_11_code
def yX4_clearBuffer : MethodName := ⟨RX4, "clearBuffer", "()I"⟩
abbrev cX4_firstError : ByteArray := prog_1_method_12_code
def yX4_firstError : MethodName := ⟨RX4, "firstError", "()I"⟩
abbrev cX4_run : ByteArray := prog_1_method_13_code
def yX4_run : MethodName := ⟨RX4, "run", "()I"⟩
abbrev cX4_undo : ByteArray := prog_1_method_14_code
def yX4_undo : MethodName := ⟨RX4, "undo", "()I"⟩
abbrev cX4_setOf : ByteArray := prog_1_method_15_code
def yX4_setOf : MethodName := ⟨RX4, "setOf", "(II)I"⟩
abbrev cX4_hour : ByteArray := prog_1_method_16_code
def yX4_hour : MethodName := ⟨RX4, "hour", "(II)I"⟩
abbrev cX4_count : ByteArray := prog_1_method_17_code
def yX4_count : MethodName := ⟨RX4, "count", "(I)I"⟩
abbrev cX4_setting : ByteArray := prog_1_method_18_code
def yX4_setting : MethodName := ⟨RX4, "setting", "(I)I"⟩
abbrev cX4_ifLost : ByteArray := prog_1_method_19_code
def yX4_ifLost : MethodName := ⟨RX4, "ifLost", "(I)I"⟩
abbrev cX4_cheapest : ByteArray := prog_1_method_20_code
def yX4_cheapest : MethodName := ⟨RX4, "cheapest", "(II)I"⟩
abbrev cX4_firstDark : ByteArray := prog_1_method_21_code
def yX4_firstDark : MethodName := ⟨RX4, "firstDark", "()I"⟩
abbrev cX4_ifShed : ByteArray := prog_1_method_22_code
def yX4_ifShed : MethodName := ⟨RX4, "ifShed", "()I"⟩
abbrev cX4_bestStart : ByteArray := prog_1_method_23_code
def yX4_bestStart : MethodName := ⟨RX4, "bestStart", "()I"⟩
abbrev cX4_safeShare : ByteArray := prog_1_method_24_code
def yX4_safeShare : MethodName := ⟨RX4, "safeShare", "()D"⟩
abbrev cX4_digest : ByteArray := prog_1_method_25_code
def yX4_digest : MethodName := ⟨RX4, "digest", "()J"⟩
abbrev cX4_withCheapest : ByteArray := prog_1_method_26_code
def yX4_withCheapest : MethodName := ⟨RX4, "withCheapest", "(JI)J"⟩
abbrev cX4_saveState : ByteArray := prog_1_method_27_code
def yX4_saveState : MethodName := ⟨RX4, "saveState", "()V"⟩
abbrev cX4_shareOutNow : ByteArray := prog_1_method_28_code
def yX4_shareOutNow : MethodName := ⟨RX4, "shareOutNow", "()V"⟩
abbrev cX4_isAllowed : ByteArray := prog_1_method_29_code
def yX4_isAllowed : MethodName := ⟨RX4, "isAllowed", "(II)Z"⟩
abbrev cX4_obey : ByteArray := prog_1_method_30_code
def yX4_obey : MethodName := ⟨RX4, "obey", "(III)V"⟩
abbrev cX4_requireArgument : ByteArray := prog_1_method_31_code
def yX4_requireArgument : MethodName := ⟨RX4, "requireArgument", "(Z)V"⟩
abbrev cX4_requireState : ByteArray := prog_1_method_32_code
def yX4_requireState : MethodName := ⟨RX4, "requireState", "(Z)V"⟩
abbrev cX4_requireSetting : ByteArray := prog_1_method_33_code
def yX4_requireSetting : MethodName := ⟨RX4, "requireSetting", "(I)V"⟩
abbrev cX4_isFrom : ByteArray := prog_1_method_34_code
def yX4_isFrom : MethodName := ⟨RX4, "isFrom", "(III)Z"⟩
abbrev cX4_isSet : ByteArray := prog_1_method_35_code
def yX4_isSet : MethodName := ⟨RX4, "isSet", "(I)Z"⟩
abbrev cX4_isHour : ByteArray := prog_1_method_36_code
def yX4_isHour : MethodName := ⟨RX4, "isHour", "(I)Z"⟩
abbrev cX4_oneIf : ByteArray := prog_1_method_37_code
def yX4_oneIf : MethodName := ⟨RX4, "oneIf", "(Z)I"⟩
abbrev cX4_bitsOfShare : ByteArray := prog_1_method_38_code
def yX4_bitsOfShare : MethodName := ⟨RX4, "bitsOfShare", "(D)J"⟩
def RX5 : String := "IslandReserveModel"
def TX5 : u_T := fun k => match k with
  | 0 => ("IslandReserveModel", "thrown", "I", false)
  | 1 => ("IslandReserveModel", "s", "[I", true)
  | 2 => ("IslandReserveModel", "aside", "[I", true)
  | 3 => ("IslandReserveModel", "saved", "[I", true)
  | 4 => ("IslandReserveModel", "savedMany", "I", false)
  | 5 => ("IslandReserveModel", "text", "[I", true)
  | 6 => ("IslandReserveModel", "length", "I", false)
  | 7 => ("IslandReserveModel", "load", "[I", true)
  | 8 => ("IslandReserveModel", "dark", "I", false)
  | 9 => ("IslandReserveModel", "burned", "I", false)
  | 10 => ("IslandReserveModel", "reserve", "I", false)
  | 11 => ("IslandReserveModel", "isEnough", "Z", false)
  | 12 => ("IslandReserveModel", "fuel", "I", false)
  | 13 => ("IslandReserveModel", "at", "I", false)
  | 14 => ("IslandReserveModel", "isWrong", "Z", false)
  | 15 => ("IslandReserveModel", "letter", "I", false)
  | 16 => ("IslandReserveModel", "one", "I", false)
  | 17 => ("IslandReserveModel", "two", "I", false)
  | _ => ("IslandReserveModel", "digested", "J", false)
def tyX5 : Nat → FieldType := fun k => match k with
  | 0 => .int
  | 1 => .array .int
  | 2 => .array .int
  | 3 => .array .int
  | 4 => .int
  | 5 => .array .int
  | 6 => .int
  | 7 => .array .int
  | 8 => .int
  | 9 => .int
  | 10 => .int
  | 11 => .boolean
  | 12 => .int
  | 13 => .int
  | 14 => .boolean
  | 15 => .int
  | 16 => .int
  | 17 => .int
  | _ => .long
abbrev wsX50 : List Cond := u_ws RX5 TX5 19
theorem nmX5 : ∀ a, a < 19 → ∀ b, b < 19 → a ≠ b → (TX5 a).2.1 ≠ (TX5 b).2.1 := by decide +kernel
theorem tyX5_ok : ∀ k, k < 19 → parseFieldDescriptor (TX5 k).2.2.1 = some (tyX5 k) := by decide +kernel
abbrev cX5_init : ByteArray := prog_7_method_1_code
def yX5_init : MethodName := ⟨RX5, "<init>", "()V"⟩
abbrev cX5_thrown : ByteArray := prog_7_method_2_code
def yX5_thrown : MethodName := ⟨RX5, "thrown", "()I"⟩
abbrev cX5_in : ByteArray := prog_7_method_3_code
def yX5_in : MethodName := ⟨RX5, "in", "(III)Z"⟩
abbrev cX5_holds : ByteArray := prog_7_method_4_code
def yX5_holds : MethodName := ⟨RX5, "holds", "(I)Z"⟩
abbrev cX5_isSet : ByteArray := prog_7_method_5_code
def yX5_isSet : MethodName := ⟨RX5, "isSet", "(I)Z"⟩
abbrev cX5_save : ByteArray := prog_7_method_6_code
def yX5_save : MethodName := ⟨RX5, "save", "()V"⟩
abbrev cX5_putAside : ByteArray := prog_7_method_7_code
def yX5_putAside : MethodName := ⟨RX5, "putAside", "()V"⟩
abbrev cX5_putBack : ByteArray := prog_7_method_8_code
def yX5_putBack : MethodName := ⟨RX5, "putBack", "()V"⟩
abbrev cX5_running : ByteArray := prog_7_method_9_code
def yX5_running : MethodName := ⟨RX5, "running", "()I"⟩
abbrev cX5_has : ByteArray := prog_7_method_10_code
def yX5_has : MethodName := ⟨RX5, "has", "(II)Z"⟩
abbrev cX5_loadOf : ByteArray := prog_7_method_11_code
def yX5_loadOf : MethodName := ⟨RX5, "loadOf", "(I)I"⟩
abbrev cX5_cheapestOf : ByteArray := prog_7_method_12_code
def yX5_cheapestOf : MethodName := ⟨RX5, "cheapestOf", "(I)I"⟩
abbrev cX5_share : ByteArray := prog_7_method_13_code
def yX5_share : MethodName := ⟨RX5, "share", "(II)V"⟩
abbrev cX5_now : ByteArray := prog_7_method_14_code
def yX5_now : MethodName := ⟨RX5, "now", "()I"⟩
abbrev cX5_shareNow : ByteArray := prog_7_method_15_code
def yX5_shareNow : MethodName := ⟨RX5, "shareNow", "()V"⟩
abbrev cX5_many : ByteArray := prog_7_method_16_code
def yX5_many : MethodName := ⟨RX5, "many", "(I)I"⟩
abbrev cX5_goOn : ByteArray := prog_7_method_17_code
def yX5_goOn : MethodName := ⟨RX5, "goOn", "()V"⟩
abbrev cX5_startFault : ByteArray := prog_7_method_18_code
def yX5_startFault : MethodName := ⟨RX5, "startFault", "(I)I"⟩
abbrev cX5_starts : ByteArray := prog_7_method_19_code
def yX5_starts : MethodName := ⟨RX5, "starts", "(I)I"⟩
abbrev cX5_stopFault : ByteArray := prog_7_method_20_code
def yX5_stopFault : MethodName := ⟨RX5, "stopFault", "(I)I"⟩
abbrev cX5_stops : ByteArray := prog_7_method_21_code
def yX5_stops : MethodName := ⟨RX5, "stops", "(I)I"⟩
abbrev cX5_sheds : ByteArray := prog_7_method_22_code
def yX5_sheds : MethodName := ⟨RX5, "sheds", "()I"⟩
abbrev cX5_passFault : ByteArray := prog_7_method_23_code
def yX5_passFault : MethodName := ⟨RX5, "passFault", "(I)I"⟩
abbrev cX5_passes : ByteArray := prog_7_method_24_code
def yX5_passes : MethodName := ⟨RX5, "passes", "(I)I"⟩
abbrev cX5_forecastFault : ByteArray := prog_7_method_25_code
def yX5_forecastFault : MethodName := ⟨RX5, "forecastFault", "(II)I"⟩
abbrev cX5_puts : ByteArray := prog_7_method_26_code
def yX5_puts : MethodName := ⟨RX5, "puts", "(II)I"⟩
abbrev cX5_rate : ByteArray := prog_7_method_27_code
def yX5_rate : MethodName := ⟨RX5, "rate", "(IIIII)I"⟩
abbrev cX5_start : ByteArray := prog_7_method_28_code
def yX5_start : MethodName := ⟨RX5, "start", "(I)I"⟩
abbrev cX5_stop : ByteArray := prog_7_method_29_code
def yX5_stop : MethodName := ⟨RX5, "stop", "(I)I"⟩
abbrev cX5_lose : ByteArray := prog_7_method_30_code
def yX5_lose : MethodName := ⟨RX5, "lose", "(I)I"⟩
abbrev cX5_shed : ByteArray := prog_7_method_31_code
def yX5_shed : MethodName := ⟨RX5, "shed", "()I"⟩
abbrev cX5_forecast : ByteArray := prog_7_method_32_code
def yX5_forecast : MethodName := ⟨RX5, "forecast", "(II)I"⟩
abbrev cX5_pass : ByteArray := prog_7_method_33_code
def yX5_pass : MethodName := ⟨RX5, "pass", "(I)I"⟩
abbrev cX5_set : ByteArray := prog_7_method_34_code
def yX5_set : MethodName := ⟨RX5, "set", "(II)I"⟩
abbrev cX5_append : ByteArray := prog_7_method_35_code
def yX5_append : MethodName := ⟨RX5, "append", "(I)I"⟩
abbrev cX5_clearBuffer : ByteArray := prog_7_method_36_code
def yX5_clearBuffer : MethodName := ⟨RX5, "clearBuffer", "()I"⟩
abbrev cX5_sign : ByteArray := prog_7_method_37_code
def yX5_sign : MethodName := ⟨RX5, "sign", "(II)I"⟩
abbrev cX5_number : ByteArray := prog_7_method_38_code
def yX5_number : MethodName := ⟨RX5, "number", "(II)I"⟩
abbrev cX5_order : ByteArray := prog_7_method_39_code
def yX5_order : MethodName := ⟨RX5, "order", "()V"⟩
abbrev cX5_does : ByteArray := prog_7_method_40_code
def yX5_does : MethodName := ⟨RX5, "does", "()Z"⟩
abbrev cX5_go : ByteArray := prog_7_method_41_code
def yX5_go : MethodName := ⟨RX5, "go", "(Z)I"⟩
abbrev cX5_firstError : ByteArray := prog_7_method_42_code
def yX5_firstError : MethodName := ⟨RX5, "firstError", "()I"⟩
abbrev cX5_run : ByteArray := prog_7_method_43_code
def yX5_run : MethodName := ⟨RX5, "run", "()I"⟩
abbrev cX5_undo : ByteArray := prog_7_method_44_code
def yX5_undo : MethodName := ⟨RX5, "undo", "()I"⟩
abbrev cX5_toldOf : ByteArray := prog_7_method_45_code
def yX5_toldOf : MethodName := ⟨RX5, "toldOf", "(II)I"⟩
abbrev cX5_setOf : ByteArray := prog_7_method_46_code
def yX5_setOf : MethodName := ⟨RX5, "setOf", "(II)I"⟩
abbrev cX5_toldOfHour : ByteArray := prog_7_method_47_code
def yX5_toldOfHour : MethodName := ⟨RX5, "toldOfHour", "(II)I"⟩
abbrev cX5_hour : ByteArray := prog_7_method_48_code
def yX5_hour : MethodName := ⟨RX5, "hour", "(II)I"⟩
abbrev cX5_allFuel : ByteArray := prog_7_method_49_code
def yX5_allFuel : MethodName := ⟨RX5, "allFuel", "()I"⟩
abbrev cX5_warming : ByteArray := prog_7_method_50_code
def yX5_warming : MethodName := ⟨RX5, "warming", "()I"⟩
abbrev cX5_counted : ByteArray := prog_7_method_51_code
def yX5_counted : MethodName := ⟨RX5, "counted", "(I)I"⟩
abbrev cX5_count : ByteArray := prog_7_method_52_code
def yX5_count : MethodName := ⟨RX5, "count", "(I)I"⟩
abbrev cX5_setting : ByteArray := prog_7_method_53_code
def yX5_setting : MethodName := ⟨RX5, "setting", "(I)I"⟩
abbrev cX5_darkWithout : ByteArray := prog_7_method_54_code
def yX5_darkWithout : MethodName := ⟨RX5, "darkWithout", "(I)I"⟩
abbrev cX5_ifLost : ByteArray := prog_7_method_55_code
def yX5_ifLost : MethodName := ⟨RX5, "ifLost", "(I)I"⟩
abbrev cX5_best : ByteArray := prog_7_method_56_code
def yX5_best : MethodName := ⟨RX5, "best", "(II)I"⟩
abbrev cX5_cheapest : ByteArray := prog_7_method_57_code
def yX5_cheapest : MethodName := ⟨RX5, "cheapest", "(II)I"⟩
abbrev cX5_darkFirst : ByteArray := prog_7_method_58_code
def yX5_darkFirst : MethodName := ⟨RX5, "darkFirst", "()I"⟩
abbrev cX5_firstDark : ByteArray := prog_7_method_59_code
def yX5_firstDark : MethodName := ⟨RX5, "firstDark", "()I"⟩
abbrev cX5_darkToTheEnd : ByteArray := prog_7_method_60_code
def yX5_darkToTheEnd : MethodName := ⟨RX5, "darkToTheEnd", "()I"⟩
abbrev cX5_fewerIfShed : ByteArray := prog_7_method_61_code
def yX5_fewerIfShed : MethodName := ⟨RX5, "fewerIfShed", "()I"⟩
abbrev cX5_ifShed : ByteArray := prog_7_method_62_code
def yX5_ifShed : MethodName := ⟨RX5, "ifShed", "()I"⟩
abbrev cX5_startBest : ByteArray := prog_7_method_63_code
def yX5_startBest : MethodName := ⟨RX5, "startBest", "()I"⟩
abbrev cX5_bestStart : ByteArray := prog_7_method_64_code
def yX5_bestStart : MethodName := ⟨RX5, "bestStart", "()I"⟩
abbrev cX5_safe : ByteArray := prog_7_method_65_code
def yX5_safe : MethodName := ⟨RX5, "safe", "()D"⟩
abbrev cX5_safeShare : ByteArray := prog_7_method_66_code
def yX5_safeShare : MethodName := ⟨RX5, "safeShare", "()D"⟩
abbrev cX5_bitsOf : ByteArray := prog_7_method_67_code
def yX5_bitsOf : MethodName := ⟨RX5, "bitsOf", "(D)J"⟩
abbrev cX5_digestOne : ByteArray := prog_7_method_68_code
def yX5_digestOne : MethodName := ⟨RX5, "digestOne", "(J)V"⟩
abbrev cX5_digest : ByteArray := prog_7_method_69_code
def yX5_digest : MethodName := ⟨RX5, "digest", "()J"⟩
def RJx145de : String := "java/io/Serializable"
def TJx145de : u_T := fun k => match k with
  | _ => ("", "", "", false)
def tyJx145de : Nat → FieldType := fun k => match k with
  | _ => .int
abbrev wsJx145de0 : List Cond := u_ws RJx145de TJx145de 0
theorem nmJx145de : ∀ a, a < 0 → ∀ b, b < 0 → a ≠ b → (TJx145de a).2.1 ≠ (TJx145de b).2.1 := by decide +kernel
theorem tyJx145de_ok : ∀ k, k < 0 → parseFieldDescriptor (TJx145de k).2.2.1 = some (tyJx145de k) := by decide +kernel
def RJ6 : String := "java/lang/Integer"
def TJ6 : u_T := fun k => match k with
  | _ => ("", "", "", false)
def tyJ6 : Nat → FieldType := fun k => match k with
  | _ => .int
abbrev wsJ60 : List Cond := u_ws RJ6 TJ6 0
theorem nmJ6 : ∀ a, a < 0 → ∀ b, b < 0 → a ≠ b → (TJ6 a).2.1 ≠ (TJ6 b).2.1 := by decide +kernel
theorem tyJ6_ok : ∀ k, k < 0 → parseFieldDescriptor (TJ6 k).2.2.1 = some (tyJ6 k) := by decide +kernel
abbrev cJ6_bitCount_0f7a4 : ByteArray := prog_12_method_49_code
def yJ6_bitCount_0f7a4 : MethodName := ⟨RJ6, "bitCount", "(I)I"⟩
def RJ9 : String := "java/lang/Math"
def TJ9 : u_T := fun k => match k with
  | _ => ("", "", "", false)
def tyJ9 : Nat → FieldType := fun k => match k with
  | _ => .int
abbrev wsJ90 : List Cond := u_ws RJ9 TJ9 0
theorem nmJ9 : ∀ a, a < 0 → ∀ b, b < 0 → a ≠ b → (TJ9 a).2.1 ≠ (TJ9 b).2.1 := by decide +kernel
theorem tyJ9_ok : ∀ k, k < 0 → parseFieldDescriptor (TJ9 k).2.2.1 = some (tyJ9 k) := by decide +kernel
abbrev cJ9_max_7cf53 : ByteArray := prog_13_method_65_code
def yJ9_max_7cf53 : MethodName := ⟨RJ9, "max", "(II)I"⟩
abbrev cJ9_min_7cf53 : ByteArray := prog_13_method_69_code
def yJ9_min_7cf53 : MethodName := ⟨RJ9, "min", "(II)I"⟩
def RJ0 : String := "java/lang/String"
def TJ0 : u_T := fun k => match k with
  | _ => ("", "", "", false)
def tyJ0 : Nat → FieldType := fun k => match k with
  | _ => .int
abbrev wsJ00 : List Cond := u_ws RJ0 TJ0 0
theorem nmJ0 : ∀ a, a < 0 → ∀ b, b < 0 → a ≠ b → (TJ0 a).2.1 ≠ (TJ0 b).2.1 := by decide +kernel
theorem tyJ0_ok : ∀ k, k < 0 → parseFieldDescriptor (TJ0 k).2.2.1 = some (tyJ0 k) := by decide +kernel
def RJ10 : String := "java/lang/System"
def TJ10 : u_T := fun k => match k with
  | _ => ("", "", "", false)
def tyJ10 : Nat → FieldType := fun k => match k with
  | _ => .int
abbrev wsJ100 : List Cond := u_ws RJ10 TJ10 0
theorem nmJ10 : ∀ a, a < 0 → ∀ b, b < 0 → a ≠ b → (TJ10 a).2.1 ≠ (TJ10 b).2.1 := by decide +kernel
theorem tyJ10_ok : ∀ k, k < 0 → parseFieldDescriptor (TJ10 k).2.2.1 = some (tyJ10 k) := by decide +kernel
def RJ7 : String := "java/util/Arrays"
def TJ7 : u_T := fun k => match k with
  | _ => ("", "", "", false)
def tyJ7 : Nat → FieldType := fun k => match k with
  | _ => .int
abbrev wsJ70 : List Cond := u_ws RJ7 TJ7 0
theorem nmJ7 : ∀ a, a < 0 → ∀ b, b < 0 → a ≠ b → (TJ7 a).2.1 ≠ (TJ7 b).2.1 := by decide +kernel
theorem tyJ7_ok : ∀ k, k < 0 → parseFieldDescriptor (TJ7 k).2.2.1 = some (tyJ7 k) := by decide +kernel
abbrev cJ7_fill_53178 : ByteArray := prog_18_method_103_code
def yJ7_fill_53178 : MethodName := ⟨RJ7, "fill", "([II)V"⟩
def RL : String := "IslandReserveLaw"
abbrev cL_rate : ByteArray := method_3_code
def yL_rate : MethodName := ⟨RL, "rate", "(LIslandReserve;IIIII[J)I"⟩
abbrev cL_start : ByteArray := method_4_code
def yL_start : MethodName := ⟨RL, "start", "(LIslandReserve;I[J)I"⟩
abbrev cL_stop : ByteArray := method_5_code
def yL_stop : MethodName := ⟨RL, "stop", "(LIslandReserve;I[J)I"⟩
abbrev cL_lose : ByteArray := method_6_code
def yL_lose : MethodName := ⟨RL, "lose", "(LIslandReserve;I[J)I"⟩
abbrev cL_forecast : ByteArray := method_7_code
def yL_forecast : MethodName := ⟨RL, "forecast", "(LIslandReserve;II[J)I"⟩
abbrev cL_pass : ByteArray := method_8_code
def yL_pass : MethodName := ⟨RL, "pass", "(LIslandReserve;I[J)I"⟩
abbrev cL_set : ByteArray := method_9_code
def yL_set : MethodName := ⟨RL, "set", "(LIslandReserve;II[J)I"⟩
abbrev cL_append : ByteArray := method_10_code
def yL_append : MethodName := ⟨RL, "append", "(LIslandReserve;I[J)I"⟩
abbrev cL_run : ByteArray := method_11_code
def yL_run : MethodName := ⟨RL, "run", "(LIslandReserve;[J)I"⟩
abbrev cL_undo : ByteArray := method_12_code
def yL_undo : MethodName := ⟨RL, "undo", "(LIslandReserve;[J)I"⟩
abbrev cL_setOf : ByteArray := method_13_code
def yL_setOf : MethodName := ⟨RL, "setOf", "(LIslandReserve;II[J)I"⟩
abbrev cL_hour : ByteArray := method_14_code
def yL_hour : MethodName := ⟨RL, "hour", "(LIslandReserve;II[J)I"⟩
abbrev cL_count : ByteArray := method_15_code
def yL_count : MethodName := ⟨RL, "count", "(LIslandReserve;I[J)I"⟩
abbrev cL_setting : ByteArray := method_16_code
def yL_setting : MethodName := ⟨RL, "setting", "(LIslandReserve;I[J)I"⟩
abbrev cL_ifLost : ByteArray := method_17_code
def yL_ifLost : MethodName := ⟨RL, "ifLost", "(LIslandReserve;I[J)I"⟩
abbrev cL_cheapest : ByteArray := method_18_code
def yL_cheapest : MethodName := ⟨RL, "cheapest", "(LIslandReserve;II[J)I"⟩
abbrev cL_law : ByteArray := code
def yL_law : MethodName := ⟨RL, "law", "([I)Z"⟩

abbrev vwCl : List vw_C := [(RX0, TX0, 8), (RX1, TX1, 7), (RX2, TX2, 5), (RX3, TX3, 5), (RX4, TX4, 9), (RX5, TX5, 19)]
end
section

/-! THE INTERPRETER: values, memory, one instruction, a run; tables by program -/
abbrev AV : Type := Int32 ⊕ (Int64 ⊕ (UInt64 ⊕ (Nat × Nat)))
abbrev aI (x : Int32) : AV := .inl x
abbrev aL (x : Int64) : AV := .inr (.inl x)
abbrev aD (x : UInt64) : AV := .inr (.inr (.inl x))
abbrev aR (f p : Nat) : AV := .inr (.inr (.inr (f, p)))
/-- the class's ints by family, part and place; the model's by part and place; the longs -/
abbrev Mem : Type := (Nat → Nat → Nat → Int32) × ((Nat → Nat → Int32) × (Nat → Int64))
abbrev Lc : Type := List (Option AV)
abbrev Cf : Type := Nat × (Lc × (List AV × Mem))
def z_cat2 : AV → Bool
  | .inl _ => false
  | .inr (.inl _) => true
  | .inr (.inr (.inl _)) => true
  | .inr (.inr (.inr _)) => false
def z_get : Lc → Nat → Option AV
  | [], _ => none
  | x :: _, 0 => x
  | _ :: t, k + 1 => z_get t k
def z_set : Lc → Nat → Option AV → Lc
  | [], _, _ => []
  | _ :: t, 0, v => v :: t
  | x :: t, k + 1, v => x :: z_set t k v
/-- the place k - 1 holds no number of two words any more, if k is written -/
def z_clr (ls : Lc) : Nat → Lc
  | 0 => ls
  | k + 1 => match z_get ls k with
    | some v => bif z_cat2 v then z_set ls k none else ls
    | none => ls
def z_st1w (ls : Lc) (k : Nat) (v : AV) : Lc := z_set (z_clr ls k) k (some v)
def z_st2w (ls : Lc) (k : Nat) (v : AV) : Lc := z_set (z_set (z_clr ls k) k (some v)) (k + 1) none
def z_entL : List AV → Lc
  | [] => []
  | v :: t => bif z_cat2 v then some v :: none :: z_entL t else some v :: z_entL t
def z_pad : Nat → Lc → Lc
  | 0, l => l
  | n + 1, [] => none :: z_pad n []
  | n + 1, x :: t => x :: z_pad n t
-- memory
def up2 (g : Nat → Nat → Int32) (p k : Nat) (v : Int32) : Nat → Nat → Int32 := fun q => if q = p then upd (g p) k v else g q
def up3 (g : Nat → Nat → Nat → Int32) (f p k : Nat) (v : Int32) : Nat → Nat → Nat → Int32 := fun h => if h = f then up2 (g f) p k v else g h
def z_ri (M : Mem) (f p k : Nat) : Int32 := bif Nat.blt p 32 then M.1 f p k else M.2.1 p k
def z_wi (M : Mem) (f p k : Nat) (v : Int32) : Mem := bif Nat.blt p 32 then (up3 M.1 f p k v, M.2) else (M.1, up2 M.2.1 p k v, M.2.2)
/-- the class and the number of fields of an object's part -/
def z_obj (p : Nat) : Option (Nat × Nat) := match p with
  | 0 => some (1, 7)
  | 1 => some (0, 8)
  | 16 => some (4, 9)
  | 19 => some (2, 5)
  | 23 => some (3, 5)
  | 32 => some (5, 19)
  | _ => none
/-- what kind of array: 0 ints, 1 longs, 2 islands, 3 rows of ints -/
def z_ak (p : Nat) : Nat := match p with
  | 10 => 3
  | 17 => 2
  | 40 => 1
  | _ => 0
def z_sz (p : Nat) : Nat := match p with
  | 10 => 7
  | 11 => 48
  | 12 => 2
  | 17 => 6
  | 18 => 60
  | 20 => 60
  | 21 => 60
  | 22 => 60
  | 24 => 4
  | 33 => 376
  | 34 => 376
  | 35 => 2256
  | 36 => 60
  | 37 => 4
  | 40 => 1
  | _ => 4
def z_val (f p : Nat) : Bool := match p with
  | 0 => Nat.blt f 8
  | 1 => Nat.blt f 8
  | 2 => Nat.blt f 8
  | 3 => Nat.blt f 8
  | 4 => Nat.blt f 8
  | 5 => Nat.blt f 8
  | 6 => Nat.blt f 8
  | 7 => Nat.blt f 8
  | 8 => Nat.blt f 8
  | 9 => Nat.blt f 8
  | 10 => Nat.blt f 8
  | 12 => Nat.blt f 8
  | 11 => Nat.blt f 56
  | 16 => Nat.beq f 0
  | 17 => Nat.beq f 0
  | 18 => Nat.beq f 0
  | 19 => Nat.beq f 0
  | 20 => Nat.beq f 0
  | 21 => Nat.beq f 0
  | 22 => Nat.beq f 0
  | 23 => Nat.beq f 0
  | 24 => Nat.beq f 0
  | 32 => Nat.beq f 0
  | 33 => Nat.beq f 0
  | 34 => Nat.beq f 0
  | 35 => Nat.beq f 0
  | 36 => Nat.beq f 0
  | 37 => Nat.beq f 0
  | 40 => Nat.beq f 0
  | _ => false
/-- the fields that hold references, for good -/
def z_rk (f p k : Nat) : Option AV := match p with
  | 0 => match k with
    | 0 => some (aR f 1)
    | 1 => some (aR f 10)
    | 2 => some (aR f 12)
    | _ => none
  | 1 => some (aR f (2 + k))
  | 16 => match k with
    | 0 => some (aR 0 0)
    | 1 => some (aR 1 0)
    | 2 => some (aR 0 17)
    | 5 => some (aR 0 18)
    | 7 => some (aR 0 19)
    | 8 => some (aR 0 23)
    | _ => none
  | 19 => match k with
    | 0 => some (aR 0 20)
    | 1 => some (aR 0 21)
    | 2 => some (aR 0 22)
    | _ => none
  | 23 => match k with
    | 0 => some (aR 0 24)
    | _ => none
  | 32 => match k with
    | 1 => some (aR 0 33)
    | 2 => some (aR 0 34)
    | 3 => some (aR 0 35)
    | 5 => some (aR 0 36)
    | 7 => some (aR 0 37)
    | _ => none
  | _ => none
/-- a field of an object -/
def z_rd (M : Mem) (f p k : Nat) : AV := match z_rk f p k with
  | some r => r
  | none => bif Nat.beq p 32 && Nat.beq k 18 then aL (M.2.2 0) else aI (z_ri M f p k)
/-- fields of the type boolean -/
def z_fb (p k : Nat) : Bool := match p with
  | 0 => Nat.beq k 5 || Nat.beq k 6
  | 23 => Nat.beq k 4
  | 32 => Nat.beq k 11 || Nat.beq k 14
  | _ => false
def z_isB (x : Int32) : Bool := decide (x = 0) || decide (x = 1)
def z_inb (i : Int32) (n : Nat) : Bool := !(decide (i < 0)) && Nat.blt i.toNatClampNeg n
def z_okv : AV → Bool
  | .inr (.inr (.inr r)) => (Nat.beq r.2 41 && Nat.beq r.1 0) || z_val r.1 r.2
  | _ => true
def z_okS (st : List AV) : Bool := st.all z_okv
def z_okL (ls : Lc) : Bool := ls.all fun o => match o with
  | some v => z_okv v
  | none => true
def z_all : List Prop → Prop
  | [] => True
  | a :: t => a ∧ z_all t

def z_c0 (pc : Nat) : Option (Instr × Nat × Int32) := bif Nat.blt pc 56 then (bif Nat.blt pc 28 then (bif Nat.blt pc 14 then (bif Nat.blt pc 6 then (bif Nat.blt pc 4 then (bif Nat.blt pc 1 then (bif Nat.beq pc 0 then some (.aload_n 1, 0, 0) else none) else (bif Nat.beq pc 1 then some (.getfield 9, 0, 0) else none)) else (bif Nat.blt pc 5 then (bif Nat.beq pc 4 then some (.iconst 0, 0, 0) else none) else (bif Nat.beq pc 5 then some (.aload_n 0, 0, 0) else none))) else (bif Nat.blt pc 10 then (bif Nat.blt pc 9 then (bif Nat.beq pc 6 then some (.getfield 9, 0, 0) else none) else (bif Nat.beq pc 9 then some (.iconst 0, 0, 0) else none)) else (bif Nat.blt pc 11 then (bif Nat.beq pc 10 then some (.iconst 4, 0, 4) else none) else (bif Nat.beq pc 11 then some (.invokestatic 42, 0, 0) else none)))) else (bif Nat.blt pc 20 then (bif Nat.blt pc 18 then (bif Nat.blt pc 15 then (bif Nat.beq pc 14 then some (.aload_n 1, 0, 0) else none) else (bif Nat.beq pc 15 then some (.getfield 15, 0, 0) else none)) else (bif Nat.blt pc 19 then (bif Nat.beq pc 18 then some (.iconst 0, 0, 0) else none) else (bif Nat.beq pc 19 then some (.aload_n 0, 0, 0) else none))) else (bif Nat.blt pc 24 then (bif Nat.blt pc 23 then (bif Nat.beq pc 20 then some (.getfield 15, 0, 0) else none) else (bif Nat.beq pc 23 then some (.iconst 0, 0, 0) else none)) else (bif Nat.blt pc 25 then (bif Nat.beq pc 24 then some (.iconst 4, 0, 4) else none) else (bif Nat.beq pc 25 then some (.invokestatic 42, 0, 0) else none))))) else (bif Nat.blt pc 42 then (bif Nat.blt pc 34 then (bif Nat.blt pc 32 then (bif Nat.blt pc 29 then (bif Nat.beq pc 28 then some (.aload_n 1, 0, 0) else none) else (bif Nat.beq pc 29 then some (.getfield 18, 0, 0) else none)) else (bif Nat.blt pc 33 then (bif Nat.beq pc 32 then some (.iconst 0, 0, 0) else none) else (bif Nat.beq pc 33 then some (.aload_n 0, 0, 0) else none))) else (bif Nat.blt pc 38 then (bif Nat.blt pc 37 then (bif Nat.beq pc 34 then some (.getfield 18, 0, 0) else none) else (bif Nat.beq pc 37 then some (.iconst 0, 0, 0) else none)) else (bif Nat.blt pc 39 then (bif Nat.beq pc 38 then some (.iconst 4, 0, 4) else none) else (bif Nat.beq pc 39 then some (.invokestatic 42, 0, 0) else none)))) else (bif Nat.blt pc 48 then (bif Nat.blt pc 46 then (bif Nat.blt pc 43 then (bif Nat.beq pc 42 then some (.aload_n 1, 0, 0) else none) else (bif Nat.beq pc 43 then some (.getfield 21, 0, 0) else none)) else (bif Nat.blt pc 47 then (bif Nat.beq pc 46 then some (.iconst 0, 0, 0) else none) else (bif Nat.beq pc 47 then some (.aload_n 0, 0, 0) else none))) else (bif Nat.blt pc 52 then (bif Nat.blt pc 51 then (bif Nat.beq pc 48 then some (.getfield 21, 0, 0) else none) else (bif Nat.beq pc 51 then some (.iconst 0, 0, 0) else none)) else (bif Nat.blt pc 53 then (bif Nat.beq pc 52 then some (.iconst 4, 0, 4) else none) else (bif Nat.beq pc 53 then some (.invokestatic 42, 0, 0) else none)))))) else (bif Nat.blt pc 84 then (bif Nat.blt pc 70 then (bif Nat.blt pc 62 then (bif Nat.blt pc 60 then (bif Nat.blt pc 57 then (bif Nat.beq pc 56 then some (.aload_n 1, 0, 0) else none) else (bif Nat.beq pc 57 then some (.getfield 24, 0, 0) else none)) else (bif Nat.blt pc 61 then (bif Nat.beq pc 60 then some (.iconst 0, 0, 0) else none) else (bif Nat.beq pc 61 then some (.aload_n 0, 0, 0) else none))) else (bif Nat.blt pc 66 then (bif Nat.blt pc 65 then (bif Nat.beq pc 62 then some (.getfield 24, 0, 0) else none) else (bif Nat.beq pc 65 then some (.iconst 0, 0, 0) else none)) else (bif Nat.blt pc 67 then (bif Nat.beq pc 66 then some (.iconst 4, 0, 4) else none) else (bif Nat.beq pc 67 then some (.invokestatic 42, 0, 0) else none)))) else (bif Nat.blt pc 76 then (bif Nat.blt pc 74 then (bif Nat.blt pc 71 then (bif Nat.beq pc 70 then some (.aload_n 1, 0, 0) else none) else (bif Nat.beq pc 71 then some (.getfield 27, 0, 0) else none)) else (bif Nat.blt pc 75 then (bif Nat.beq pc 74 then some (.iconst 0, 0, 0) else none) else (bif Nat.beq pc 75 then some (.aload_n 0, 0, 0) else none))) else (bif Nat.blt pc 80 then (bif Nat.blt pc 79 then (bif Nat.beq pc 76 then some (.getfield 27, 0, 0) else none) else (bif Nat.beq pc 79 then some (.iconst 0, 0, 0) else none)) else (bif Nat.blt pc 81 then (bif Nat.beq pc 80 then some (.iconst 4, 0, 4) else none) else (bif Nat.beq pc 81 then some (.invokestatic 42, 0, 0) else none))))) else (bif Nat.blt pc 98 then (bif Nat.blt pc 90 then (bif Nat.blt pc 88 then (bif Nat.blt pc 85 then (bif Nat.beq pc 84 then some (.aload_n 1, 0, 0) else none) else (bif Nat.beq pc 85 then some (.getfield 30, 0, 0) else none)) else (bif Nat.blt pc 89 then (bif Nat.beq pc 88 then some (.iconst 0, 0, 0) else none) else (bif Nat.beq pc 89 then some (.aload_n 0, 0, 0) else none))) else (bif Nat.blt pc 94 then (bif Nat.blt pc 93 then (bif Nat.beq pc 90 then some (.getfield 30, 0, 0) else none) else (bif Nat.beq pc 93 then some (.iconst 0, 0, 0) else none)) else (bif Nat.blt pc 95 then (bif Nat.beq pc 94 then some (.iconst 4, 0, 4) else none) else (bif Nat.beq pc 95 then some (.invokestatic 42, 0, 0) else none)))) else (bif Nat.blt pc 104 then (bif Nat.blt pc 102 then (bif Nat.blt pc 99 then (bif Nat.beq pc 98 then some (.aload_n 1, 0, 0) else none) else (bif Nat.beq pc 99 then some (.getfield 33, 0, 0) else none)) else (bif Nat.blt pc 103 then (bif Nat.beq pc 102 then some (.iconst 0, 0, 0) else none) else (bif Nat.beq pc 103 then some (.aload_n 0, 0, 0) else none))) else (bif Nat.blt pc 108 then (bif Nat.blt pc 107 then (bif Nat.beq pc 104 then some (.getfield 33, 0, 0) else none) else (bif Nat.beq pc 107 then some (.iconst 0, 0, 0) else none)) else (bif Nat.blt pc 109 then (bif Nat.beq pc 108 then some (.iconst 4, 0, 4) else none) else (bif Nat.blt pc 112 then (bif Nat.beq pc 109 then some (.invokestatic 42, 0, 0) else none) else (bif Nat.beq pc 112 then some (.return_, 0, 0) else none)))))))
def z_c1 (pc : Nat) : Option (Instr × Nat × Int32) := bif Nat.blt pc 16 then (bif Nat.blt pc 9 then (bif Nat.blt pc 4 then (bif Nat.blt pc 1 then (bif Nat.beq pc 0 then some (.aload_n 0, 0, 0) else none) else (bif Nat.beq pc 1 then some (.getfield 27, 0, 0) else none)) else (bif Nat.blt pc 5 then (bif Nat.beq pc 4 then some (.iload_n 1, 0, 0) else none) else (bif Nat.blt pc 6 then (bif Nat.beq pc 5 then some (.aload_n 0, 0, 0) else none) else (bif Nat.beq pc 6 then some (.getfield 21, 0, 0) else none)))) else (bif Nat.blt pc 11 then (bif Nat.blt pc 10 then (bif Nat.beq pc 9 then some (.iload_n 1, 0, 0) else none) else (bif Nat.beq pc 10 then some (.iaload, 0, 0) else none)) else (bif Nat.blt pc 12 then (bif Nat.beq pc 11 then some (.iastore, 0, 0) else none) else (bif Nat.blt pc 13 then (bif Nat.beq pc 12 then some (.aload_n 0, 0, 0) else none) else (bif Nat.beq pc 13 then some (.getfield 24, 0, 0) else none))))) else (bif Nat.blt pc 23 then (bif Nat.blt pc 18 then (bif Nat.blt pc 17 then (bif Nat.beq pc 16 then some (.iload_n 1, 0, 0) else none) else (bif Nat.beq pc 17 then some (.aload_n 0, 0, 0) else none)) else (bif Nat.blt pc 21 then (bif Nat.beq pc 18 then some (.getfield 21, 0, 0) else none) else (bif Nat.blt pc 22 then (bif Nat.beq pc 21 then some (.iload_n 1, 0, 0) else none) else (bif Nat.beq pc 22 then some (.iaload, 0, 0) else none)))) else (bif Nat.blt pc 30 then (bif Nat.blt pc 26 then (bif Nat.beq pc 23 then some (.ifCond .ne 7, 30, 0) else none) else (bif Nat.blt pc 27 then (bif Nat.beq pc 26 then some (.iconst 2, 0, 2) else none) else (bif Nat.beq pc 27 then some (.goto 4, 31, 0) else none))) else (bif Nat.blt pc 31 then (bif Nat.beq pc 30 then some (.iconst 1, 0, 1) else none) else (bif Nat.blt pc 32 then (bif Nat.beq pc 31 then some (.iastore, 0, 0) else none) else (bif Nat.beq pc 32 then some (.return_, 0, 0) else none)))))
def z_c2 (pc : Nat) : Option (Instr × Nat × Int32) := bif Nat.blt pc 7 then (bif Nat.blt pc 4 then (bif Nat.blt pc 1 then (bif Nat.beq pc 0 then some (.aload_n 0, 0, 0) else none) else (bif Nat.beq pc 1 then some (.getfield 27, 0, 0) else none)) else (bif Nat.blt pc 5 then (bif Nat.beq pc 4 then some (.iload_n 1, 0, 0) else none) else (bif Nat.blt pc 6 then (bif Nat.beq pc 5 then some (.iconst 0, 0, 0) else none) else (bif Nat.beq pc 6 then some (.iastore, 0, 0) else none)))) else (bif Nat.blt pc 12 then (bif Nat.blt pc 8 then (bif Nat.beq pc 7 then some (.aload_n 0, 0, 0) else none) else (bif Nat.blt pc 11 then (bif Nat.beq pc 8 then some (.getfield 24, 0, 0) else none) else (bif Nat.beq pc 11 then some (.iload_n 1, 0, 0) else none))) else (bif Nat.blt pc 13 then (bif Nat.beq pc 12 then some (.iload_n 2, 0, 0) else none) else (bif Nat.blt pc 14 then (bif Nat.beq pc 13 then some (.iastore, 0, 0) else none) else (bif Nat.beq pc 14 then some (.return_, 0, 0) else none))))
def z_c3 (pc : Nat) : Option (Instr × Nat × Int32) := bif Nat.blt pc 14 then (bif Nat.blt pc 6 then (bif Nat.blt pc 4 then (bif Nat.blt pc 1 then (bif Nat.beq pc 0 then some (.aload_n 0, 0, 0) else none) else (bif Nat.beq pc 1 then some (.getfield 24, 0, 0) else none)) else (bif Nat.blt pc 5 then (bif Nat.beq pc 4 then some (.iload_n 1, 0, 0) else none) else (bif Nat.beq pc 5 then some (.iaload, 0, 0) else none))) else (bif Nat.blt pc 10 then (bif Nat.blt pc 7 then (bif Nat.beq pc 6 then some (.iconst 1, 0, 1) else none) else (bif Nat.beq pc 7 then some (.if_icmp .eq 13, 20, 0) else none)) else (bif Nat.blt pc 11 then (bif Nat.beq pc 10 then some (.aload_n 0, 0, 0) else none) else (bif Nat.beq pc 11 then some (.getfield 24, 0, 0) else none)))) else (bif Nat.blt pc 20 then (bif Nat.blt pc 16 then (bif Nat.blt pc 15 then (bif Nat.beq pc 14 then some (.iload_n 1, 0, 0) else none) else (bif Nat.beq pc 15 then some (.iaload, 0, 0) else none)) else (bif Nat.blt pc 17 then (bif Nat.beq pc 16 then some (.iconst 2, 0, 2) else none) else (bif Nat.beq pc 17 then some (.if_icmp .ne 7, 24, 0) else none))) else (bif Nat.blt pc 24 then (bif Nat.blt pc 21 then (bif Nat.beq pc 20 then some (.iconst 1, 0, 1) else none) else (bif Nat.beq pc 21 then some (.goto 4, 25, 0) else none)) else (bif Nat.blt pc 25 then (bif Nat.beq pc 24 then some (.iconst 0, 0, 0) else none) else (bif Nat.beq pc 25 then some (.ireturn, 0, 0) else none))))
def z_c4 (pc : Nat) : Option (Instr × Nat × Int32) := bif Nat.blt pc 15 then (bif Nat.blt pc 5 then (bif Nat.blt pc 2 then (bif Nat.blt pc 1 then (bif Nat.beq pc 0 then some (.iconst 0, 0, 0) else none) else (bif Nat.beq pc 1 then some (.istore_n 2, 0, 0) else none)) else (bif Nat.blt pc 3 then (bif Nat.beq pc 2 then some (.iconst 0, 0, 0) else none) else (bif Nat.blt pc 4 then (bif Nat.beq pc 3 then some (.istore_n 3, 0, 0) else none) else (bif Nat.beq pc 4 then some (.iload_n 3, 0, 0) else none)))) else (bif Nat.blt pc 10 then (bif Nat.blt pc 6 then (bif Nat.beq pc 5 then some (.iconst 4, 0, 4) else none) else (bif Nat.blt pc 9 then (bif Nat.beq pc 6 then some (.if_icmp .ge 25, 31, 0) else none) else (bif Nat.beq pc 9 then some (.aload_n 0, 0, 0) else none))) else (bif Nat.blt pc 13 then (bif Nat.beq pc 10 then some (.getfield 24, 0, 0) else none) else (bif Nat.blt pc 14 then (bif Nat.beq pc 13 then some (.iload_n 3, 0, 0) else none) else (bif Nat.beq pc 14 then some (.iaload, 0, 0) else none))))) else (bif Nat.blt pc 23 then (bif Nat.blt pc 20 then (bif Nat.blt pc 16 then (bif Nat.beq pc 15 then some (.iload_n 1, 0, 0) else none) else (bif Nat.blt pc 19 then (bif Nat.beq pc 16 then some (.if_icmp .ne 9, 25, 0) else none) else (bif Nat.beq pc 19 then some (.iload_n 2, 0, 0) else none))) else (bif Nat.blt pc 21 then (bif Nat.beq pc 20 then some (.iconst 1, 0, 1) else none) else (bif Nat.blt pc 22 then (bif Nat.beq pc 21 then some (.iload_n 3, 0, 0) else none) else (bif Nat.beq pc 22 then some (.ishl, 0, 0) else none)))) else (bif Nat.blt pc 28 then (bif Nat.blt pc 24 then (bif Nat.beq pc 23 then some (.ior, 0, 0) else none) else (bif Nat.blt pc 25 then (bif Nat.beq pc 24 then some (.istore_n 2, 0, 0) else none) else (bif Nat.beq pc 25 then some (.iinc 3 1, 0, 1) else none))) else (bif Nat.blt pc 31 then (bif Nat.beq pc 28 then some (.goto (-24), 4, 0) else none) else (bif Nat.blt pc 32 then (bif Nat.beq pc 31 then some (.iload_n 2, 0, 0) else none) else (bif Nat.beq pc 32 then some (.ireturn, 0, 0) else none)))))
def z_c5 (pc : Nat) : Option (Instr × Nat × Int32) := bif Nat.blt pc 2 then (bif Nat.blt pc 1 then (bif Nat.beq pc 0 then some (.aload_n 0, 0, 0) else none) else (bif Nat.beq pc 1 then some (.iload_n 1, 0, 0) else none)) else (bif Nat.blt pc 5 then (bif Nat.beq pc 2 then some (.invokevirtual 48, 0, 0) else none) else (bif Nat.blt pc 8 then (bif Nat.beq pc 5 then some (.invokestatic 52, 0, 0) else none) else (bif Nat.beq pc 8 then some (.ireturn, 0, 0) else none)))
def z_c6 (pc : Nat) : Option (Instr × Nat × Int32) := bif Nat.blt pc 23 then (bif Nat.blt pc 11 then (bif Nat.blt pc 3 then (bif Nat.blt pc 1 then (bif Nat.beq pc 0 then some (.iconst 0, 0, 0) else none) else (bif Nat.blt pc 2 then (bif Nat.beq pc 1 then some (.istore_n 1, 0, 0) else none) else (bif Nat.beq pc 2 then some (.iload_n 1, 0, 0) else none))) else (bif Nat.blt pc 7 then (bif Nat.blt pc 4 then (bif Nat.beq pc 3 then some (.iconst 4, 0, 4) else none) else (bif Nat.beq pc 4 then some (.if_icmp .ge 44, 48, 0) else none)) else (bif Nat.blt pc 8 then (bif Nat.beq pc 7 then some (.aload_n 0, 0, 0) else none) else (bif Nat.beq pc 8 then some (.getfield 24, 0, 0) else none)))) else (bif Nat.blt pc 17 then (bif Nat.blt pc 13 then (bif Nat.blt pc 12 then (bif Nat.beq pc 11 then some (.iload_n 1, 0, 0) else none) else (bif Nat.beq pc 12 then some (.iaload, 0, 0) else none)) else (bif Nat.blt pc 14 then (bif Nat.beq pc 13 then some (.iconst 1, 0, 1) else none) else (bif Nat.beq pc 14 then some (.if_icmp .ne 28, 42, 0) else none))) else (bif Nat.blt pc 21 then (bif Nat.blt pc 18 then (bif Nat.beq pc 17 then some (.aload_n 0, 0, 0) else none) else (bif Nat.beq pc 18 then some (.getfield 27, 0, 0) else none)) else (bif Nat.blt pc 22 then (bif Nat.beq pc 21 then some (.iload_n 1, 0, 0) else none) else (bif Nat.beq pc 22 then some (.dup2, 0, 0) else none))))) else (bif Nat.blt pc 33 then (bif Nat.blt pc 27 then (bif Nat.blt pc 25 then (bif Nat.blt pc 24 then (bif Nat.beq pc 23 then some (.iaload, 0, 0) else none) else (bif Nat.beq pc 24 then some (.iconst 1, 0, 1) else none)) else (bif Nat.blt pc 26 then (bif Nat.beq pc 25 then some (.isub, 0, 0) else none) else (bif Nat.beq pc 26 then some (.iastore, 0, 0) else none))) else (bif Nat.blt pc 31 then (bif Nat.blt pc 28 then (bif Nat.beq pc 27 then some (.aload_n 0, 0, 0) else none) else (bif Nat.beq pc 28 then some (.getfield 27, 0, 0) else none)) else (bif Nat.blt pc 32 then (bif Nat.beq pc 31 then some (.iload_n 1, 0, 0) else none) else (bif Nat.beq pc 32 then some (.iaload, 0, 0) else none)))) else (bif Nat.blt pc 39 then (bif Nat.blt pc 37 then (bif Nat.blt pc 36 then (bif Nat.beq pc 33 then some (.ifCond .gt 9, 42, 0) else none) else (bif Nat.beq pc 36 then some (.aload_n 0, 0, 0) else none)) else (bif Nat.blt pc 38 then (bif Nat.beq pc 37 then some (.iload_n 1, 0, 0) else none) else (bif Nat.beq pc 38 then some (.iconst 2, 0, 2) else none))) else (bif Nat.blt pc 45 then (bif Nat.blt pc 42 then (bif Nat.beq pc 39 then some (.invokevirtual 57, 0, 0) else none) else (bif Nat.beq pc 42 then some (.iinc 1 1, 0, 1) else none)) else (bif Nat.blt pc 48 then (bif Nat.beq pc 45 then some (.goto (-43), 2, 0) else none) else (bif Nat.beq pc 48 then some (.return_, 0, 0) else none)))))
def z_c7 (pc : Nat) : Option (Instr × Nat × Int32) := bif Nat.blt pc 31 then (bif Nat.blt pc 14 then (bif Nat.blt pc 7 then (bif Nat.blt pc 2 then (bif Nat.blt pc 1 then (bif Nat.beq pc 0 then some (.iconst 0, 0, 0) else none) else (bif Nat.beq pc 1 then some (.istore_n 2, 0, 0) else none)) else (bif Nat.blt pc 3 then (bif Nat.beq pc 2 then some (.iload_n 2, 0, 0) else none) else (bif Nat.blt pc 4 then (bif Nat.beq pc 3 then some (.iconst 4, 0, 4) else none) else (bif Nat.beq pc 4 then some (.if_icmp .ge 57, 61, 0) else none)))) else (bif Nat.blt pc 9 then (bif Nat.blt pc 8 then (bif Nat.beq pc 7 then some (.iload_n 2, 0, 0) else none) else (bif Nat.beq pc 8 then some (.aload_n 1, 0, 0) else none)) else (bif Nat.blt pc 10 then (bif Nat.beq pc 9 then some (.arraylength, 0, 0) else none) else (bif Nat.blt pc 13 then (bif Nat.beq pc 10 then some (.if_icmp .ge 51, 61, 0) else none) else (bif Nat.beq pc 13 then some (.aload_n 0, 0, 0) else none))))) else (bif Nat.blt pc 23 then (bif Nat.blt pc 18 then (bif Nat.blt pc 17 then (bif Nat.beq pc 14 then some (.getfield 24, 0, 0) else none) else (bif Nat.beq pc 17 then some (.iload_n 2, 0, 0) else none)) else (bif Nat.blt pc 19 then (bif Nat.beq pc 18 then some (.iaload, 0, 0) else none) else (bif Nat.blt pc 20 then (bif Nat.beq pc 19 then some (.iconst 2, 0, 2) else none) else (bif Nat.beq pc 20 then some (.if_icmp .ne 35, 55, 0) else none)))) else (bif Nat.blt pc 28 then (bif Nat.blt pc 24 then (bif Nat.beq pc 23 then some (.aload_n 0, 0, 0) else none) else (bif Nat.blt pc 27 then (bif Nat.beq pc 24 then some (.getfield 30, 0, 0) else none) else (bif Nat.beq pc 27 then some (.iload_n 2, 0, 0) else none))) else (bif Nat.blt pc 29 then (bif Nat.beq pc 28 then some (.dup2, 0, 0) else none) else (bif Nat.blt pc 30 then (bif Nat.beq pc 29 then some (.iaload, 0, 0) else none) else (bif Nat.beq pc 30 then some (.aload_n 0, 0, 0) else none)))))) else (bif Nat.blt pc 45 then (bif Nat.blt pc 38 then (bif Nat.blt pc 35 then (bif Nat.blt pc 34 then (bif Nat.beq pc 31 then some (.getfield 18, 0, 0) else none) else (bif Nat.beq pc 34 then some (.iload_n 2, 0, 0) else none)) else (bif Nat.blt pc 36 then (bif Nat.beq pc 35 then some (.iaload, 0, 0) else none) else (bif Nat.blt pc 37 then (bif Nat.beq pc 36 then some (.aload_n 1, 0, 0) else none) else (bif Nat.beq pc 37 then some (.iload_n 2, 0, 0) else none)))) else (bif Nat.blt pc 42 then (bif Nat.blt pc 39 then (bif Nat.beq pc 38 then some (.iaload, 0, 0) else none) else (bif Nat.blt pc 40 then (bif Nat.beq pc 39 then some (.imul, 0, 0) else none) else (bif Nat.beq pc 40 then some (.bipush 10, 0, 10) else none))) else (bif Nat.blt pc 43 then (bif Nat.beq pc 42 then some (.idiv, 0, 0) else none) else (bif Nat.blt pc 44 then (bif Nat.beq pc 43 then some (.iadd, 0, 0) else none) else (bif Nat.beq pc 44 then some (.iastore, 0, 0) else none))))) else (bif Nat.blt pc 52 then (bif Nat.blt pc 49 then (bif Nat.blt pc 46 then (bif Nat.beq pc 45 then some (.aload_n 0, 0, 0) else none) else (bif Nat.beq pc 46 then some (.getfield 33, 0, 0) else none)) else (bif Nat.blt pc 50 then (bif Nat.beq pc 49 then some (.iload_n 2, 0, 0) else none) else (bif Nat.blt pc 51 then (bif Nat.beq pc 50 then some (.dup2, 0, 0) else none) else (bif Nat.beq pc 51 then some (.iaload, 0, 0) else none)))) else (bif Nat.blt pc 55 then (bif Nat.blt pc 53 then (bif Nat.beq pc 52 then some (.iconst 1, 0, 1) else none) else (bif Nat.blt pc 54 then (bif Nat.beq pc 53 then some (.iadd, 0, 0) else none) else (bif Nat.beq pc 54 then some (.iastore, 0, 0) else none))) else (bif Nat.blt pc 58 then (bif Nat.beq pc 55 then some (.iinc 2 1, 0, 1) else none) else (bif Nat.blt pc 61 then (bif Nat.beq pc 58 then some (.goto (-56), 2, 0) else none) else (bif Nat.beq pc 61 then some (.return_, 0, 0) else none))))))
def z_c8 (pc : Nat) : Option (Instr × Nat × Int32) := bif Nat.blt pc 20 then (bif Nat.blt pc 9 then (bif Nat.blt pc 3 then (bif Nat.blt pc 1 then (bif Nat.beq pc 0 then some (.iconst 0, 0, 0) else none) else (bif Nat.blt pc 2 then (bif Nat.beq pc 1 then some (.istore_n 2, 0, 0) else none) else (bif Nat.beq pc 2 then some (.iconst 0, 0, 0) else none))) else (bif Nat.blt pc 5 then (bif Nat.blt pc 4 then (bif Nat.beq pc 3 then some (.istore_n 3, 0, 0) else none) else (bif Nat.beq pc 4 then some (.iload_n 3, 0, 0) else none)) else (bif Nat.blt pc 6 then (bif Nat.beq pc 5 then some (.iconst 4, 0, 4) else none) else (bif Nat.beq pc 6 then some (.if_icmp .ge 31, 37, 0) else none)))) else (bif Nat.blt pc 12 then (bif Nat.blt pc 10 then (bif Nat.beq pc 9 then some (.iload_n 3, 0, 0) else none) else (bif Nat.blt pc 11 then (bif Nat.beq pc 10 then some (.aload_n 1, 0, 0) else none) else (bif Nat.beq pc 11 then some (.arraylength, 0, 0) else none))) else (bif Nat.blt pc 16 then (bif Nat.blt pc 15 then (bif Nat.beq pc 12 then some (.if_icmp .ge 25, 37, 0) else none) else (bif Nat.beq pc 15 then some (.iload_n 2, 0, 0) else none)) else (bif Nat.blt pc 17 then (bif Nat.beq pc 16 then some (.aload_n 0, 0, 0) else none) else (bif Nat.beq pc 17 then some (.getfield 18, 0, 0) else none))))) else (bif Nat.blt pc 28 then (bif Nat.blt pc 23 then (bif Nat.blt pc 21 then (bif Nat.beq pc 20 then some (.iload_n 3, 0, 0) else none) else (bif Nat.blt pc 22 then (bif Nat.beq pc 21 then some (.iaload, 0, 0) else none) else (bif Nat.beq pc 22 then some (.aload_n 1, 0, 0) else none))) else (bif Nat.blt pc 25 then (bif Nat.blt pc 24 then (bif Nat.beq pc 23 then some (.iload_n 3, 0, 0) else none) else (bif Nat.beq pc 24 then some (.iaload, 0, 0) else none)) else (bif Nat.blt pc 26 then (bif Nat.beq pc 25 then some (.imul, 0, 0) else none) else (bif Nat.beq pc 26 then some (.bipush 10, 0, 10) else none)))) else (bif Nat.blt pc 31 then (bif Nat.blt pc 29 then (bif Nat.beq pc 28 then some (.idiv, 0, 0) else none) else (bif Nat.blt pc 30 then (bif Nat.beq pc 29 then some (.iadd, 0, 0) else none) else (bif Nat.beq pc 30 then some (.istore_n 2, 0, 0) else none))) else (bif Nat.blt pc 37 then (bif Nat.blt pc 34 then (bif Nat.beq pc 31 then some (.iinc 3 1, 0, 1) else none) else (bif Nat.beq pc 34 then some (.goto (-30), 4, 0) else none)) else (bif Nat.blt pc 38 then (bif Nat.beq pc 37 then some (.iload_n 2, 0, 0) else none) else (bif Nat.beq pc 38 then some (.ireturn, 0, 0) else none)))))
def z_c9 (pc : Nat) : Option (Instr × Nat × Int32) := bif Nat.blt pc 11 then (bif Nat.blt pc 4 then (bif Nat.blt pc 2 then (bif Nat.blt pc 1 then (bif Nat.beq pc 0 then some (.iconst 0, 0, 0) else none) else (bif Nat.beq pc 1 then some (.istore_n 1, 0, 0) else none)) else (bif Nat.blt pc 3 then (bif Nat.beq pc 2 then some (.iconst 0, 0, 0) else none) else (bif Nat.beq pc 3 then some (.istore_n 2, 0, 0) else none))) else (bif Nat.blt pc 6 then (bif Nat.blt pc 5 then (bif Nat.beq pc 4 then some (.iload_n 2, 0, 0) else none) else (bif Nat.beq pc 5 then some (.iconst 4, 0, 4) else none)) else (bif Nat.blt pc 9 then (bif Nat.beq pc 6 then some (.if_icmp .ge 18, 24, 0) else none) else (bif Nat.blt pc 10 then (bif Nat.beq pc 9 then some (.iload_n 1, 0, 0) else none) else (bif Nat.beq pc 10 then some (.aload_n 0, 0, 0) else none))))) else (bif Nat.blt pc 17 then (bif Nat.blt pc 15 then (bif Nat.blt pc 14 then (bif Nat.beq pc 11 then some (.getfield 30, 0, 0) else none) else (bif Nat.beq pc 14 then some (.iload_n 2, 0, 0) else none)) else (bif Nat.blt pc 16 then (bif Nat.beq pc 15 then some (.iaload, 0, 0) else none) else (bif Nat.beq pc 16 then some (.iadd, 0, 0) else none))) else (bif Nat.blt pc 21 then (bif Nat.blt pc 18 then (bif Nat.beq pc 17 then some (.istore_n 1, 0, 0) else none) else (bif Nat.beq pc 18 then some (.iinc 2 1, 0, 1) else none)) else (bif Nat.blt pc 24 then (bif Nat.beq pc 21 then some (.goto (-17), 4, 0) else none) else (bif Nat.blt pc 25 then (bif Nat.beq pc 24 then some (.iload_n 1, 0, 0) else none) else (bif Nat.beq pc 25 then some (.ireturn, 0, 0) else none)))))
def z_c10 (pc : Nat) : Option (Instr × Nat × Int32) := bif Nat.blt pc 27 then (bif Nat.blt pc 11 then (bif Nat.blt pc 4 then (bif Nat.blt pc 2 then (bif Nat.blt pc 1 then (bif Nat.beq pc 0 then some (.iconst (-1), 0, (-1)) else none) else (bif Nat.beq pc 1 then some (.istore_n 2, 0, 0) else none)) else (bif Nat.blt pc 3 then (bif Nat.beq pc 2 then some (.iconst 0, 0, 0) else none) else (bif Nat.beq pc 3 then some (.istore_n 3, 0, 0) else none))) else (bif Nat.blt pc 6 then (bif Nat.blt pc 5 then (bif Nat.beq pc 4 then some (.iload_n 3, 0, 0) else none) else (bif Nat.beq pc 5 then some (.iconst 4, 0, 4) else none)) else (bif Nat.blt pc 9 then (bif Nat.beq pc 6 then some (.if_icmp .ge 52, 58, 0) else none) else (bif Nat.blt pc 10 then (bif Nat.beq pc 9 then some (.iload_n 1, 0, 0) else none) else (bif Nat.beq pc 10 then some (.iload_n 3, 0, 0) else none))))) else (bif Nat.blt pc 18 then (bif Nat.blt pc 13 then (bif Nat.blt pc 12 then (bif Nat.beq pc 11 then some (.ishr, 0, 0) else none) else (bif Nat.beq pc 12 then some (.iconst 1, 0, 1) else none)) else (bif Nat.blt pc 14 then (bif Nat.beq pc 13 then some (.iand, 0, 0) else none) else (bif Nat.blt pc 15 then (bif Nat.beq pc 14 then some (.iconst 1, 0, 1) else none) else (bif Nat.beq pc 15 then some (.if_icmp .ne 7, 22, 0) else none)))) else (bif Nat.blt pc 22 then (bif Nat.blt pc 19 then (bif Nat.beq pc 18 then some (.iconst 1, 0, 1) else none) else (bif Nat.beq pc 19 then some (.goto 4, 23, 0) else none)) else (bif Nat.blt pc 23 then (bif Nat.beq pc 22 then some (.iconst 0, 0, 0) else none) else (bif Nat.blt pc 25 then (bif Nat.beq pc 23 then some (.istore 4, 0, 0) else none) else (bif Nat.beq pc 25 then some (.iload 4, 0, 0) else none)))))) else (bif Nat.blt pc 42 then (bif Nat.blt pc 35 then (bif Nat.blt pc 31 then (bif Nat.blt pc 30 then (bif Nat.beq pc 27 then some (.ifCond .eq 25, 52, 0) else none) else (bif Nat.beq pc 30 then some (.iload_n 2, 0, 0) else none)) else (bif Nat.blt pc 32 then (bif Nat.beq pc 31 then some (.iconst (-1), 0, (-1)) else none) else (bif Nat.beq pc 32 then some (.if_icmp .eq 18, 50, 0) else none))) else (bif Nat.blt pc 39 then (bif Nat.blt pc 36 then (bif Nat.beq pc 35 then some (.aload_n 0, 0, 0) else none) else (bif Nat.beq pc 36 then some (.getfield 18, 0, 0) else none)) else (bif Nat.blt pc 40 then (bif Nat.beq pc 39 then some (.iload_n 3, 0, 0) else none) else (bif Nat.blt pc 41 then (bif Nat.beq pc 40 then some (.iaload, 0, 0) else none) else (bif Nat.beq pc 41 then some (.aload_n 0, 0, 0) else none))))) else (bif Nat.blt pc 51 then (bif Nat.blt pc 46 then (bif Nat.blt pc 45 then (bif Nat.beq pc 42 then some (.getfield 18, 0, 0) else none) else (bif Nat.beq pc 45 then some (.iload_n 2, 0, 0) else none)) else (bif Nat.blt pc 47 then (bif Nat.beq pc 46 then some (.iaload, 0, 0) else none) else (bif Nat.blt pc 50 then (bif Nat.beq pc 47 then some (.if_icmp .ge 5, 52, 0) else none) else (bif Nat.beq pc 50 then some (.iload_n 3, 0, 0) else none)))) else (bif Nat.blt pc 55 then (bif Nat.blt pc 52 then (bif Nat.beq pc 51 then some (.istore_n 2, 0, 0) else none) else (bif Nat.beq pc 52 then some (.iinc 3 1, 0, 1) else none)) else (bif Nat.blt pc 58 then (bif Nat.beq pc 55 then some (.goto (-51), 4, 0) else none) else (bif Nat.blt pc 59 then (bif Nat.beq pc 58 then some (.iload_n 2, 0, 0) else none) else (bif Nat.beq pc 59 then some (.ireturn, 0, 0) else none))))))
def z_c11 (pc : Nat) : Option (Instr × Nat × Int32) := bif Nat.blt pc 44 then (bif Nat.blt pc 23 then (bif Nat.blt pc 12 then (bif Nat.blt pc 5 then (bif Nat.blt pc 1 then (bif Nat.beq pc 0 then some (.aload_n 0, 0, 0) else none) else (bif Nat.blt pc 4 then (bif Nat.beq pc 1 then some (.getfield 12, 0, 0) else none) else (bif Nat.beq pc 4 then some (.aload_n 1, 0, 0) else none))) else (bif Nat.blt pc 8 then (bif Nat.beq pc 5 then some (.getfield 12, 0, 0) else none) else (bif Nat.blt pc 11 then (bif Nat.beq pc 8 then some (.invokevirtual 47, 0, 0) else none) else (bif Nat.beq pc 11 then some (.iconst 0, 0, 0) else none)))) else (bif Nat.blt pc 16 then (bif Nat.blt pc 13 then (bif Nat.beq pc 12 then some (.istore_n 2, 0, 0) else none) else (bif Nat.blt pc 14 then (bif Nat.beq pc 13 then some (.iload_n 2, 0, 0) else none) else (bif Nat.beq pc 14 then some (.bipush 7, 0, 7) else none))) else (bif Nat.blt pc 19 then (bif Nat.beq pc 16 then some (.if_icmp .ge 28, 44, 0) else none) else (bif Nat.blt pc 20 then (bif Nat.beq pc 19 then some (.aload_n 1, 0, 0) else none) else (bif Nat.beq pc 20 then some (.getfield 20, 0, 0) else none))))) else (bif Nat.blt pc 31 then (bif Nat.blt pc 26 then (bif Nat.blt pc 24 then (bif Nat.beq pc 23 then some (.iload_n 2, 0, 0) else none) else (bif Nat.blt pc 25 then (bif Nat.beq pc 24 then some (.aaload, 0, 0) else none) else (bif Nat.beq pc 25 then some (.iconst 0, 0, 0) else none))) else (bif Nat.blt pc 27 then (bif Nat.beq pc 26 then some (.aload_n 0, 0, 0) else none) else (bif Nat.blt pc 30 then (bif Nat.beq pc 27 then some (.getfield 20, 0, 0) else none) else (bif Nat.beq pc 30 then some (.iload_n 2, 0, 0) else none)))) else (bif Nat.blt pc 35 then (bif Nat.blt pc 32 then (bif Nat.beq pc 31 then some (.aaload, 0, 0) else none) else (bif Nat.blt pc 33 then (bif Nat.beq pc 32 then some (.iconst 0, 0, 0) else none) else (bif Nat.beq pc 33 then some (.bipush 48, 0, 48) else none))) else (bif Nat.blt pc 38 then (bif Nat.beq pc 35 then some (.invokestatic 51, 0, 0) else none) else (bif Nat.blt pc 41 then (bif Nat.beq pc 38 then some (.iinc 2 1, 0, 1) else none) else (bif Nat.beq pc 41 then some (.goto (-28), 13, 0) else none)))))) else (bif Nat.blt pc 66 then (bif Nat.blt pc 54 then (bif Nat.blt pc 49 then (bif Nat.blt pc 45 then (bif Nat.beq pc 44 then some (.aload_n 1, 0, 0) else none) else (bif Nat.blt pc 48 then (bif Nat.beq pc 45 then some (.getfield 23, 0, 0) else none) else (bif Nat.beq pc 48 then some (.iconst 0, 0, 0) else none))) else (bif Nat.blt pc 50 then (bif Nat.beq pc 49 then some (.aload_n 0, 0, 0) else none) else (bif Nat.blt pc 53 then (bif Nat.beq pc 50 then some (.getfield 23, 0, 0) else none) else (bif Nat.beq pc 53 then some (.iconst 0, 0, 0) else none)))) else (bif Nat.blt pc 59 then (bif Nat.blt pc 55 then (bif Nat.beq pc 54 then some (.iconst 2, 0, 2) else none) else (bif Nat.blt pc 58 then (bif Nat.beq pc 55 then some (.invokestatic 51, 0, 0) else none) else (bif Nat.beq pc 58 then some (.aload_n 0, 0, 0) else none))) else (bif Nat.blt pc 60 then (bif Nat.beq pc 59 then some (.aload_n 1, 0, 0) else none) else (bif Nat.blt pc 63 then (bif Nat.beq pc 60 then some (.getfield 27, 0, 0) else none) else (bif Nat.beq pc 63 then some (.putfield 27, 0, 0) else none))))) else (bif Nat.blt pc 76 then (bif Nat.blt pc 71 then (bif Nat.blt pc 67 then (bif Nat.beq pc 66 then some (.aload_n 0, 0, 0) else none) else (bif Nat.blt pc 68 then (bif Nat.beq pc 67 then some (.aload_n 1, 0, 0) else none) else (bif Nat.beq pc 68 then some (.getfield 31, 0, 0) else none))) else (bif Nat.blt pc 74 then (bif Nat.beq pc 71 then some (.putfield 31, 0, 0) else none) else (bif Nat.blt pc 75 then (bif Nat.beq pc 74 then some (.aload_n 0, 0, 0) else none) else (bif Nat.beq pc 75 then some (.aload_n 1, 0, 0) else none)))) else (bif Nat.blt pc 83 then (bif Nat.blt pc 79 then (bif Nat.beq pc 76 then some (.getfield 34, 0, 0) else none) else (bif Nat.blt pc 82 then (bif Nat.beq pc 79 then some (.putfield 34, 0, 0) else none) else (bif Nat.beq pc 82 then some (.aload_n 0, 0, 0) else none))) else (bif Nat.blt pc 87 then (bif Nat.blt pc 84 then (bif Nat.beq pc 83 then some (.aload_n 1, 0, 0) else none) else (bif Nat.beq pc 84 then some (.getfield 38, 0, 0) else none)) else (bif Nat.blt pc 90 then (bif Nat.beq pc 87 then some (.putfield 38, 0, 0) else none) else (bif Nat.beq pc 90 then some (.return_, 0, 0) else none))))))
def z_c12 (pc : Nat) : Option (Instr × Nat × Int32) := bif Nat.blt pc 4 then (bif Nat.blt pc 1 then (bif Nat.beq pc 0 then some (.aload_n 0, 0, 0) else none) else (bif Nat.beq pc 1 then some (.getfield 27, 0, 0) else none)) else (bif Nat.blt pc 6 then (bif Nat.beq pc 4 then some (.bipush 47, 0, 47) else none) else (bif Nat.blt pc 9 then (bif Nat.beq pc 6 then some (.invokestatic 57, 0, 0) else none) else (bif Nat.beq pc 9 then some (.ireturn, 0, 0) else none)))
def z_c13 (pc : Nat) : Option (Instr × Nat × Int32) := bif Nat.blt pc 8 then (bif Nat.blt pc 3 then (bif Nat.blt pc 1 then (bif Nat.beq pc 0 then some (.iload_n 1, 0, 0) else none) else (bif Nat.beq pc 1 then some (.bipush 48, 0, 48) else none)) else (bif Nat.blt pc 4 then (bif Nat.beq pc 3 then some (.aload_n 0, 0, 0) else none) else (bif Nat.blt pc 7 then (bif Nat.beq pc 4 then some (.getfield 27, 0, 0) else none) else (bif Nat.beq pc 7 then some (.isub, 0, 0) else none)))) else (bif Nat.blt pc 12 then (bif Nat.blt pc 11 then (bif Nat.beq pc 8 then some (.if_icmp .gt 7, 15, 0) else none) else (bif Nat.beq pc 11 then some (.iconst 1, 0, 1) else none)) else (bif Nat.blt pc 15 then (bif Nat.beq pc 12 then some (.goto 4, 16, 0) else none) else (bif Nat.blt pc 16 then (bif Nat.beq pc 15 then some (.iconst 0, 0, 0) else none) else (bif Nat.beq pc 16 then some (.ireturn, 0, 0) else none))))
def z_c14 (pc : Nat) : Option (Instr × Nat × Int32) := bif Nat.blt pc 12 then (bif Nat.blt pc 6 then (bif Nat.blt pc 4 then (bif Nat.blt pc 1 then (bif Nat.beq pc 0 then some (.aload_n 0, 0, 0) else none) else (bif Nat.beq pc 1 then some (.getfield 20, 0, 0) else none)) else (bif Nat.blt pc 5 then (bif Nat.beq pc 4 then some (.iconst 0, 0, 0) else none) else (bif Nat.beq pc 5 then some (.aaload, 0, 0) else none))) else (bif Nat.blt pc 8 then (bif Nat.blt pc 7 then (bif Nat.beq pc 6 then some (.iload_n 1, 0, 0) else none) else (bif Nat.beq pc 7 then some (.iaload, 0, 0) else none)) else (bif Nat.blt pc 9 then (bif Nat.beq pc 8 then some (.aload_n 0, 0, 0) else none) else (bif Nat.beq pc 9 then some (.getfield 38, 0, 0) else none)))) else (bif Nat.blt pc 20 then (bif Nat.blt pc 16 then (bif Nat.blt pc 15 then (bif Nat.beq pc 12 then some (.ifCond .eq 7, 19, 0) else none) else (bif Nat.beq pc 15 then some (.iconst 0, 0, 0) else none)) else (bif Nat.blt pc 19 then (bif Nat.beq pc 16 then some (.goto 9, 25, 0) else none) else (bif Nat.beq pc 19 then some (.aload_n 0, 0, 0) else none))) else (bif Nat.blt pc 24 then (bif Nat.blt pc 23 then (bif Nat.beq pc 20 then some (.getfield 23, 0, 0) else none) else (bif Nat.beq pc 23 then some (.iconst 0, 0, 0) else none)) else (bif Nat.blt pc 25 then (bif Nat.beq pc 24 then some (.iaload, 0, 0) else none) else (bif Nat.blt pc 26 then (bif Nat.beq pc 25 then some (.iadd, 0, 0) else none) else (bif Nat.beq pc 26 then some (.ireturn, 0, 0) else none)))))
def z_c15 (pc : Nat) : Option (Instr × Nat × Int32) := bif Nat.blt pc 11 then (bif Nat.blt pc 3 then (bif Nat.blt pc 1 then (bif Nat.beq pc 0 then some (.iconst 0, 0, 0) else none) else (bif Nat.blt pc 2 then (bif Nat.beq pc 1 then some (.istore_n 3, 0, 0) else none) else (bif Nat.beq pc 2 then some (.iload_n 3, 0, 0) else none))) else (bif Nat.blt pc 7 then (bif Nat.blt pc 4 then (bif Nat.beq pc 3 then some (.iload_n 1, 0, 0) else none) else (bif Nat.beq pc 4 then some (.if_icmp .ge 23, 27, 0) else none)) else (bif Nat.blt pc 8 then (bif Nat.beq pc 7 then some (.aload_n 0, 0, 0) else none) else (bif Nat.beq pc 8 then some (.getfield 27, 0, 0) else none)))) else (bif Nat.blt pc 18 then (bif Nat.blt pc 16 then (bif Nat.blt pc 13 then (bif Nat.beq pc 11 then some (.bipush 48, 0, 48) else none) else (bif Nat.beq pc 13 then some (.if_icmp .ge 14, 27, 0) else none)) else (bif Nat.blt pc 17 then (bif Nat.beq pc 16 then some (.aload_n 0, 0, 0) else none) else (bif Nat.beq pc 17 then some (.aload_n 2, 0, 0) else none))) else (bif Nat.blt pc 24 then (bif Nat.blt pc 21 then (bif Nat.beq pc 18 then some (.invokevirtual 63, 0, 0) else none) else (bif Nat.beq pc 21 then some (.iinc 3 1, 0, 1) else none)) else (bif Nat.blt pc 27 then (bif Nat.beq pc 24 then some (.goto (-22), 2, 0) else none) else (bif Nat.beq pc 27 then some (.return_, 0, 0) else none))))
def z_c16 (pc : Nat) : Option (Instr × Nat × Int32) := bif Nat.blt pc 73 then (bif Nat.blt pc 39 then (bif Nat.blt pc 20 then (bif Nat.blt pc 9 then (bif Nat.blt pc 4 then (bif Nat.blt pc 1 then (bif Nat.beq pc 0 then some (.aload_n 0, 0, 0) else none) else (bif Nat.beq pc 1 then some (.getfield 12, 0, 0) else none)) else (bif Nat.blt pc 7 then (bif Nat.beq pc 4 then some (.invokevirtual 67, 0, 0) else none) else (bif Nat.blt pc 8 then (bif Nat.beq pc 7 then some (.aload_n 0, 0, 0) else none) else (bif Nat.beq pc 8 then some (.aload_n 0, 0, 0) else none)))) else (bif Nat.blt pc 15 then (bif Nat.blt pc 12 then (bif Nat.beq pc 9 then some (.getfield 27, 0, 0) else none) else (bif Nat.beq pc 12 then some (.invokevirtual 70, 0, 0) else none)) else (bif Nat.blt pc 16 then (bif Nat.beq pc 15 then some (.istore_n 2, 0, 0) else none) else (bif Nat.blt pc 17 then (bif Nat.beq pc 16 then some (.aload_n 0, 0, 0) else none) else (bif Nat.beq pc 17 then some (.getfield 12, 0, 0) else none))))) else (bif Nat.blt pc 27 then (bif Nat.blt pc 24 then (bif Nat.blt pc 21 then (bif Nat.beq pc 20 then some (.iconst 2, 0, 2) else none) else (bif Nat.beq pc 21 then some (.invokevirtual 74, 0, 0) else none)) else (bif Nat.blt pc 25 then (bif Nat.beq pc 24 then some (.istore_n 3, 0, 0) else none) else (bif Nat.blt pc 26 then (bif Nat.beq pc 25 then some (.aload_n 1, 0, 0) else none) else (bif Nat.beq pc 26 then some (.aload_n 0, 0, 0) else none)))) else (bif Nat.blt pc 32 then (bif Nat.blt pc 30 then (bif Nat.beq pc 27 then some (.getfield 12, 0, 0) else none) else (bif Nat.blt pc 31 then (bif Nat.beq pc 30 then some (.iload_n 3, 0, 0) else none) else (bif Nat.beq pc 31 then some (.iload_n 2, 0, 0) else none))) else (bif Nat.blt pc 35 then (bif Nat.beq pc 32 then some (.invokevirtual 77, 0, 0) else none) else (bif Nat.blt pc 36 then (bif Nat.beq pc 35 then some (.aload_n 0, 0, 0) else none) else (bif Nat.beq pc 36 then some (.getfield 20, 0, 0) else none)))))) else (bif Nat.blt pc 54 then (bif Nat.blt pc 46 then (bif Nat.blt pc 41 then (bif Nat.blt pc 40 then (bif Nat.beq pc 39 then some (.iconst 1, 0, 1) else none) else (bif Nat.beq pc 40 then some (.aaload, 0, 0) else none)) else (bif Nat.blt pc 42 then (bif Nat.beq pc 41 then some (.aload_n 0, 0, 0) else none) else (bif Nat.blt pc 45 then (bif Nat.beq pc 42 then some (.getfield 27, 0, 0) else none) else (bif Nat.beq pc 45 then some (.iload_n 2, 0, 0) else none)))) else (bif Nat.blt pc 51 then (bif Nat.blt pc 47 then (bif Nat.beq pc 46 then some (.iastore, 0, 0) else none) else (bif Nat.blt pc 48 then (bif Nat.beq pc 47 then some (.aload_n 0, 0, 0) else none) else (bif Nat.beq pc 48 then some (.getfield 20, 0, 0) else none))) else (bif Nat.blt pc 52 then (bif Nat.beq pc 51 then some (.iconst 2, 0, 2) else none) else (bif Nat.blt pc 53 then (bif Nat.beq pc 52 then some (.aaload, 0, 0) else none) else (bif Nat.beq pc 53 then some (.aload_n 0, 0, 0) else none))))) else (bif Nat.blt pc 63 then (bif Nat.blt pc 58 then (bif Nat.blt pc 57 then (bif Nat.beq pc 54 then some (.getfield 27, 0, 0) else none) else (bif Nat.beq pc 57 then some (.aload_n 1, 0, 0) else none)) else (bif Nat.blt pc 61 then (bif Nat.beq pc 58 then some (.getfield 83, 0, 0) else none) else (bif Nat.blt pc 62 then (bif Nat.beq pc 61 then some (.iastore, 0, 0) else none) else (bif Nat.beq pc 62 then some (.aload_n 0, 0, 0) else none)))) else (bif Nat.blt pc 68 then (bif Nat.blt pc 66 then (bif Nat.beq pc 63 then some (.getfield 20, 0, 0) else none) else (bif Nat.blt pc 67 then (bif Nat.beq pc 66 then some (.iconst 3, 0, 3) else none) else (bif Nat.beq pc 67 then some (.aaload, 0, 0) else none))) else (bif Nat.blt pc 69 then (bif Nat.beq pc 68 then some (.aload_n 0, 0, 0) else none) else (bif Nat.blt pc 72 then (bif Nat.beq pc 69 then some (.getfield 27, 0, 0) else none) else (bif Nat.beq pc 72 then some (.aload_n 1, 0, 0) else none))))))) else (bif Nat.blt pc 110 then (bif Nat.blt pc 91 then (bif Nat.blt pc 82 then (bif Nat.blt pc 77 then (bif Nat.blt pc 76 then (bif Nat.beq pc 73 then some (.getfield 86, 0, 0) else none) else (bif Nat.beq pc 76 then some (.iastore, 0, 0) else none)) else (bif Nat.blt pc 78 then (bif Nat.beq pc 77 then some (.aload_n 0, 0, 0) else none) else (bif Nat.blt pc 81 then (bif Nat.beq pc 78 then some (.getfield 20, 0, 0) else none) else (bif Nat.beq pc 81 then some (.iconst 4, 0, 4) else none)))) else (bif Nat.blt pc 84 then (bif Nat.blt pc 83 then (bif Nat.beq pc 82 then some (.aaload, 0, 0) else none) else (bif Nat.beq pc 83 then some (.aload_n 0, 0, 0) else none)) else (bif Nat.blt pc 87 then (bif Nat.beq pc 84 then some (.getfield 27, 0, 0) else none) else (bif Nat.blt pc 88 then (bif Nat.beq pc 87 then some (.aload_n 1, 0, 0) else none) else (bif Nat.beq pc 88 then some (.getfield 89, 0, 0) else none))))) else (bif Nat.blt pc 98 then (bif Nat.blt pc 93 then (bif Nat.blt pc 92 then (bif Nat.beq pc 91 then some (.iastore, 0, 0) else none) else (bif Nat.beq pc 92 then some (.aload_n 0, 0, 0) else none)) else (bif Nat.blt pc 96 then (bif Nat.beq pc 93 then some (.getfield 20, 0, 0) else none) else (bif Nat.blt pc 97 then (bif Nat.beq pc 96 then some (.iconst 5, 0, 5) else none) else (bif Nat.beq pc 97 then some (.aaload, 0, 0) else none)))) else (bif Nat.blt pc 103 then (bif Nat.blt pc 99 then (bif Nat.beq pc 98 then some (.aload_n 0, 0, 0) else none) else (bif Nat.blt pc 102 then (bif Nat.beq pc 99 then some (.getfield 27, 0, 0) else none) else (bif Nat.beq pc 102 then some (.aload_n 1, 0, 0) else none))) else (bif Nat.blt pc 106 then (bif Nat.beq pc 103 then some (.getfield 92, 0, 0) else none) else (bif Nat.blt pc 109 then (bif Nat.beq pc 106 then some (.invokestatic 95, 0, 0) else none) else (bif Nat.beq pc 109 then some (.iastore, 0, 0) else none)))))) else (bif Nat.blt pc 128 then (bif Nat.blt pc 118 then (bif Nat.blt pc 114 then (bif Nat.blt pc 111 then (bif Nat.beq pc 110 then some (.aload_n 0, 0, 0) else none) else (bif Nat.beq pc 111 then some (.getfield 20, 0, 0) else none)) else (bif Nat.blt pc 116 then (bif Nat.beq pc 114 then some (.bipush 6, 0, 6) else none) else (bif Nat.blt pc 117 then (bif Nat.beq pc 116 then some (.aaload, 0, 0) else none) else (bif Nat.beq pc 117 then some (.aload_n 0, 0, 0) else none)))) else (bif Nat.blt pc 123 then (bif Nat.blt pc 121 then (bif Nat.beq pc 118 then some (.getfield 27, 0, 0) else none) else (bif Nat.blt pc 122 then (bif Nat.beq pc 121 then some (.iload_n 3, 0, 0) else none) else (bif Nat.beq pc 122 then some (.iastore, 0, 0) else none))) else (bif Nat.blt pc 124 then (bif Nat.beq pc 123 then some (.aload_n 0, 0, 0) else none) else (bif Nat.blt pc 127 then (bif Nat.beq pc 124 then some (.getfield 12, 0, 0) else none) else (bif Nat.beq pc 127 then some (.aload_n 1, 0, 0) else none))))) else (bif Nat.blt pc 139 then (bif Nat.blt pc 134 then (bif Nat.blt pc 131 then (bif Nat.beq pc 128 then some (.getfield 99, 0, 0) else none) else (bif Nat.beq pc 131 then some (.invokevirtual 102, 0, 0) else none)) else (bif Nat.blt pc 135 then (bif Nat.beq pc 134 then some (.aload_n 0, 0, 0) else none) else (bif Nat.blt pc 138 then (bif Nat.beq pc 135 then some (.invokevirtual 106, 0, 0) else none) else (bif Nat.beq pc 138 then some (.aload_n 0, 0, 0) else none)))) else (bif Nat.blt pc 144 then (bif Nat.blt pc 140 then (bif Nat.beq pc 139 then some (.dup, 0, 0) else none) else (bif Nat.blt pc 143 then (bif Nat.beq pc 140 then some (.getfield 27, 0, 0) else none) else (bif Nat.beq pc 143 then some (.iconst 1, 0, 1) else none))) else (bif Nat.blt pc 145 then (bif Nat.beq pc 144 then some (.iadd, 0, 0) else none) else (bif Nat.blt pc 148 then (bif Nat.beq pc 145 then some (.putfield 27, 0, 0) else none) else (bif Nat.beq pc 148 then some (.return_, 0, 0) else none)))))))
def z_c17 (pc : Nat) : Option (Instr × Nat × Int32) := bif Nat.blt pc 30 then (bif Nat.blt pc 14 then (bif Nat.blt pc 8 then (bif Nat.blt pc 2 then (bif Nat.blt pc 1 then (bif Nat.beq pc 0 then some (.aload_n 0, 0, 0) else none) else (bif Nat.beq pc 1 then some (.aload_n 0, 0, 0) else none)) else (bif Nat.blt pc 5 then (bif Nat.beq pc 2 then some (.getfield 38, 0, 0) else none) else (bif Nat.beq pc 5 then some (.ifCond .eq 12, 17, 0) else none))) else (bif Nat.blt pc 12 then (bif Nat.blt pc 9 then (bif Nat.beq pc 8 then some (.aload_n 0, 0, 0) else none) else (bif Nat.beq pc 9 then some (.getfield 31, 0, 0) else none)) else (bif Nat.blt pc 13 then (bif Nat.beq pc 12 then some (.iconst 1, 0, 1) else none) else (bif Nat.beq pc 13 then some (.iadd, 0, 0) else none)))) else (bif Nat.blt pc 22 then (bif Nat.blt pc 18 then (bif Nat.blt pc 17 then (bif Nat.beq pc 14 then some (.goto 13, 27, 0) else none) else (bif Nat.beq pc 17 then some (.aload_n 0, 0, 0) else none)) else (bif Nat.blt pc 21 then (bif Nat.beq pc 18 then some (.getfield 31, 0, 0) else none) else (bif Nat.beq pc 21 then some (.iconst 1, 0, 1) else none))) else (bif Nat.blt pc 24 then (bif Nat.blt pc 23 then (bif Nat.beq pc 22 then some (.isub, 0, 0) else none) else (bif Nat.beq pc 23 then some (.iconst 0, 0, 0) else none)) else (bif Nat.blt pc 27 then (bif Nat.beq pc 24 then some (.invokestatic 109, 0, 0) else none) else (bif Nat.beq pc 27 then some (.putfield 31, 0, 0) else none))))) else (bif Nat.blt pc 46 then (bif Nat.blt pc 38 then (bif Nat.blt pc 32 then (bif Nat.blt pc 31 then (bif Nat.beq pc 30 then some (.aload_n 0, 0, 0) else none) else (bif Nat.beq pc 31 then some (.aload_n 0, 0, 0) else none)) else (bif Nat.blt pc 35 then (bif Nat.beq pc 32 then some (.getfield 34, 0, 0) else none) else (bif Nat.beq pc 35 then some (.ifCond .ne 16, 51, 0) else none))) else (bif Nat.blt pc 42 then (bif Nat.blt pc 39 then (bif Nat.beq pc 38 then some (.aload_n 0, 0, 0) else none) else (bif Nat.beq pc 39 then some (.getfield 31, 0, 0) else none)) else (bif Nat.blt pc 43 then (bif Nat.beq pc 42 then some (.aload_n 0, 0, 0) else none) else (bif Nat.beq pc 43 then some (.getfield 23, 0, 0) else none)))) else (bif Nat.blt pc 52 then (bif Nat.blt pc 48 then (bif Nat.blt pc 47 then (bif Nat.beq pc 46 then some (.iconst 1, 0, 1) else none) else (bif Nat.beq pc 47 then some (.iaload, 0, 0) else none)) else (bif Nat.blt pc 51 then (bif Nat.beq pc 48 then some (.if_icmp .le 7, 55, 0) else none) else (bif Nat.beq pc 51 then some (.iconst 1, 0, 1) else none))) else (bif Nat.blt pc 56 then (bif Nat.blt pc 55 then (bif Nat.beq pc 52 then some (.goto 4, 56, 0) else none) else (bif Nat.beq pc 55 then some (.iconst 0, 0, 0) else none)) else (bif Nat.blt pc 59 then (bif Nat.beq pc 56 then some (.putfield 34, 0, 0) else none) else (bif Nat.beq pc 59 then some (.return_, 0, 0) else none)))))
def z_c18 (pc : Nat) : Option (Instr × Nat × Int32) := bif Nat.blt pc 23 then (bif Nat.blt pc 9 then (bif Nat.blt pc 3 then (bif Nat.blt pc 1 then (bif Nat.beq pc 0 then some (.iconst 0, 0, 0) else none) else (bif Nat.blt pc 2 then (bif Nat.beq pc 1 then some (.istore_n 1, 0, 0) else none) else (bif Nat.beq pc 2 then some (.iconst 0, 0, 0) else none))) else (bif Nat.blt pc 5 then (bif Nat.blt pc 4 then (bif Nat.beq pc 3 then some (.istore_n 2, 0, 0) else none) else (bif Nat.beq pc 4 then some (.iload_n 2, 0, 0) else none)) else (bif Nat.blt pc 6 then (bif Nat.beq pc 5 then some (.aload_n 0, 0, 0) else none) else (bif Nat.beq pc 6 then some (.getfield 27, 0, 0) else none)))) else (bif Nat.blt pc 15 then (bif Nat.blt pc 12 then (bif Nat.beq pc 9 then some (.if_icmp .ge 37, 46, 0) else none) else (bif Nat.blt pc 13 then (bif Nat.beq pc 12 then some (.iload_n 2, 0, 0) else none) else (bif Nat.beq pc 13 then some (.bipush 48, 0, 48) else none))) else (bif Nat.blt pc 19 then (bif Nat.blt pc 18 then (bif Nat.beq pc 15 then some (.if_icmp .ge 31, 46, 0) else none) else (bif Nat.beq pc 18 then some (.iload_n 1, 0, 0) else none)) else (bif Nat.blt pc 20 then (bif Nat.beq pc 19 then some (.aload_n 0, 0, 0) else none) else (bif Nat.beq pc 20 then some (.getfield 20, 0, 0) else none))))) else (bif Nat.blt pc 34 then (bif Nat.blt pc 26 then (bif Nat.blt pc 24 then (bif Nat.beq pc 23 then some (.iconst 2, 0, 2) else none) else (bif Nat.blt pc 25 then (bif Nat.beq pc 24 then some (.aaload, 0, 0) else none) else (bif Nat.beq pc 25 then some (.iload_n 2, 0, 0) else none))) else (bif Nat.blt pc 30 then (bif Nat.blt pc 27 then (bif Nat.beq pc 26 then some (.iaload, 0, 0) else none) else (bif Nat.beq pc 27 then some (.ifCond .le 7, 34, 0) else none)) else (bif Nat.blt pc 31 then (bif Nat.beq pc 30 then some (.iconst 1, 0, 1) else none) else (bif Nat.beq pc 31 then some (.goto 4, 35, 0) else none)))) else (bif Nat.blt pc 40 then (bif Nat.blt pc 38 then (bif Nat.blt pc 35 then (bif Nat.beq pc 34 then some (.iconst 0, 0, 0) else none) else (bif Nat.beq pc 35 then some (.invokestatic 95, 0, 0) else none)) else (bif Nat.blt pc 39 then (bif Nat.beq pc 38 then some (.iadd, 0, 0) else none) else (bif Nat.beq pc 39 then some (.istore_n 1, 0, 0) else none))) else (bif Nat.blt pc 46 then (bif Nat.blt pc 43 then (bif Nat.beq pc 40 then some (.iinc 2 1, 0, 1) else none) else (bif Nat.beq pc 43 then some (.goto (-39), 4, 0) else none)) else (bif Nat.blt pc 47 then (bif Nat.beq pc 46 then some (.iload_n 1, 0, 0) else none) else (bif Nat.beq pc 47 then some (.ireturn, 0, 0) else none)))))
def z_c19 (pc : Nat) : Option (Instr × Nat × Int32) := bif Nat.blt pc 19 then (bif Nat.blt pc 6 then (bif Nat.blt pc 3 then (bif Nat.blt pc 1 then (bif Nat.beq pc 0 then some (.iconst 0, 0, 0) else none) else (bif Nat.blt pc 2 then (bif Nat.beq pc 1 then some (.istore_n 1, 0, 0) else none) else (bif Nat.beq pc 2 then some (.iconst 0, 0, 0) else none))) else (bif Nat.blt pc 4 then (bif Nat.beq pc 3 then some (.istore_n 2, 0, 0) else none) else (bif Nat.blt pc 5 then (bif Nat.beq pc 4 then some (.iload_n 2, 0, 0) else none) else (bif Nat.beq pc 5 then some (.aload_n 0, 0, 0) else none)))) else (bif Nat.blt pc 13 then (bif Nat.blt pc 9 then (bif Nat.beq pc 6 then some (.getfield 27, 0, 0) else none) else (bif Nat.blt pc 12 then (bif Nat.beq pc 9 then some (.if_icmp .ge 26, 35, 0) else none) else (bif Nat.beq pc 12 then some (.iload_n 2, 0, 0) else none))) else (bif Nat.blt pc 15 then (bif Nat.beq pc 13 then some (.bipush 48, 0, 48) else none) else (bif Nat.blt pc 18 then (bif Nat.beq pc 15 then some (.if_icmp .ge 20, 35, 0) else none) else (bif Nat.beq pc 18 then some (.iload_n 1, 0, 0) else none))))) else (bif Nat.blt pc 27 then (bif Nat.blt pc 24 then (bif Nat.blt pc 20 then (bif Nat.beq pc 19 then some (.aload_n 0, 0, 0) else none) else (bif Nat.blt pc 23 then (bif Nat.beq pc 20 then some (.getfield 20, 0, 0) else none) else (bif Nat.beq pc 23 then some (.iconst 5, 0, 5) else none))) else (bif Nat.blt pc 25 then (bif Nat.beq pc 24 then some (.aaload, 0, 0) else none) else (bif Nat.blt pc 26 then (bif Nat.beq pc 25 then some (.iload_n 2, 0, 0) else none) else (bif Nat.beq pc 26 then some (.iaload, 0, 0) else none)))) else (bif Nat.blt pc 32 then (bif Nat.blt pc 28 then (bif Nat.beq pc 27 then some (.iadd, 0, 0) else none) else (bif Nat.blt pc 29 then (bif Nat.beq pc 28 then some (.istore_n 1, 0, 0) else none) else (bif Nat.beq pc 29 then some (.iinc 2 1, 0, 1) else none))) else (bif Nat.blt pc 35 then (bif Nat.beq pc 32 then some (.goto (-28), 4, 0) else none) else (bif Nat.blt pc 36 then (bif Nat.beq pc 35 then some (.iload_n 1, 0, 0) else none) else (bif Nat.beq pc 36 then some (.ireturn, 0, 0) else none)))))
def z_c20 (pc : Nat) : Option (Instr × Nat × Int32) := bif Nat.blt pc 18 then (bif Nat.blt pc 10 then (bif Nat.blt pc 5 then (bif Nat.blt pc 1 then (bif Nat.beq pc 0 then some (.aload_n 0, 0, 0) else none) else (bif Nat.blt pc 2 then (bif Nat.beq pc 1 then some (.iconst 0, 0, 0) else none) else (bif Nat.beq pc 2 then some (.putfield 21, 0, 0) else none))) else (bif Nat.blt pc 6 then (bif Nat.beq pc 5 then some (.aload_n 0, 0, 0) else none) else (bif Nat.blt pc 7 then (bif Nat.beq pc 6 then some (.iconst 0, 0, 0) else none) else (bif Nat.beq pc 7 then some (.putfield 25, 0, 0) else none)))) else (bif Nat.blt pc 13 then (bif Nat.blt pc 11 then (bif Nat.beq pc 10 then some (.iconst 0, 0, 0) else none) else (bif Nat.blt pc 12 then (bif Nat.beq pc 11 then some (.istore_n 3, 0, 0) else none) else (bif Nat.beq pc 12 then some (.iload_n 3, 0, 0) else none))) else (bif Nat.blt pc 14 then (bif Nat.beq pc 13 then some (.iload_n 2, 0, 0) else none) else (bif Nat.blt pc 17 then (bif Nat.beq pc 14 then some (.if_icmp .ge 25, 39, 0) else none) else (bif Nat.beq pc 17 then some (.iload_n 3, 0, 0) else none))))) else (bif Nat.blt pc 26 then (bif Nat.blt pc 23 then (bif Nat.blt pc 19 then (bif Nat.beq pc 18 then some (.aload_n 1, 0, 0) else none) else (bif Nat.blt pc 20 then (bif Nat.beq pc 19 then some (.arraylength, 0, 0) else none) else (bif Nat.beq pc 20 then some (.if_icmp .ge 19, 39, 0) else none))) else (bif Nat.blt pc 24 then (bif Nat.beq pc 23 then some (.aload_n 0, 0, 0) else none) else (bif Nat.blt pc 25 then (bif Nat.beq pc 24 then some (.aload_n 1, 0, 0) else none) else (bif Nat.beq pc 25 then some (.iload_n 3, 0, 0) else none)))) else (bif Nat.blt pc 33 then (bif Nat.blt pc 27 then (bif Nat.beq pc 26 then some (.iaload, 0, 0) else none) else (bif Nat.blt pc 30 then (bif Nat.beq pc 27 then some (.invokevirtual 28, 0, 0) else none) else (bif Nat.beq pc 30 then some (.ifCond .eq 9, 39, 0) else none))) else (bif Nat.blt pc 39 then (bif Nat.blt pc 36 then (bif Nat.beq pc 33 then some (.iinc 3 1, 0, 1) else none) else (bif Nat.beq pc 36 then some (.goto (-24), 12, 0) else none)) else (bif Nat.blt pc 40 then (bif Nat.beq pc 39 then some (.iload_n 3, 0, 0) else none) else (bif Nat.beq pc 40 then some (.ireturn, 0, 0) else none)))))
def z_c21 (pc : Nat) : Option (Instr × Nat × Int32) := bif Nat.blt pc 17 then (bif Nat.blt pc 9 then (bif Nat.blt pc 4 then (bif Nat.blt pc 1 then (bif Nat.beq pc 0 then some (.aload_n 0, 0, 0) else none) else (bif Nat.beq pc 1 then some (.getfield 25, 0, 0) else none)) else (bif Nat.blt pc 6 then (bif Nat.beq pc 4 then some (.bipush 8, 0, 8) else none) else (bif Nat.beq pc 6 then some (.if_icmp .eq 20, 26, 0) else none))) else (bif Nat.blt pc 13 then (bif Nat.blt pc 10 then (bif Nat.beq pc 9 then some (.aload_n 0, 0, 0) else none) else (bif Nat.beq pc 10 then some (.getfield 25, 0, 0) else none)) else (bif Nat.blt pc 14 then (bif Nat.beq pc 13 then some (.iconst 3, 0, 3) else none) else (bif Nat.beq pc 14 then some (.if_icmp .eq 12, 26, 0) else none)))) else (bif Nat.blt pc 26 then (bif Nat.blt pc 21 then (bif Nat.blt pc 18 then (bif Nat.beq pc 17 then some (.aload_n 0, 0, 0) else none) else (bif Nat.beq pc 18 then some (.getfield 25, 0, 0) else none)) else (bif Nat.blt pc 23 then (bif Nat.beq pc 21 then some (.bipush 7, 0, 7) else none) else (bif Nat.beq pc 23 then some (.if_icmp .ne 7, 30, 0) else none))) else (bif Nat.blt pc 30 then (bif Nat.blt pc 27 then (bif Nat.beq pc 26 then some (.iconst 1, 0, 1) else none) else (bif Nat.beq pc 27 then some (.goto 4, 31, 0) else none)) else (bif Nat.blt pc 31 then (bif Nat.beq pc 30 then some (.iconst 0, 0, 0) else none) else (bif Nat.beq pc 31 then some (.ireturn, 0, 0) else none))))
def z_c22 (pc : Nat) : Option (Instr × Nat × Int32) := bif Nat.blt pc 53 then (bif Nat.blt pc 27 then (bif Nat.blt pc 13 then (bif Nat.blt pc 7 then (bif Nat.blt pc 1 then (bif Nat.beq pc 0 then some (.aload_n 0, 0, 0) else none) else (bif Nat.blt pc 4 then (bif Nat.beq pc 1 then some (.getfield 25, 0, 0) else none) else (bif Nat.beq pc 4 then some (.ifCond .ne 9, 13, 0) else none))) else (bif Nat.blt pc 9 then (bif Nat.blt pc 8 then (bif Nat.beq pc 7 then some (.aload_n 0, 0, 0) else none) else (bif Nat.beq pc 8 then some (.iload_n 1, 0, 0) else none)) else (bif Nat.blt pc 12 then (bif Nat.beq pc 9 then some (.invokevirtual 32, 0, 0) else none) else (bif Nat.beq pc 12 then some (.ireturn, 0, 0) else none)))) else (bif Nat.blt pc 19 then (bif Nat.blt pc 14 then (bif Nat.beq pc 13 then some (.iload_n 1, 0, 0) else none) else (bif Nat.blt pc 16 then (bif Nat.beq pc 14 then some (.bipush 59, 0, 59) else none) else (bif Nat.beq pc 16 then some (.if_icmp .ne 17, 33, 0) else none))) else (bif Nat.blt pc 23 then (bif Nat.blt pc 20 then (bif Nat.beq pc 19 then some (.aload_n 0, 0, 0) else none) else (bif Nat.beq pc 20 then some (.invokevirtual 35, 0, 0) else none)) else (bif Nat.blt pc 26 then (bif Nat.beq pc 23 then some (.ifCond .eq 10, 33, 0) else none) else (bif Nat.beq pc 26 then some (.aload_n 0, 0, 0) else none))))) else (bif Nat.blt pc 39 then (bif Nat.blt pc 32 then (bif Nat.blt pc 28 then (bif Nat.beq pc 27 then some (.iconst 0, 0, 0) else none) else (bif Nat.blt pc 31 then (bif Nat.beq pc 28 then some (.putfield 25, 0, 0) else none) else (bif Nat.beq pc 31 then some (.iconst 1, 0, 1) else none))) else (bif Nat.blt pc 34 then (bif Nat.blt pc 33 then (bif Nat.beq pc 32 then some (.ireturn, 0, 0) else none) else (bif Nat.beq pc 33 then some (.iload_n 1, 0, 0) else none)) else (bif Nat.blt pc 36 then (bif Nat.beq pc 34 then some (.bipush 61, 0, 61) else none) else (bif Nat.beq pc 36 then some (.if_icmp .ne 19, 55, 0) else none)))) else (bif Nat.blt pc 44 then (bif Nat.blt pc 40 then (bif Nat.beq pc 39 then some (.aload_n 0, 0, 0) else none) else (bif Nat.blt pc 43 then (bif Nat.beq pc 40 then some (.getfield 25, 0, 0) else none) else (bif Nat.beq pc 43 then some (.iconst 5, 0, 5) else none))) else (bif Nat.blt pc 48 then (bif Nat.blt pc 47 then (bif Nat.beq pc 44 then some (.if_icmp .ne 11, 55, 0) else none) else (bif Nat.beq pc 47 then some (.aload_n 0, 0, 0) else none)) else (bif Nat.blt pc 50 then (bif Nat.beq pc 48 then some (.bipush 6, 0, 6) else none) else (bif Nat.beq pc 50 then some (.putfield 25, 0, 0) else none)))))) else (bif Nat.blt pc 76 then (bif Nat.blt pc 62 then (bif Nat.blt pc 56 then (bif Nat.blt pc 54 then (bif Nat.beq pc 53 then some (.iconst 1, 0, 1) else none) else (bif Nat.blt pc 55 then (bif Nat.beq pc 54 then some (.ireturn, 0, 0) else none) else (bif Nat.beq pc 55 then some (.aload_n 0, 0, 0) else none))) else (bif Nat.blt pc 60 then (bif Nat.blt pc 59 then (bif Nat.beq pc 56 then some (.getfield 21, 0, 0) else none) else (bif Nat.beq pc 59 then some (.iconst 1, 0, 1) else none)) else (bif Nat.blt pc 61 then (bif Nat.beq pc 60 then some (.isub, 0, 0) else none) else (bif Nat.beq pc 61 then some (.istore_n 2, 0, 0) else none)))) else (bif Nat.blt pc 67 then (bif Nat.blt pc 63 then (bif Nat.beq pc 62 then some (.iload_n 2, 0, 0) else none) else (bif Nat.blt pc 66 then (bif Nat.beq pc 63 then some (.ifCond .lt 36, 99, 0) else none) else (bif Nat.beq pc 66 then some (.iload_n 2, 0, 0) else none))) else (bif Nat.blt pc 72 then (bif Nat.blt pc 69 then (bif Nat.beq pc 67 then some (.bipush 60, 0, 60) else none) else (bif Nat.beq pc 69 then some (.if_icmp .ge 30, 99, 0) else none)) else (bif Nat.blt pc 74 then (bif Nat.beq pc 72 then some (.bipush 48, 0, 48) else none) else (bif Nat.beq pc 74 then some (.bipush 57, 0, 57) else none))))) else (bif Nat.blt pc 88 then (bif Nat.blt pc 83 then (bif Nat.blt pc 77 then (bif Nat.beq pc 76 then some (.iload_n 1, 0, 0) else none) else (bif Nat.blt pc 80 then (bif Nat.beq pc 77 then some (.invokestatic 39, 0, 0) else none) else (bif Nat.beq pc 80 then some (.ifCond .eq 19, 99, 0) else none))) else (bif Nat.blt pc 85 then (bif Nat.blt pc 84 then (bif Nat.beq pc 83 then some (.aload_n 0, 0, 0) else none) else (bif Nat.beq pc 84 then some (.iload_n 2, 0, 0) else none)) else (bif Nat.blt pc 86 then (bif Nat.beq pc 85 then some (.iload_n 1, 0, 0) else none) else (bif Nat.beq pc 86 then some (.bipush 48, 0, 48) else none)))) else (bif Nat.blt pc 95 then (bif Nat.blt pc 89 then (bif Nat.beq pc 88 then some (.isub, 0, 0) else none) else (bif Nat.blt pc 92 then (bif Nat.beq pc 89 then some (.invokevirtual 43, 0, 0) else none) else (bif Nat.beq pc 92 then some (.ifCond .eq 7, 99, 0) else none))) else (bif Nat.blt pc 99 then (bif Nat.blt pc 96 then (bif Nat.beq pc 95 then some (.iconst 1, 0, 1) else none) else (bif Nat.beq pc 96 then some (.goto 4, 100, 0) else none)) else (bif Nat.blt pc 100 then (bif Nat.beq pc 99 then some (.iconst 0, 0, 0) else none) else (bif Nat.beq pc 100 then some (.ireturn, 0, 0) else none))))))
def z_c23 (pc : Nat) : Option (Instr × Nat × Int32) := bif Nat.blt pc 99 then (bif Nat.blt pc 73 then (bif Nat.blt pc 11 then (bif Nat.blt pc 6 then (bif Nat.blt pc 1 then (bif Nat.beq pc 0 then some (.aload_n 0, 0, 0) else none) else (bif Nat.blt pc 4 then (bif Nat.beq pc 1 then some (.getfield 21, 0, 0) else none) else (bif Nat.beq pc 4 then some (.bipush 60, 0, 60) else none))) else (bif Nat.blt pc 9 then (bif Nat.beq pc 6 then some (.if_icmp .lt 5, 11, 0) else none) else (bif Nat.blt pc 10 then (bif Nat.beq pc 9 then some (.iconst 0, 0, 0) else none) else (bif Nat.beq pc 10 then some (.ireturn, 0, 0) else none)))) else (bif Nat.blt pc 65 then (bif Nat.blt pc 12 then (bif Nat.beq pc 11 then some (.iload_n 1, 0, 0) else none) else (bif Nat.blt pc 64 then (bif Nat.beq pc 12 then some (.lookupswitch 85 #[(43, 52), (45, 52), (102, 77), (104, 69), (115, 60)], 0, 0) else none) else (bif Nat.beq pc 64 then some (.aload_n 0, 0, 0) else none))) else (bif Nat.blt pc 69 then (bif Nat.blt pc 66 then (bif Nat.beq pc 65 then some (.iconst 1, 0, 1) else none) else (bif Nat.beq pc 66 then some (.putfield 25, 0, 0) else none)) else (bif Nat.blt pc 72 then (bif Nat.beq pc 69 then some (.goto 30, 99, 0) else none) else (bif Nat.beq pc 72 then some (.aload_n 0, 0, 0) else none))))) else (bif Nat.blt pc 86 then (bif Nat.blt pc 81 then (bif Nat.blt pc 75 then (bif Nat.beq pc 73 then some (.bipush 8, 0, 8) else none) else (bif Nat.blt pc 78 then (bif Nat.beq pc 75 then some (.putfield 25, 0, 0) else none) else (bif Nat.beq pc 78 then some (.goto 21, 99, 0) else none))) else (bif Nat.blt pc 82 then (bif Nat.beq pc 81 then some (.aload_n 0, 0, 0) else none) else (bif Nat.blt pc 83 then (bif Nat.beq pc 82 then some (.iconst 2, 0, 2) else none) else (bif Nat.beq pc 83 then some (.putfield 25, 0, 0) else none)))) else (bif Nat.blt pc 91 then (bif Nat.blt pc 89 then (bif Nat.beq pc 86 then some (.goto 13, 99, 0) else none) else (bif Nat.blt pc 90 then (bif Nat.beq pc 89 then some (.aload_n 0, 0, 0) else none) else (bif Nat.beq pc 90 then some (.iconst 4, 0, 4) else none))) else (bif Nat.blt pc 97 then (bif Nat.blt pc 94 then (bif Nat.beq pc 91 then some (.putfield 25, 0, 0) else none) else (bif Nat.beq pc 94 then some (.goto 5, 99, 0) else none)) else (bif Nat.blt pc 98 then (bif Nat.beq pc 97 then some (.iconst 0, 0, 0) else none) else (bif Nat.beq pc 98 then some (.ireturn, 0, 0) else none)))))) else (bif Nat.blt pc 120 then (bif Nat.blt pc 109 then (bif Nat.blt pc 104 then (bif Nat.blt pc 100 then (bif Nat.beq pc 99 then some (.aload_n 0, 0, 0) else none) else (bif Nat.blt pc 103 then (bif Nat.beq pc 100 then some (.getfield 9, 0, 0) else none) else (bif Nat.beq pc 103 then some (.aload_n 0, 0, 0) else none))) else (bif Nat.blt pc 107 then (bif Nat.beq pc 104 then some (.getfield 21, 0, 0) else none) else (bif Nat.blt pc 108 then (bif Nat.beq pc 107 then some (.iload_n 1, 0, 0) else none) else (bif Nat.beq pc 108 then some (.iastore, 0, 0) else none)))) else (bif Nat.blt pc 114 then (bif Nat.blt pc 110 then (bif Nat.beq pc 109 then some (.aload_n 0, 0, 0) else none) else (bif Nat.blt pc 113 then (bif Nat.beq pc 110 then some (.getfield 15, 0, 0) else none) else (bif Nat.beq pc 113 then some (.aload_n 0, 0, 0) else none))) else (bif Nat.blt pc 118 then (bif Nat.blt pc 117 then (bif Nat.beq pc 114 then some (.getfield 21, 0, 0) else none) else (bif Nat.beq pc 117 then some (.iconst 0, 0, 0) else none)) else (bif Nat.blt pc 119 then (bif Nat.beq pc 118 then some (.iastore, 0, 0) else none) else (bif Nat.beq pc 119 then some (.aload_n 0, 0, 0) else none))))) else (bif Nat.blt pc 130 then (bif Nat.blt pc 127 then (bif Nat.blt pc 123 then (bif Nat.beq pc 120 then some (.getfield 18, 0, 0) else none) else (bif Nat.blt pc 124 then (bif Nat.beq pc 123 then some (.aload_n 0, 0, 0) else none) else (bif Nat.beq pc 124 then some (.getfield 21, 0, 0) else none))) else (bif Nat.blt pc 128 then (bif Nat.beq pc 127 then some (.iconst 0, 0, 0) else none) else (bif Nat.blt pc 129 then (bif Nat.beq pc 128 then some (.iastore, 0, 0) else none) else (bif Nat.beq pc 129 then some (.aload_n 0, 0, 0) else none)))) else (bif Nat.blt pc 135 then (bif Nat.blt pc 131 then (bif Nat.beq pc 130 then some (.dup, 0, 0) else none) else (bif Nat.blt pc 134 then (bif Nat.beq pc 131 then some (.getfield 21, 0, 0) else none) else (bif Nat.beq pc 134 then some (.iconst 1, 0, 1) else none))) else (bif Nat.blt pc 139 then (bif Nat.blt pc 136 then (bif Nat.beq pc 135 then some (.iadd, 0, 0) else none) else (bif Nat.beq pc 136 then some (.putfield 21, 0, 0) else none)) else (bif Nat.blt pc 140 then (bif Nat.beq pc 139 then some (.iconst 1, 0, 1) else none) else (bif Nat.beq pc 140 then some (.ireturn, 0, 0) else none))))))
def z_c24 (pc : Nat) : Option (Instr × Nat × Int32) := bif Nat.blt pc 99 then (bif Nat.blt pc 71 then (bif Nat.blt pc 55 then (bif Nat.blt pc 49 then (bif Nat.blt pc 4 then (bif Nat.blt pc 1 then (bif Nat.beq pc 0 then some (.aload_n 0, 0, 0) else none) else (bif Nat.beq pc 1 then some (.getfield 25, 0, 0) else none)) else (bif Nat.blt pc 48 then (bif Nat.beq pc 4 then some (.tableswitch 149 1 7 #[44, 61, 109, 82, 122, 95, 135], 0, 0) else none) else (bif Nat.beq pc 48 then some (.aload_n 0, 0, 0) else none))) else (bif Nat.blt pc 53 then (bif Nat.blt pc 50 then (bif Nat.beq pc 49 then some (.aload_n 0, 0, 0) else none) else (bif Nat.beq pc 50 then some (.getfield 15, 0, 0) else none)) else (bif Nat.blt pc 54 then (bif Nat.beq pc 53 then some (.iload_n 1, 0, 0) else none) else (bif Nat.beq pc 54 then some (.iload_n 2, 0, 0) else none)))) else (bif Nat.blt pc 64 then (bif Nat.blt pc 59 then (bif Nat.blt pc 56 then (bif Nat.beq pc 55 then some (.iload_n 2, 0, 0) else none) else (bif Nat.beq pc 56 then some (.invokestatic 47, 0, 0) else none)) else (bif Nat.blt pc 61 then (bif Nat.beq pc 59 then some (.bipush 8, 0, 8) else none) else (bif Nat.beq pc 61 then some (.invokevirtual 50, 0, 0) else none))) else (bif Nat.blt pc 66 then (bif Nat.blt pc 65 then (bif Nat.beq pc 64 then some (.ireturn, 0, 0) else none) else (bif Nat.beq pc 65 then some (.aload_n 0, 0, 0) else none)) else (bif Nat.blt pc 67 then (bif Nat.beq pc 66 then some (.aload_n 0, 0, 0) else none) else (bif Nat.blt pc 70 then (bif Nat.beq pc 67 then some (.getfield 15, 0, 0) else none) else (bif Nat.beq pc 70 then some (.iload_n 1, 0, 0) else none)))))) else (bif Nat.blt pc 86 then (bif Nat.blt pc 77 then (bif Nat.blt pc 73 then (bif Nat.blt pc 72 then (bif Nat.beq pc 71 then some (.iload_n 2, 0, 0) else none) else (bif Nat.beq pc 72 then some (.iload_n 2, 0, 0) else none)) else (bif Nat.blt pc 76 then (bif Nat.beq pc 73 then some (.ifCond .le 7, 80, 0) else none) else (bif Nat.beq pc 76 then some (.iconst 1, 0, 1) else none))) else (bif Nat.blt pc 81 then (bif Nat.blt pc 80 then (bif Nat.beq pc 77 then some (.goto 4, 81, 0) else none) else (bif Nat.beq pc 80 then some (.iconst 0, 0, 0) else none)) else (bif Nat.blt pc 82 then (bif Nat.beq pc 81 then some (.iconst 3, 0, 3) else none) else (bif Nat.blt pc 85 then (bif Nat.beq pc 82 then some (.invokevirtual 50, 0, 0) else none) else (bif Nat.beq pc 85 then some (.ireturn, 0, 0) else none))))) else (bif Nat.blt pc 92 then (bif Nat.blt pc 88 then (bif Nat.blt pc 87 then (bif Nat.beq pc 86 then some (.aload_n 0, 0, 0) else none) else (bif Nat.beq pc 87 then some (.aload_n 0, 0, 0) else none)) else (bif Nat.blt pc 91 then (bif Nat.beq pc 88 then some (.getfield 15, 0, 0) else none) else (bif Nat.beq pc 91 then some (.iload_n 1, 0, 0) else none))) else (bif Nat.blt pc 94 then (bif Nat.blt pc 93 then (bif Nat.beq pc 92 then some (.iload_n 2, 0, 0) else none) else (bif Nat.beq pc 93 then some (.iconst 1, 0, 1) else none)) else (bif Nat.blt pc 95 then (bif Nat.beq pc 94 then some (.iconst 5, 0, 5) else none) else (bif Nat.blt pc 98 then (bif Nat.beq pc 95 then some (.invokevirtual 50, 0, 0) else none) else (bif Nat.beq pc 98 then some (.ireturn, 0, 0) else none))))))) else (bif Nat.blt pc 126 then (bif Nat.blt pc 112 then (bif Nat.blt pc 105 then (bif Nat.blt pc 101 then (bif Nat.blt pc 100 then (bif Nat.beq pc 99 then some (.aload_n 0, 0, 0) else none) else (bif Nat.beq pc 100 then some (.aload_n 0, 0, 0) else none)) else (bif Nat.blt pc 104 then (bif Nat.beq pc 101 then some (.getfield 18, 0, 0) else none) else (bif Nat.beq pc 104 then some (.iload_n 1, 0, 0) else none))) else (bif Nat.blt pc 107 then (bif Nat.blt pc 106 then (bif Nat.beq pc 105 then some (.iload_n 2, 0, 0) else none) else (bif Nat.beq pc 106 then some (.iconst 1, 0, 1) else none)) else (bif Nat.blt pc 109 then (bif Nat.beq pc 107 then some (.bipush 7, 0, 7) else none) else (bif Nat.beq pc 109 then some (.invokevirtual 50, 0, 0) else none)))) else (bif Nat.blt pc 118 then (bif Nat.blt pc 114 then (bif Nat.blt pc 113 then (bif Nat.beq pc 112 then some (.ireturn, 0, 0) else none) else (bif Nat.beq pc 113 then some (.aload_n 0, 0, 0) else none)) else (bif Nat.blt pc 115 then (bif Nat.beq pc 114 then some (.aload_n 0, 0, 0) else none) else (bif Nat.beq pc 115 then some (.getfield 15, 0, 0) else none))) else (bif Nat.blt pc 120 then (bif Nat.blt pc 119 then (bif Nat.beq pc 118 then some (.iload_n 1, 0, 0) else none) else (bif Nat.beq pc 119 then some (.iload_n 2, 0, 0) else none)) else (bif Nat.blt pc 122 then (bif Nat.beq pc 120 then some (.bipush 48, 0, 48) else none) else (bif Nat.blt pc 125 then (bif Nat.beq pc 122 then some (.invokevirtual 54, 0, 0) else none) else (bif Nat.beq pc 125 then some (.ireturn, 0, 0) else none)))))) else (bif Nat.blt pc 140 then (bif Nat.blt pc 132 then (bif Nat.blt pc 128 then (bif Nat.blt pc 127 then (bif Nat.beq pc 126 then some (.aload_n 0, 0, 0) else none) else (bif Nat.beq pc 127 then some (.aload_n 0, 0, 0) else none)) else (bif Nat.blt pc 131 then (bif Nat.beq pc 128 then some (.getfield 15, 0, 0) else none) else (bif Nat.beq pc 131 then some (.iload_n 1, 0, 0) else none))) else (bif Nat.blt pc 135 then (bif Nat.blt pc 133 then (bif Nat.beq pc 132 then some (.iload_n 2, 0, 0) else none) else (bif Nat.beq pc 133 then some (.bipush 47, 0, 47) else none)) else (bif Nat.blt pc 138 then (bif Nat.beq pc 135 then some (.invokevirtual 54, 0, 0) else none) else (bif Nat.blt pc 139 then (bif Nat.beq pc 138 then some (.ireturn, 0, 0) else none) else (bif Nat.beq pc 139 then some (.aload_n 0, 0, 0) else none))))) else (bif Nat.blt pc 146 then (bif Nat.blt pc 144 then (bif Nat.blt pc 141 then (bif Nat.beq pc 140 then some (.aload_n 0, 0, 0) else none) else (bif Nat.beq pc 141 then some (.getfield 18, 0, 0) else none)) else (bif Nat.blt pc 145 then (bif Nat.beq pc 144 then some (.iload_n 1, 0, 0) else none) else (bif Nat.beq pc 145 then some (.iload_n 2, 0, 0) else none))) else (bif Nat.blt pc 152 then (bif Nat.blt pc 149 then (bif Nat.beq pc 146 then some (.sipush 1500, 0, 1500) else none) else (bif Nat.beq pc 149 then some (.invokevirtual 54, 0, 0) else none)) else (bif Nat.blt pc 153 then (bif Nat.beq pc 152 then some (.ireturn, 0, 0) else none) else (bif Nat.blt pc 154 then (bif Nat.beq pc 153 then some (.iconst 0, 0, 0) else none) else (bif Nat.beq pc 154 then some (.ireturn, 0, 0) else none)))))))
def z_c25 (pc : Nat) : Option (Instr × Nat × Int32) := bif Nat.blt pc 16 then (bif Nat.blt pc 9 then (bif Nat.blt pc 5 then (bif Nat.blt pc 2 then (bif Nat.beq pc 0 then some (.iload 4, 0, 0) else none) else (bif Nat.beq pc 2 then some (.ifCond .eq 25, 27, 0) else none)) else (bif Nat.blt pc 6 then (bif Nat.beq pc 5 then some (.iload_n 2, 0, 0) else none) else (bif Nat.beq pc 6 then some (.ifCond .lt 21, 27, 0) else none))) else (bif Nat.blt pc 11 then (bif Nat.blt pc 10 then (bif Nat.beq pc 9 then some (.iload_n 2, 0, 0) else none) else (bif Nat.beq pc 10 then some (.aload_n 1, 0, 0) else none)) else (bif Nat.blt pc 12 then (bif Nat.beq pc 11 then some (.arraylength, 0, 0) else none) else (bif Nat.blt pc 15 then (bif Nat.beq pc 12 then some (.if_icmp .ge 15, 27, 0) else none) else (bif Nat.beq pc 15 then some (.aload_n 1, 0, 0) else none))))) else (bif Nat.blt pc 22 then (bif Nat.blt pc 18 then (bif Nat.blt pc 17 then (bif Nat.beq pc 16 then some (.iload_n 2, 0, 0) else none) else (bif Nat.beq pc 17 then some (.iload_n 3, 0, 0) else none)) else (bif Nat.blt pc 19 then (bif Nat.beq pc 18 then some (.iastore, 0, 0) else none) else (bif Nat.blt pc 20 then (bif Nat.beq pc 19 then some (.aload_n 0, 0, 0) else none) else (bif Nat.beq pc 20 then some (.iload 5, 0, 0) else none)))) else (bif Nat.blt pc 26 then (bif Nat.blt pc 25 then (bif Nat.beq pc 22 then some (.putfield 25, 0, 0) else none) else (bif Nat.beq pc 25 then some (.iconst 1, 0, 1) else none)) else (bif Nat.blt pc 27 then (bif Nat.beq pc 26 then some (.ireturn, 0, 0) else none) else (bif Nat.blt pc 28 then (bif Nat.beq pc 27 then some (.iconst 0, 0, 0) else none) else (bif Nat.beq pc 28 then some (.ireturn, 0, 0) else none)))))
def z_c26 (pc : Nat) : Option (Instr × Nat × Int32) := bif Nat.blt pc 22 then (bif Nat.blt pc 11 then (bif Nat.blt pc 5 then (bif Nat.blt pc 1 then (bif Nat.beq pc 0 then some (.iload_n 2, 0, 0) else none) else (bif Nat.blt pc 4 then (bif Nat.beq pc 1 then some (.ifCond .lt 15, 16, 0) else none) else (bif Nat.beq pc 4 then some (.iload_n 2, 0, 0) else none))) else (bif Nat.blt pc 7 then (bif Nat.blt pc 6 then (bif Nat.beq pc 5 then some (.aload_n 1, 0, 0) else none) else (bif Nat.beq pc 6 then some (.arraylength, 0, 0) else none)) else (bif Nat.blt pc 10 then (bif Nat.beq pc 7 then some (.if_icmp .ge 9, 16, 0) else none) else (bif Nat.beq pc 10 then some (.aload_n 1, 0, 0) else none)))) else (bif Nat.blt pc 17 then (bif Nat.blt pc 13 then (bif Nat.blt pc 12 then (bif Nat.beq pc 11 then some (.iload_n 2, 0, 0) else none) else (bif Nat.beq pc 12 then some (.iaload, 0, 0) else none)) else (bif Nat.blt pc 16 then (bif Nat.beq pc 13 then some (.ifCond .ne 5, 18, 0) else none) else (bif Nat.beq pc 16 then some (.iconst 0, 0, 0) else none))) else (bif Nat.blt pc 20 then (bif Nat.blt pc 18 then (bif Nat.beq pc 17 then some (.ireturn, 0, 0) else none) else (bif Nat.beq pc 18 then some (.bipush 10, 0, 10) else none)) else (bif Nat.blt pc 21 then (bif Nat.beq pc 20 then some (.aload_n 1, 0, 0) else none) else (bif Nat.beq pc 21 then some (.iload_n 2, 0, 0) else none))))) else (bif Nat.blt pc 35 then (bif Nat.blt pc 26 then (bif Nat.blt pc 24 then (bif Nat.blt pc 23 then (bif Nat.beq pc 22 then some (.iaload, 0, 0) else none) else (bif Nat.beq pc 23 then some (.imul, 0, 0) else none)) else (bif Nat.blt pc 25 then (bif Nat.beq pc 24 then some (.iload_n 3, 0, 0) else none) else (bif Nat.beq pc 25 then some (.iadd, 0, 0) else none))) else (bif Nat.blt pc 30 then (bif Nat.blt pc 28 then (bif Nat.beq pc 26 then some (.istore 5, 0, 0) else none) else (bif Nat.beq pc 28 then some (.iload 5, 0, 0) else none)) else (bif Nat.blt pc 32 then (bif Nat.beq pc 30 then some (.iload 4, 0, 0) else none) else (bif Nat.beq pc 32 then some (.if_icmp .le 5, 37, 0) else none)))) else (bif Nat.blt pc 39 then (bif Nat.blt pc 37 then (bif Nat.blt pc 36 then (bif Nat.beq pc 35 then some (.iconst 0, 0, 0) else none) else (bif Nat.beq pc 36 then some (.ireturn, 0, 0) else none)) else (bif Nat.blt pc 38 then (bif Nat.beq pc 37 then some (.aload_n 1, 0, 0) else none) else (bif Nat.beq pc 38 then some (.iload_n 2, 0, 0) else none))) else (bif Nat.blt pc 42 then (bif Nat.blt pc 41 then (bif Nat.beq pc 39 then some (.iload 5, 0, 0) else none) else (bif Nat.beq pc 41 then some (.iastore, 0, 0) else none)) else (bif Nat.blt pc 43 then (bif Nat.beq pc 42 then some (.iconst 1, 0, 1) else none) else (bif Nat.beq pc 43 then some (.ireturn, 0, 0) else none)))))
def z_c27 (pc : Nat) : Option (Instr × Nat × Int32) := bif Nat.blt pc 82 then (bif Nat.blt pc 37 then (bif Nat.blt pc 19 then (bif Nat.blt pc 9 then (bif Nat.blt pc 4 then (bif Nat.blt pc 1 then (bif Nat.beq pc 0 then some (.iconst 0, 0, 0) else none) else (bif Nat.blt pc 3 then (bif Nat.beq pc 1 then some (.istore 4, 0, 0) else none) else (bif Nat.beq pc 3 then some (.iconst 0, 0, 0) else none))) else (bif Nat.blt pc 6 then (bif Nat.beq pc 4 then some (.istore 5, 0, 0) else none) else (bif Nat.blt pc 7 then (bif Nat.beq pc 6 then some (.iconst 0, 0, 0) else none) else (bif Nat.beq pc 7 then some (.istore 6, 0, 0) else none)))) else (bif Nat.blt pc 14 then (bif Nat.blt pc 10 then (bif Nat.beq pc 9 then some (.iconst 0, 0, 0) else none) else (bif Nat.blt pc 12 then (bif Nat.beq pc 10 then some (.istore 7, 0, 0) else none) else (bif Nat.beq pc 12 then some (.iload 7, 0, 0) else none))) else (bif Nat.blt pc 15 then (bif Nat.beq pc 14 then some (.iconst 4, 0, 4) else none) else (bif Nat.blt pc 18 then (bif Nat.beq pc 15 then some (.if_icmp .ge 79, 94, 0) else none) else (bif Nat.beq pc 18 then some (.aload_n 0, 0, 0) else none))))) else (bif Nat.blt pc 29 then (bif Nat.blt pc 25 then (bif Nat.blt pc 22 then (bif Nat.beq pc 19 then some (.getfield 9, 0, 0) else none) else (bif Nat.blt pc 24 then (bif Nat.beq pc 22 then some (.iload 7, 0, 0) else none) else (bif Nat.beq pc 24 then some (.iconst 0, 0, 0) else none))) else (bif Nat.blt pc 26 then (bif Nat.beq pc 25 then some (.iastore, 0, 0) else none) else (bif Nat.blt pc 27 then (bif Nat.beq pc 26 then some (.iload_n 2, 0, 0) else none) else (bif Nat.beq pc 27 then some (.iload 7, 0, 0) else none)))) else (bif Nat.blt pc 32 then (bif Nat.blt pc 30 then (bif Nat.beq pc 29 then some (.ishr, 0, 0) else none) else (bif Nat.blt pc 31 then (bif Nat.beq pc 30 then some (.iconst 1, 0, 1) else none) else (bif Nat.beq pc 31 then some (.iand, 0, 0) else none))) else (bif Nat.blt pc 33 then (bif Nat.beq pc 32 then some (.iconst 1, 0, 1) else none) else (bif Nat.blt pc 36 then (bif Nat.beq pc 33 then some (.if_icmp .ne 55, 88, 0) else none) else (bif Nat.beq pc 36 then some (.aload_n 0, 0, 0) else none)))))) else (bif Nat.blt pc 59 then (bif Nat.blt pc 49 then (bif Nat.blt pc 43 then (bif Nat.blt pc 40 then (bif Nat.beq pc 37 then some (.getfield 9, 0, 0) else none) else (bif Nat.blt pc 42 then (bif Nat.beq pc 40 then some (.iload 7, 0, 0) else none) else (bif Nat.beq pc 42 then some (.aload_n 1, 0, 0) else none))) else (bif Nat.blt pc 46 then (bif Nat.beq pc 43 then some (.getfield 29, 0, 0) else none) else (bif Nat.blt pc 48 then (bif Nat.beq pc 46 then some (.iload 7, 0, 0) else none) else (bif Nat.beq pc 48 then some (.iaload, 0, 0) else none)))) else (bif Nat.blt pc 53 then (bif Nat.blt pc 50 then (bif Nat.beq pc 49 then some (.iastore, 0, 0) else none) else (bif Nat.blt pc 52 then (bif Nat.beq pc 50 then some (.iload 4, 0, 0) else none) else (bif Nat.beq pc 52 then some (.aload_n 1, 0, 0) else none))) else (bif Nat.blt pc 56 then (bif Nat.beq pc 53 then some (.getfield 29, 0, 0) else none) else (bif Nat.blt pc 58 then (bif Nat.beq pc 56 then some (.iload 7, 0, 0) else none) else (bif Nat.beq pc 58 then some (.iaload, 0, 0) else none))))) else (bif Nat.blt pc 70 then (bif Nat.blt pc 64 then (bif Nat.blt pc 60 then (bif Nat.beq pc 59 then some (.iadd, 0, 0) else none) else (bif Nat.blt pc 62 then (bif Nat.beq pc 60 then some (.istore 4, 0, 0) else none) else (bif Nat.beq pc 62 then some (.iload 5, 0, 0) else none))) else (bif Nat.blt pc 65 then (bif Nat.beq pc 64 then some (.aload_n 1, 0, 0) else none) else (bif Nat.blt pc 68 then (bif Nat.beq pc 65 then some (.getfield 34, 0, 0) else none) else (bif Nat.beq pc 68 then some (.iload 7, 0, 0) else none)))) else (bif Nat.blt pc 74 then (bif Nat.blt pc 71 then (bif Nat.beq pc 70 then some (.iaload, 0, 0) else none) else (bif Nat.blt pc 72 then (bif Nat.beq pc 71 then some (.iadd, 0, 0) else none) else (bif Nat.beq pc 72 then some (.istore 5, 0, 0) else none))) else (bif Nat.blt pc 77 then (bif Nat.blt pc 76 then (bif Nat.beq pc 74 then some (.iload 6, 0, 0) else none) else (bif Nat.beq pc 76 then some (.aload_n 1, 0, 0) else none)) else (bif Nat.blt pc 80 then (bif Nat.beq pc 77 then some (.getfield 34, 0, 0) else none) else (bif Nat.beq pc 80 then some (.iload 7, 0, 0) else none))))))) else (bif Nat.blt pc 125 then (bif Nat.blt pc 105 then (bif Nat.blt pc 95 then (bif Nat.blt pc 88 then (bif Nat.blt pc 83 then (bif Nat.beq pc 82 then some (.iaload, 0, 0) else none) else (bif Nat.blt pc 86 then (bif Nat.beq pc 83 then some (.invokestatic 37, 0, 0) else none) else (bif Nat.beq pc 86 then some (.istore 6, 0, 0) else none))) else (bif Nat.blt pc 91 then (bif Nat.beq pc 88 then some (.iinc 7 1, 0, 1) else none) else (bif Nat.blt pc 94 then (bif Nat.beq pc 91 then some (.goto (-79), 12, 0) else none) else (bif Nat.beq pc 94 then some (.iload_n 3, 0, 0) else none)))) else (bif Nat.blt pc 99 then (bif Nat.blt pc 97 then (bif Nat.beq pc 95 then some (.iload 4, 0, 0) else none) else (bif Nat.blt pc 98 then (bif Nat.beq pc 97 then some (.isub, 0, 0) else none) else (bif Nat.beq pc 98 then some (.iconst 0, 0, 0) else none))) else (bif Nat.blt pc 102 then (bif Nat.beq pc 99 then some (.invokestatic 37, 0, 0) else none) else (bif Nat.blt pc 104 then (bif Nat.beq pc 102 then some (.istore 7, 0, 0) else none) else (bif Nat.beq pc 104 then some (.aload_n 0, 0, 0) else none))))) else (bif Nat.blt pc 116 then (bif Nat.blt pc 109 then (bif Nat.blt pc 107 then (bif Nat.beq pc 105 then some (.iload 4, 0, 0) else none) else (bif Nat.blt pc 108 then (bif Nat.beq pc 107 then some (.iload_n 3, 0, 0) else none) else (bif Nat.beq pc 108 then some (.isub, 0, 0) else none))) else (bif Nat.blt pc 110 then (bif Nat.beq pc 109 then some (.iconst 0, 0, 0) else none) else (bif Nat.blt pc 113 then (bif Nat.beq pc 110 then some (.invokestatic 37, 0, 0) else none) else (bif Nat.beq pc 113 then some (.putfield 19, 0, 0) else none)))) else (bif Nat.blt pc 119 then (bif Nat.blt pc 117 then (bif Nat.beq pc 116 then some (.aload_n 0, 0, 0) else none) else (bif Nat.blt pc 118 then (bif Nat.beq pc 117 then some (.aload_n 0, 0, 0) else none) else (bif Nat.beq pc 118 then some (.aload_n 1, 0, 0) else none))) else (bif Nat.blt pc 120 then (bif Nat.beq pc 119 then some (.iload_n 2, 0, 0) else none) else (bif Nat.blt pc 122 then (bif Nat.beq pc 120 then some (.iload 7, 0, 0) else none) else (bif Nat.beq pc 122 then some (.invokevirtual 43, 0, 0) else none)))))) else (bif Nat.blt pc 146 then (bif Nat.blt pc 136 then (bif Nat.blt pc 131 then (bif Nat.blt pc 128 then (bif Nat.beq pc 125 then some (.putfield 15, 0, 0) else none) else (bif Nat.blt pc 129 then (bif Nat.beq pc 128 then some (.aload_n 0, 0, 0) else none) else (bif Nat.beq pc 129 then some (.iload 5, 0, 0) else none))) else (bif Nat.blt pc 133 then (bif Nat.beq pc 131 then some (.iload 4, 0, 0) else none) else (bif Nat.blt pc 134 then (bif Nat.beq pc 133 then some (.isub, 0, 0) else none) else (bif Nat.beq pc 134 then some (.iload 7, 0, 0) else none)))) else (bif Nat.blt pc 141 then (bif Nat.blt pc 137 then (bif Nat.beq pc 136 then some (.aload_n 0, 0, 0) else none) else (bif Nat.blt pc 140 then (bif Nat.beq pc 137 then some (.getfield 15, 0, 0) else none) else (bif Nat.beq pc 140 then some (.isub, 0, 0) else none))) else (bif Nat.blt pc 142 then (bif Nat.beq pc 141 then some (.isub, 0, 0) else none) else (bif Nat.blt pc 145 then (bif Nat.beq pc 142 then some (.putfield 22, 0, 0) else none) else (bif Nat.beq pc 145 then some (.aload_n 0, 0, 0) else none))))) else (bif Nat.blt pc 158 then (bif Nat.blt pc 153 then (bif Nat.blt pc 147 then (bif Nat.beq pc 146 then some (.aload_n 0, 0, 0) else none) else (bif Nat.blt pc 150 then (bif Nat.beq pc 147 then some (.getfield 15, 0, 0) else none) else (bif Nat.beq pc 150 then some (.ifCond .ne 16, 166, 0) else none))) else (bif Nat.blt pc 155 then (bif Nat.beq pc 153 then some (.iload 5, 0, 0) else none) else (bif Nat.blt pc 157 then (bif Nat.beq pc 155 then some (.iload 6, 0, 0) else none) else (bif Nat.beq pc 157 then some (.isub, 0, 0) else none)))) else (bif Nat.blt pc 163 then (bif Nat.blt pc 159 then (bif Nat.beq pc 158 then some (.iload_n 3, 0, 0) else none) else (bif Nat.blt pc 162 then (bif Nat.beq pc 159 then some (.if_icmp .lt 7, 166, 0) else none) else (bif Nat.beq pc 162 then some (.iconst 1, 0, 1) else none))) else (bif Nat.blt pc 167 then (bif Nat.blt pc 166 then (bif Nat.beq pc 163 then some (.goto 4, 167, 0) else none) else (bif Nat.beq pc 166 then some (.iconst 0, 0, 0) else none)) else (bif Nat.blt pc 170 then (bif Nat.beq pc 167 then some (.putfield 25, 0, 0) else none) else (bif Nat.beq pc 170 then some (.return_, 0, 0) else none)))))))
def z_c28 (pc : Nat) : Option (Instr × Nat × Int32) := bif Nat.blt pc 52 then (bif Nat.blt pc 23 then (bif Nat.blt pc 9 then (bif Nat.blt pc 4 then (bif Nat.blt pc 1 then (bif Nat.beq pc 0 then some (.iload_n 3, 0, 0) else none) else (bif Nat.blt pc 3 then (bif Nat.beq pc 1 then some (.istore 4, 0, 0) else none) else (bif Nat.beq pc 3 then some (.iload_n 2, 0, 0) else none))) else (bif Nat.blt pc 6 then (bif Nat.beq pc 4 then some (.istore 5, 0, 0) else none) else (bif Nat.blt pc 7 then (bif Nat.beq pc 6 then some (.iconst 0, 0, 0) else none) else (bif Nat.beq pc 7 then some (.istore 6, 0, 0) else none)))) else (bif Nat.blt pc 15 then (bif Nat.blt pc 11 then (bif Nat.beq pc 9 then some (.iload 6, 0, 0) else none) else (bif Nat.blt pc 12 then (bif Nat.beq pc 11 then some (.iconst 4, 0, 4) else none) else (bif Nat.beq pc 12 then some (.if_icmp .ge 83, 95, 0) else none))) else (bif Nat.blt pc 20 then (bif Nat.blt pc 17 then (bif Nat.beq pc 15 then some (.iload 4, 0, 0) else none) else (bif Nat.beq pc 17 then some (.ifCond .le 78, 95, 0) else none)) else (bif Nat.blt pc 21 then (bif Nat.beq pc 20 then some (.aload_n 1, 0, 0) else none) else (bif Nat.beq pc 21 then some (.iload 5, 0, 0) else none))))) else (bif Nat.blt pc 39 then (bif Nat.blt pc 30 then (bif Nat.blt pc 26 then (bif Nat.beq pc 23 then some (.invokevirtual 47, 0, 0) else none) else (bif Nat.blt pc 28 then (bif Nat.beq pc 26 then some (.istore 7, 0, 0) else none) else (bif Nat.beq pc 28 then some (.iload 7, 0, 0) else none))) else (bif Nat.blt pc 34 then (bif Nat.blt pc 31 then (bif Nat.beq pc 30 then some (.iconst (-1), 0, (-1)) else none) else (bif Nat.beq pc 31 then some (.if_icmp .ne 6, 37, 0) else none)) else (bif Nat.blt pc 37 then (bif Nat.beq pc 34 then some (.goto 61, 95, 0) else none) else (bif Nat.beq pc 37 then some (.iload 4, 0, 0) else none)))) else (bif Nat.blt pc 45 then (bif Nat.blt pc 40 then (bif Nat.beq pc 39 then some (.aload_n 1, 0, 0) else none) else (bif Nat.blt pc 43 then (bif Nat.beq pc 40 then some (.getfield 34, 0, 0) else none) else (bif Nat.beq pc 43 then some (.iload 7, 0, 0) else none))) else (bif Nat.blt pc 47 then (bif Nat.blt pc 46 then (bif Nat.beq pc 45 then some (.iaload, 0, 0) else none) else (bif Nat.beq pc 46 then some (.aload_n 1, 0, 0) else none)) else (bif Nat.blt pc 50 then (bif Nat.beq pc 47 then some (.getfield 29, 0, 0) else none) else (bif Nat.beq pc 50 then some (.iload 7, 0, 0) else none)))))) else (bif Nat.blt pc 75 then (bif Nat.blt pc 65 then (bif Nat.blt pc 57 then (bif Nat.blt pc 53 then (bif Nat.beq pc 52 then some (.iaload, 0, 0) else none) else (bif Nat.blt pc 54 then (bif Nat.beq pc 53 then some (.isub, 0, 0) else none) else (bif Nat.beq pc 54 then some (.invokestatic 51, 0, 0) else none))) else (bif Nat.blt pc 60 then (bif Nat.blt pc 59 then (bif Nat.beq pc 57 then some (.istore 8, 0, 0) else none) else (bif Nat.beq pc 59 then some (.aload_n 0, 0, 0) else none)) else (bif Nat.blt pc 63 then (bif Nat.beq pc 60 then some (.getfield 9, 0, 0) else none) else (bif Nat.beq pc 63 then some (.iload 7, 0, 0) else none)))) else (bif Nat.blt pc 69 then (bif Nat.blt pc 66 then (bif Nat.beq pc 65 then some (.dup2, 0, 0) else none) else (bif Nat.blt pc 67 then (bif Nat.beq pc 66 then some (.iaload, 0, 0) else none) else (bif Nat.beq pc 67 then some (.iload 8, 0, 0) else none))) else (bif Nat.blt pc 71 then (bif Nat.blt pc 70 then (bif Nat.beq pc 69 then some (.iadd, 0, 0) else none) else (bif Nat.beq pc 70 then some (.iastore, 0, 0) else none)) else (bif Nat.blt pc 73 then (bif Nat.beq pc 71 then some (.iload 4, 0, 0) else none) else (bif Nat.beq pc 73 then some (.iload 8, 0, 0) else none))))) else (bif Nat.blt pc 85 then (bif Nat.blt pc 80 then (bif Nat.blt pc 76 then (bif Nat.beq pc 75 then some (.isub, 0, 0) else none) else (bif Nat.blt pc 78 then (bif Nat.beq pc 76 then some (.istore 4, 0, 0) else none) else (bif Nat.beq pc 78 then some (.iload 5, 0, 0) else none))) else (bif Nat.blt pc 83 then (bif Nat.blt pc 81 then (bif Nat.beq pc 80 then some (.iconst 1, 0, 1) else none) else (bif Nat.beq pc 81 then some (.iload 7, 0, 0) else none)) else (bif Nat.blt pc 84 then (bif Nat.beq pc 83 then some (.ishl, 0, 0) else none) else (bif Nat.beq pc 84 then some (.iconst (-1), 0, (-1)) else none)))) else (bif Nat.blt pc 89 then (bif Nat.blt pc 86 then (bif Nat.beq pc 85 then some (.ixor, 0, 0) else none) else (bif Nat.blt pc 87 then (bif Nat.beq pc 86 then some (.iand, 0, 0) else none) else (bif Nat.beq pc 87 then some (.istore 5, 0, 0) else none))) else (bif Nat.blt pc 95 then (bif Nat.blt pc 92 then (bif Nat.beq pc 89 then some (.iinc 6 1, 0, 1) else none) else (bif Nat.beq pc 92 then some (.goto (-83), 9, 0) else none)) else (bif Nat.blt pc 97 then (bif Nat.beq pc 95 then some (.iload 4, 0, 0) else none) else (bif Nat.beq pc 97 then some (.ireturn, 0, 0) else none))))))
def z_c29 (pc : Nat) : Option (Instr × Nat × Int32) := bif Nat.blt pc 84 then (bif Nat.blt pc 41 then (bif Nat.blt pc 21 then (bif Nat.blt pc 12 then (bif Nat.blt pc 4 then (bif Nat.blt pc 1 then (bif Nat.beq pc 0 then some (.iload_n 1, 0, 0) else none) else (bif Nat.beq pc 1 then some (.invokestatic 51, 0, 0) else none)) else (bif Nat.blt pc 7 then (bif Nat.beq pc 4 then some (.ifCond .eq 28, 32, 0) else none) else (bif Nat.blt pc 9 then (bif Nat.beq pc 7 then some (.bipush 50, 0, 50) else none) else (bif Nat.beq pc 9 then some (.sipush 500, 0, 500) else none)))) else (bif Nat.blt pc 16 then (bif Nat.blt pc 13 then (bif Nat.beq pc 12 then some (.iload_n 2, 0, 0) else none) else (bif Nat.beq pc 13 then some (.invokestatic 55, 0, 0) else none)) else (bif Nat.blt pc 19 then (bif Nat.beq pc 16 then some (.ifCond .eq 16, 32, 0) else none) else (bif Nat.blt pc 20 then (bif Nat.beq pc 19 then some (.iconst 0, 0, 0) else none) else (bif Nat.beq pc 20 then some (.iload_n 2, 0, 0) else none))))) else (bif Nat.blt pc 32 then (bif Nat.blt pc 25 then (bif Nat.blt pc 22 then (bif Nat.beq pc 21 then some (.iload_n 3, 0, 0) else none) else (bif Nat.beq pc 22 then some (.invokestatic 55, 0, 0) else none)) else (bif Nat.blt pc 28 then (bif Nat.beq pc 25 then some (.ifCond .eq 7, 32, 0) else none) else (bif Nat.blt pc 29 then (bif Nat.beq pc 28 then some (.iconst 1, 0, 1) else none) else (bif Nat.beq pc 29 then some (.goto 4, 33, 0) else none)))) else (bif Nat.blt pc 36 then (bif Nat.blt pc 33 then (bif Nat.beq pc 32 then some (.iconst 0, 0, 0) else none) else (bif Nat.beq pc 33 then some (.invokestatic 59, 0, 0) else none)) else (bif Nat.blt pc 37 then (bif Nat.beq pc 36 then some (.iconst 1, 0, 1) else none) else (bif Nat.blt pc 39 then (bif Nat.beq pc 37 then some (.bipush 99, 0, 99) else none) else (bif Nat.beq pc 39 then some (.iload 4, 0, 0) else none)))))) else (bif Nat.blt pc 62 then (bif Nat.blt pc 51 then (bif Nat.blt pc 47 then (bif Nat.blt pc 44 then (bif Nat.beq pc 41 then some (.invokestatic 55, 0, 0) else none) else (bif Nat.beq pc 44 then some (.ifCond .eq 17, 61, 0) else none)) else (bif Nat.blt pc 48 then (bif Nat.beq pc 47 then some (.iconst 0, 0, 0) else none) else (bif Nat.blt pc 49 then (bif Nat.beq pc 48 then some (.iconst 4, 0, 4) else none) else (bif Nat.beq pc 49 then some (.iload 5, 0, 0) else none)))) else (bif Nat.blt pc 57 then (bif Nat.blt pc 54 then (bif Nat.beq pc 51 then some (.invokestatic 55, 0, 0) else none) else (bif Nat.beq pc 54 then some (.ifCond .eq 7, 61, 0) else none)) else (bif Nat.blt pc 58 then (bif Nat.beq pc 57 then some (.iconst 1, 0, 1) else none) else (bif Nat.blt pc 61 then (bif Nat.beq pc 58 then some (.goto 4, 62, 0) else none) else (bif Nat.beq pc 61 then some (.iconst 0, 0, 0) else none))))) else (bif Nat.blt pc 75 then (bif Nat.blt pc 66 then (bif Nat.blt pc 65 then (bif Nat.beq pc 62 then some (.invokestatic 59, 0, 0) else none) else (bif Nat.beq pc 65 then some (.aload_n 0, 0, 0) else none)) else (bif Nat.blt pc 69 then (bif Nat.beq pc 66 then some (.getfield 12, 0, 0) else none) else (bif Nat.blt pc 72 then (bif Nat.beq pc 69 then some (.getfield 63, 0, 0) else none) else (bif Nat.beq pc 72 then some (.getfield 67, 0, 0) else none)))) else (bif Nat.blt pc 77 then (bif Nat.blt pc 76 then (bif Nat.beq pc 75 then some (.iload_n 1, 0, 0) else none) else (bif Nat.beq pc 76 then some (.iaload, 0, 0) else none)) else (bif Nat.blt pc 80 then (bif Nat.beq pc 77 then some (.ifCond .ne 7, 84, 0) else none) else (bif Nat.blt pc 81 then (bif Nat.beq pc 80 then some (.iconst 1, 0, 1) else none) else (bif Nat.beq pc 81 then some (.goto 4, 85, 0) else none))))))) else (bif Nat.blt pc 123 then (bif Nat.blt pc 104 then (bif Nat.blt pc 93 then (bif Nat.blt pc 88 then (bif Nat.blt pc 85 then (bif Nat.beq pc 84 then some (.iconst 0, 0, 0) else none) else (bif Nat.beq pc 85 then some (.invokestatic 72, 0, 0) else none)) else (bif Nat.blt pc 89 then (bif Nat.beq pc 88 then some (.aload_n 0, 0, 0) else none) else (bif Nat.blt pc 92 then (bif Nat.beq pc 89 then some (.invokevirtual 75, 0, 0) else none) else (bif Nat.beq pc 92 then some (.aload_n 0, 0, 0) else none)))) else (bif Nat.blt pc 99 then (bif Nat.blt pc 96 then (bif Nat.beq pc 93 then some (.getfield 12, 0, 0) else none) else (bif Nat.beq pc 96 then some (.getfield 63, 0, 0) else none)) else (bif Nat.blt pc 102 then (bif Nat.beq pc 99 then some (.getfield 78, 0, 0) else none) else (bif Nat.blt pc 103 then (bif Nat.beq pc 102 then some (.iload_n 1, 0, 0) else none) else (bif Nat.beq pc 103 then some (.iaload, 0, 0) else none))))) else (bif Nat.blt pc 116 then (bif Nat.blt pc 107 then (bif Nat.blt pc 106 then (bif Nat.beq pc 104 then some (.istore 6, 0, 0) else none) else (bif Nat.beq pc 106 then some (.aload_n 0, 0, 0) else none)) else (bif Nat.blt pc 110 then (bif Nat.beq pc 107 then some (.getfield 12, 0, 0) else none) else (bif Nat.blt pc 113 then (bif Nat.beq pc 110 then some (.getfield 63, 0, 0) else none) else (bif Nat.beq pc 113 then some (.getfield 78, 0, 0) else none)))) else (bif Nat.blt pc 118 then (bif Nat.blt pc 117 then (bif Nat.beq pc 116 then some (.iload_n 1, 0, 0) else none) else (bif Nat.beq pc 117 then some (.iload_n 2, 0, 0) else none)) else (bif Nat.blt pc 119 then (bif Nat.beq pc 118 then some (.iastore, 0, 0) else none) else (bif Nat.blt pc 120 then (bif Nat.beq pc 119 then some (.aload_n 0, 0, 0) else none) else (bif Nat.beq pc 120 then some (.getfield 12, 0, 0) else none)))))) else (bif Nat.blt pc 143 then (bif Nat.blt pc 132 then (bif Nat.blt pc 129 then (bif Nat.blt pc 126 then (bif Nat.beq pc 123 then some (.getfield 63, 0, 0) else none) else (bif Nat.beq pc 126 then some (.getfield 81, 0, 0) else none)) else (bif Nat.blt pc 130 then (bif Nat.beq pc 129 then some (.iload_n 1, 0, 0) else none) else (bif Nat.blt pc 131 then (bif Nat.beq pc 130 then some (.iload_n 3, 0, 0) else none) else (bif Nat.beq pc 131 then some (.iastore, 0, 0) else none)))) else (bif Nat.blt pc 136 then (bif Nat.blt pc 133 then (bif Nat.beq pc 132 then some (.aload_n 0, 0, 0) else none) else (bif Nat.beq pc 133 then some (.getfield 12, 0, 0) else none)) else (bif Nat.blt pc 139 then (bif Nat.beq pc 136 then some (.getfield 63, 0, 0) else none) else (bif Nat.blt pc 142 then (bif Nat.beq pc 139 then some (.getfield 84, 0, 0) else none) else (bif Nat.beq pc 142 then some (.iload_n 1, 0, 0) else none))))) else (bif Nat.blt pc 153 then (bif Nat.blt pc 146 then (bif Nat.blt pc 145 then (bif Nat.beq pc 143 then some (.iload 4, 0, 0) else none) else (bif Nat.beq pc 145 then some (.iastore, 0, 0) else none)) else (bif Nat.blt pc 147 then (bif Nat.beq pc 146 then some (.aload_n 0, 0, 0) else none) else (bif Nat.blt pc 150 then (bif Nat.beq pc 147 then some (.getfield 12, 0, 0) else none) else (bif Nat.beq pc 150 then some (.getfield 63, 0, 0) else none)))) else (bif Nat.blt pc 159 then (bif Nat.blt pc 156 then (bif Nat.beq pc 153 then some (.getfield 87, 0, 0) else none) else (bif Nat.blt pc 157 then (bif Nat.beq pc 156 then some (.iload_n 1, 0, 0) else none) else (bif Nat.beq pc 157 then some (.iload 5, 0, 0) else none))) else (bif Nat.blt pc 160 then (bif Nat.beq pc 159 then some (.iastore, 0, 0) else none) else (bif Nat.blt pc 162 then (bif Nat.beq pc 160 then some (.iload 6, 0, 0) else none) else (bif Nat.beq pc 162 then some (.ireturn, 0, 0) else none)))))))
def z_c30 (pc : Nat) : Option (Instr × Nat × Int32) := bif Nat.blt pc 30 then (bif Nat.blt pc 17 then (bif Nat.blt pc 7 then (bif Nat.blt pc 1 then (bif Nat.beq pc 0 then some (.iload_n 1, 0, 0) else none) else (bif Nat.blt pc 4 then (bif Nat.beq pc 1 then some (.invokestatic 51, 0, 0) else none) else (bif Nat.beq pc 4 then some (.invokestatic 59, 0, 0) else none))) else (bif Nat.blt pc 11 then (bif Nat.blt pc 8 then (bif Nat.beq pc 7 then some (.aload_n 0, 0, 0) else none) else (bif Nat.beq pc 8 then some (.getfield 12, 0, 0) else none)) else (bif Nat.blt pc 14 then (bif Nat.beq pc 11 then some (.getfield 63, 0, 0) else none) else (bif Nat.beq pc 14 then some (.getfield 67, 0, 0) else none)))) else (bif Nat.blt pc 22 then (bif Nat.blt pc 18 then (bif Nat.beq pc 17 then some (.iload_n 1, 0, 0) else none) else (bif Nat.blt pc 19 then (bif Nat.beq pc 18 then some (.iaload, 0, 0) else none) else (bif Nat.beq pc 19 then some (.ifCond .ne 7, 26, 0) else none))) else (bif Nat.blt pc 26 then (bif Nat.blt pc 23 then (bif Nat.beq pc 22 then some (.iconst 1, 0, 1) else none) else (bif Nat.beq pc 23 then some (.goto 4, 27, 0) else none)) else (bif Nat.blt pc 27 then (bif Nat.beq pc 26 then some (.iconst 0, 0, 0) else none) else (bif Nat.beq pc 27 then some (.invokestatic 72, 0, 0) else none))))) else (bif Nat.blt pc 45 then (bif Nat.blt pc 35 then (bif Nat.blt pc 31 then (bif Nat.beq pc 30 then some (.aload_n 0, 0, 0) else none) else (bif Nat.blt pc 34 then (bif Nat.beq pc 31 then some (.invokevirtual 75, 0, 0) else none) else (bif Nat.beq pc 34 then some (.aload_n 0, 0, 0) else none))) else (bif Nat.blt pc 41 then (bif Nat.blt pc 38 then (bif Nat.beq pc 35 then some (.getfield 12, 0, 0) else none) else (bif Nat.beq pc 38 then some (.getfield 63, 0, 0) else none)) else (bif Nat.blt pc 42 then (bif Nat.beq pc 41 then some (.iload_n 1, 0, 0) else none) else (bif Nat.beq pc 42 then some (.invokevirtual 90, 0, 0) else none)))) else (bif Nat.blt pc 52 then (bif Nat.blt pc 46 then (bif Nat.beq pc 45 then some (.aload_n 0, 0, 0) else none) else (bif Nat.blt pc 49 then (bif Nat.beq pc 46 then some (.getfield 12, 0, 0) else none) else (bif Nat.beq pc 49 then some (.getfield 63, 0, 0) else none))) else (bif Nat.blt pc 56 then (bif Nat.blt pc 55 then (bif Nat.beq pc 52 then some (.getfield 94, 0, 0) else none) else (bif Nat.beq pc 55 then some (.iload_n 1, 0, 0) else none)) else (bif Nat.blt pc 57 then (bif Nat.beq pc 56 then some (.iaload, 0, 0) else none) else (bif Nat.beq pc 57 then some (.ireturn, 0, 0) else none)))))
def z_c31 (pc : Nat) : Option (Instr × Nat × Int32) := bif Nat.blt pc 25 then (bif Nat.blt pc 11 then (bif Nat.blt pc 4 then (bif Nat.blt pc 1 then (bif Nat.beq pc 0 then some (.iload_n 1, 0, 0) else none) else (bif Nat.beq pc 1 then some (.invokestatic 51, 0, 0) else none)) else (bif Nat.blt pc 7 then (bif Nat.beq pc 4 then some (.invokestatic 59, 0, 0) else none) else (bif Nat.blt pc 8 then (bif Nat.beq pc 7 then some (.aload_n 0, 0, 0) else none) else (bif Nat.beq pc 8 then some (.getfield 12, 0, 0) else none)))) else (bif Nat.blt pc 18 then (bif Nat.blt pc 14 then (bif Nat.beq pc 11 then some (.getfield 63, 0, 0) else none) else (bif Nat.blt pc 15 then (bif Nat.beq pc 14 then some (.iload_n 1, 0, 0) else none) else (bif Nat.beq pc 15 then some (.invokevirtual 97, 0, 0) else none))) else (bif Nat.blt pc 21 then (bif Nat.beq pc 18 then some (.invokestatic 72, 0, 0) else none) else (bif Nat.blt pc 22 then (bif Nat.beq pc 21 then some (.aload_n 0, 0, 0) else none) else (bif Nat.beq pc 22 then some (.invokevirtual 75, 0, 0) else none))))) else (bif Nat.blt pc 37 then (bif Nat.blt pc 32 then (bif Nat.blt pc 26 then (bif Nat.beq pc 25 then some (.aload_n 0, 0, 0) else none) else (bif Nat.blt pc 29 then (bif Nat.beq pc 26 then some (.getfield 12, 0, 0) else none) else (bif Nat.beq pc 29 then some (.getfield 63, 0, 0) else none))) else (bif Nat.blt pc 33 then (bif Nat.beq pc 32 then some (.iload_n 1, 0, 0) else none) else (bif Nat.blt pc 34 then (bif Nat.beq pc 33 then some (.iconst 0, 0, 0) else none) else (bif Nat.beq pc 34 then some (.invokevirtual 100, 0, 0) else none)))) else (bif Nat.blt pc 44 then (bif Nat.blt pc 38 then (bif Nat.beq pc 37 then some (.aload_n 0, 0, 0) else none) else (bif Nat.blt pc 41 then (bif Nat.beq pc 38 then some (.getfield 12, 0, 0) else none) else (bif Nat.beq pc 41 then some (.getfield 63, 0, 0) else none))) else (bif Nat.blt pc 45 then (bif Nat.beq pc 44 then some (.iconst 2, 0, 2) else none) else (bif Nat.blt pc 48 then (bif Nat.beq pc 45 then some (.invokevirtual 104, 0, 0) else none) else (bif Nat.beq pc 48 then some (.ireturn, 0, 0) else none)))))
def z_c32 (pc : Nat) : Option (Instr × Nat × Int32) := bif Nat.blt pc 32 then (bif Nat.blt pc 18 then (bif Nat.blt pc 8 then (bif Nat.blt pc 4 then (bif Nat.blt pc 1 then (bif Nat.beq pc 0 then some (.iload_n 1, 0, 0) else none) else (bif Nat.beq pc 1 then some (.invokestatic 51, 0, 0) else none)) else (bif Nat.blt pc 7 then (bif Nat.beq pc 4 then some (.invokestatic 59, 0, 0) else none) else (bif Nat.beq pc 7 then some (.aload_n 0, 0, 0) else none))) else (bif Nat.blt pc 12 then (bif Nat.blt pc 11 then (bif Nat.beq pc 8 then some (.invokevirtual 75, 0, 0) else none) else (bif Nat.beq pc 11 then some (.aload_n 0, 0, 0) else none)) else (bif Nat.blt pc 15 then (bif Nat.beq pc 12 then some (.getfield 12, 0, 0) else none) else (bif Nat.beq pc 15 then some (.getfield 63, 0, 0) else none)))) else (bif Nat.blt pc 24 then (bif Nat.blt pc 22 then (bif Nat.blt pc 21 then (bif Nat.beq pc 18 then some (.getfield 67, 0, 0) else none) else (bif Nat.beq pc 21 then some (.iload_n 1, 0, 0) else none)) else (bif Nat.blt pc 23 then (bif Nat.beq pc 22 then some (.iaload, 0, 0) else none) else (bif Nat.beq pc 23 then some (.iconst 3, 0, 3) else none))) else (bif Nat.blt pc 28 then (bif Nat.blt pc 27 then (bif Nat.beq pc 24 then some (.if_icmp .ne 7, 31, 0) else none) else (bif Nat.beq pc 27 then some (.iconst 1, 0, 1) else none)) else (bif Nat.blt pc 31 then (bif Nat.beq pc 28 then some (.goto 4, 32, 0) else none) else (bif Nat.beq pc 31 then some (.iconst 0, 0, 0) else none))))) else (bif Nat.blt pc 46 then (bif Nat.blt pc 40 then (bif Nat.blt pc 34 then (bif Nat.blt pc 33 then (bif Nat.beq pc 32 then some (.istore_n 2, 0, 0) else none) else (bif Nat.beq pc 33 then some (.aload_n 0, 0, 0) else none)) else (bif Nat.blt pc 37 then (bif Nat.beq pc 34 then some (.getfield 12, 0, 0) else none) else (bif Nat.beq pc 37 then some (.getfield 63, 0, 0) else none))) else (bif Nat.blt pc 42 then (bif Nat.blt pc 41 then (bif Nat.beq pc 40 then some (.iload_n 1, 0, 0) else none) else (bif Nat.beq pc 41 then some (.iload_n 2, 0, 0) else none)) else (bif Nat.blt pc 45 then (bif Nat.beq pc 42 then some (.ifCond .eq 7, 49, 0) else none) else (bif Nat.beq pc 45 then some (.iconst 0, 0, 0) else none)))) else (bif Nat.blt pc 54 then (bif Nat.blt pc 50 then (bif Nat.blt pc 49 then (bif Nat.beq pc 46 then some (.goto 4, 50, 0) else none) else (bif Nat.beq pc 49 then some (.iconst 3, 0, 3) else none)) else (bif Nat.blt pc 53 then (bif Nat.beq pc 50 then some (.invokevirtual 100, 0, 0) else none) else (bif Nat.beq pc 53 then some (.iload_n 2, 0, 0) else none))) else (bif Nat.blt pc 58 then (bif Nat.blt pc 57 then (bif Nat.beq pc 54 then some (.ifCond .eq 7, 61, 0) else none) else (bif Nat.beq pc 57 then some (.iconst 0, 0, 0) else none)) else (bif Nat.blt pc 61 then (bif Nat.beq pc 58 then some (.goto 4, 62, 0) else none) else (bif Nat.blt pc 62 then (bif Nat.beq pc 61 then some (.iconst 1, 0, 1) else none) else (bif Nat.beq pc 62 then some (.ireturn, 0, 0) else none))))))
def z_c33 (pc : Nat) : Option (Instr × Nat × Int32) := bif Nat.blt pc 18 then (bif Nat.blt pc 8 then (bif Nat.blt pc 4 then (bif Nat.blt pc 1 then (bif Nat.beq pc 0 then some (.aload_n 0, 0, 0) else none) else (bif Nat.beq pc 1 then some (.invokevirtual 75, 0, 0) else none)) else (bif Nat.blt pc 5 then (bif Nat.beq pc 4 then some (.aload_n 0, 0, 0) else none) else (bif Nat.beq pc 5 then some (.getfield 12, 0, 0) else none))) else (bif Nat.blt pc 12 then (bif Nat.blt pc 9 then (bif Nat.beq pc 8 then some (.aload_n 0, 0, 0) else none) else (bif Nat.beq pc 9 then some (.getfield 12, 0, 0) else none)) else (bif Nat.blt pc 15 then (bif Nat.beq pc 12 then some (.getfield 108, 0, 0) else none) else (bif Nat.beq pc 15 then some (.ifCond .ne 7, 22, 0) else none)))) else (bif Nat.blt pc 26 then (bif Nat.blt pc 22 then (bif Nat.blt pc 19 then (bif Nat.beq pc 18 then some (.iconst 1, 0, 1) else none) else (bif Nat.beq pc 19 then some (.goto 4, 23, 0) else none)) else (bif Nat.blt pc 23 then (bif Nat.beq pc 22 then some (.iconst 0, 0, 0) else none) else (bif Nat.beq pc 23 then some (.putfield 108, 0, 0) else none))) else (bif Nat.blt pc 30 then (bif Nat.blt pc 27 then (bif Nat.beq pc 26 then some (.aload_n 0, 0, 0) else none) else (bif Nat.beq pc 27 then some (.getfield 12, 0, 0) else none)) else (bif Nat.blt pc 33 then (bif Nat.beq pc 30 then some (.getfield 108, 0, 0) else none) else (bif Nat.blt pc 36 then (bif Nat.beq pc 33 then some (.invokestatic 112, 0, 0) else none) else (bif Nat.beq pc 36 then some (.ireturn, 0, 0) else none)))))
def z_c34 (pc : Nat) : Option (Instr × Nat × Int32) := bif Nat.blt pc 34 then (bif Nat.blt pc 18 then (bif Nat.blt pc 8 then (bif Nat.blt pc 4 then (bif Nat.blt pc 1 then (bif Nat.beq pc 0 then some (.iload_n 1, 0, 0) else none) else (bif Nat.beq pc 1 then some (.invokestatic 116, 0, 0) else none)) else (bif Nat.blt pc 7 then (bif Nat.beq pc 4 then some (.ifCond .eq 18, 22, 0) else none) else (bif Nat.beq pc 7 then some (.iconst 0, 0, 0) else none))) else (bif Nat.blt pc 12 then (bif Nat.blt pc 11 then (bif Nat.beq pc 8 then some (.sipush 1500, 0, 1500) else none) else (bif Nat.beq pc 11 then some (.iload_n 2, 0, 0) else none)) else (bif Nat.blt pc 15 then (bif Nat.beq pc 12 then some (.invokestatic 55, 0, 0) else none) else (bif Nat.beq pc 15 then some (.ifCond .eq 7, 22, 0) else none)))) else (bif Nat.blt pc 26 then (bif Nat.blt pc 22 then (bif Nat.blt pc 19 then (bif Nat.beq pc 18 then some (.iconst 1, 0, 1) else none) else (bif Nat.beq pc 19 then some (.goto 4, 23, 0) else none)) else (bif Nat.blt pc 23 then (bif Nat.beq pc 22 then some (.iconst 0, 0, 0) else none) else (bif Nat.beq pc 23 then some (.invokestatic 59, 0, 0) else none))) else (bif Nat.blt pc 30 then (bif Nat.blt pc 27 then (bif Nat.beq pc 26 then some (.aload_n 0, 0, 0) else none) else (bif Nat.beq pc 27 then some (.invokevirtual 75, 0, 0) else none)) else (bif Nat.blt pc 31 then (bif Nat.beq pc 30 then some (.aload_n 0, 0, 0) else none) else (bif Nat.beq pc 31 then some (.getfield 12, 0, 0) else none))))) else (bif Nat.blt pc 46 then (bif Nat.blt pc 40 then (bif Nat.blt pc 38 then (bif Nat.blt pc 37 then (bif Nat.beq pc 34 then some (.getfield 119, 0, 0) else none) else (bif Nat.beq pc 37 then some (.iconst 0, 0, 0) else none)) else (bif Nat.blt pc 39 then (bif Nat.beq pc 38 then some (.aaload, 0, 0) else none) else (bif Nat.beq pc 39 then some (.iload_n 1, 0, 0) else none))) else (bif Nat.blt pc 42 then (bif Nat.blt pc 41 then (bif Nat.beq pc 40 then some (.iaload, 0, 0) else none) else (bif Nat.beq pc 41 then some (.istore_n 3, 0, 0) else none)) else (bif Nat.blt pc 43 then (bif Nat.beq pc 42 then some (.aload_n 0, 0, 0) else none) else (bif Nat.beq pc 43 then some (.getfield 12, 0, 0) else none)))) else (bif Nat.blt pc 52 then (bif Nat.blt pc 50 then (bif Nat.blt pc 49 then (bif Nat.beq pc 46 then some (.getfield 119, 0, 0) else none) else (bif Nat.beq pc 49 then some (.iconst 0, 0, 0) else none)) else (bif Nat.blt pc 51 then (bif Nat.beq pc 50 then some (.aaload, 0, 0) else none) else (bif Nat.beq pc 51 then some (.iload_n 1, 0, 0) else none))) else (bif Nat.blt pc 54 then (bif Nat.blt pc 53 then (bif Nat.beq pc 52 then some (.iload_n 2, 0, 0) else none) else (bif Nat.beq pc 53 then some (.iastore, 0, 0) else none)) else (bif Nat.blt pc 55 then (bif Nat.beq pc 54 then some (.iload_n 3, 0, 0) else none) else (bif Nat.beq pc 55 then some (.ireturn, 0, 0) else none)))))
def z_c35 (pc : Nat) : Option (Instr × Nat × Int32) := bif Nat.blt pc 29 then (bif Nat.blt pc 14 then (bif Nat.blt pc 4 then (bif Nat.blt pc 1 then (bif Nat.beq pc 0 then some (.iconst 1, 0, 1) else none) else (bif Nat.blt pc 3 then (bif Nat.beq pc 1 then some (.bipush 48, 0, 48) else none) else (bif Nat.beq pc 3 then some (.iload_n 1, 0, 0) else none))) else (bif Nat.blt pc 10 then (bif Nat.blt pc 7 then (bif Nat.beq pc 4 then some (.invokestatic 55, 0, 0) else none) else (bif Nat.beq pc 7 then some (.invokestatic 59, 0, 0) else none)) else (bif Nat.blt pc 11 then (bif Nat.beq pc 10 then some (.aload_n 0, 0, 0) else none) else (bif Nat.beq pc 11 then some (.getfield 12, 0, 0) else none)))) else (bif Nat.blt pc 21 then (bif Nat.blt pc 15 then (bif Nat.beq pc 14 then some (.iload_n 1, 0, 0) else none) else (bif Nat.blt pc 18 then (bif Nat.beq pc 15 then some (.invokevirtual 123, 0, 0) else none) else (bif Nat.beq pc 18 then some (.invokestatic 72, 0, 0) else none))) else (bif Nat.blt pc 25 then (bif Nat.blt pc 22 then (bif Nat.beq pc 21 then some (.aload_n 0, 0, 0) else none) else (bif Nat.beq pc 22 then some (.invokevirtual 75, 0, 0) else none)) else (bif Nat.blt pc 26 then (bif Nat.beq pc 25 then some (.aload_n 0, 0, 0) else none) else (bif Nat.beq pc 26 then some (.getfield 12, 0, 0) else none))))) else (bif Nat.blt pc 42 then (bif Nat.blt pc 34 then (bif Nat.blt pc 32 then (bif Nat.beq pc 29 then some (.invokevirtual 126, 0, 0) else none) else (bif Nat.blt pc 33 then (bif Nat.beq pc 32 then some (.istore_n 2, 0, 0) else none) else (bif Nat.beq pc 33 then some (.aload_n 0, 0, 0) else none))) else (bif Nat.blt pc 38 then (bif Nat.blt pc 37 then (bif Nat.beq pc 34 then some (.getfield 12, 0, 0) else none) else (bif Nat.beq pc 37 then some (.iload_n 1, 0, 0) else none)) else (bif Nat.blt pc 39 then (bif Nat.beq pc 38 then some (.aload_n 0, 0, 0) else none) else (bif Nat.beq pc 39 then some (.getfield 47, 0, 0) else none)))) else (bif Nat.blt pc 49 then (bif Nat.blt pc 45 then (bif Nat.beq pc 42 then some (.invokevirtual 130, 0, 0) else none) else (bif Nat.blt pc 46 then (bif Nat.beq pc 45 then some (.aload_n 0, 0, 0) else none) else (bif Nat.beq pc 46 then some (.getfield 12, 0, 0) else none))) else (bif Nat.blt pc 53 then (bif Nat.blt pc 52 then (bif Nat.beq pc 49 then some (.invokevirtual 126, 0, 0) else none) else (bif Nat.beq pc 52 then some (.iload_n 2, 0, 0) else none)) else (bif Nat.blt pc 54 then (bif Nat.beq pc 53 then some (.isub, 0, 0) else none) else (bif Nat.beq pc 54 then some (.ireturn, 0, 0) else none)))))
def z_c36 (pc : Nat) : Option (Instr × Nat × Int32) := bif Nat.blt pc 27 then (bif Nat.blt pc 16 then (bif Nat.blt pc 5 then (bif Nat.blt pc 1 then (bif Nat.beq pc 0 then some (.iload_n 1, 0, 0) else none) else (bif Nat.blt pc 4 then (bif Nat.beq pc 1 then some (.invokestatic 134, 0, 0) else none) else (bif Nat.beq pc 4 then some (.iload_n 1, 0, 0) else none))) else (bif Nat.blt pc 11 then (bif Nat.blt pc 8 then (bif Nat.beq pc 5 then some (.ifCond .ne 9, 14, 0) else none) else (bif Nat.beq pc 8 then some (.sipush 300, 0, 300) else none)) else (bif Nat.blt pc 14 then (bif Nat.beq pc 11 then some (.goto 5, 16, 0) else none) else (bif Nat.beq pc 14 then some (.bipush 48, 0, 48) else none)))) else (bif Nat.blt pc 19 then (bif Nat.blt pc 17 then (bif Nat.beq pc 16 then some (.istore_n 3, 0, 0) else none) else (bif Nat.blt pc 18 then (bif Nat.beq pc 17 then some (.iconst 0, 0, 0) else none) else (bif Nat.beq pc 18 then some (.iload_n 3, 0, 0) else none))) else (bif Nat.blt pc 23 then (bif Nat.blt pc 20 then (bif Nat.beq pc 19 then some (.iload_n 2, 0, 0) else none) else (bif Nat.beq pc 20 then some (.invokestatic 55, 0, 0) else none)) else (bif Nat.blt pc 26 then (bif Nat.beq pc 23 then some (.invokestatic 59, 0, 0) else none) else (bif Nat.beq pc 26 then some (.aload_n 0, 0, 0) else none))))) else (bif Nat.blt pc 41 then (bif Nat.blt pc 34 then (bif Nat.blt pc 30 then (bif Nat.beq pc 27 then some (.invokevirtual 75, 0, 0) else none) else (bif Nat.blt pc 31 then (bif Nat.beq pc 30 then some (.aload_n 0, 0, 0) else none) else (bif Nat.beq pc 31 then some (.getfield 12, 0, 0) else none))) else (bif Nat.blt pc 38 then (bif Nat.blt pc 37 then (bif Nat.beq pc 34 then some (.getfield 137, 0, 0) else none) else (bif Nat.beq pc 37 then some (.iload_n 1, 0, 0) else none)) else (bif Nat.blt pc 39 then (bif Nat.beq pc 38 then some (.iaload, 0, 0) else none) else (bif Nat.beq pc 39 then some (.istore 4, 0, 0) else none)))) else (bif Nat.blt pc 49 then (bif Nat.blt pc 45 then (bif Nat.blt pc 42 then (bif Nat.beq pc 41 then some (.aload_n 0, 0, 0) else none) else (bif Nat.beq pc 42 then some (.getfield 12, 0, 0) else none)) else (bif Nat.blt pc 48 then (bif Nat.beq pc 45 then some (.getfield 137, 0, 0) else none) else (bif Nat.beq pc 48 then some (.iload_n 1, 0, 0) else none))) else (bif Nat.blt pc 51 then (bif Nat.blt pc 50 then (bif Nat.beq pc 49 then some (.iload_n 2, 0, 0) else none) else (bif Nat.beq pc 50 then some (.iastore, 0, 0) else none)) else (bif Nat.blt pc 53 then (bif Nat.beq pc 51 then some (.iload 4, 0, 0) else none) else (bif Nat.beq pc 53 then some (.ireturn, 0, 0) else none)))))
def z_c37 (pc : Nat) : Option (Instr × Nat × Int32) := bif Nat.blt pc 29 then (bif Nat.blt pc 15 then (bif Nat.blt pc 5 then (bif Nat.blt pc 2 then (bif Nat.beq pc 0 then some (.bipush 33, 0, 33) else none) else (bif Nat.blt pc 4 then (bif Nat.beq pc 2 then some (.bipush 126, 0, 126) else none) else (bif Nat.beq pc 4 then some (.iload_n 1, 0, 0) else none))) else (bif Nat.blt pc 11 then (bif Nat.blt pc 8 then (bif Nat.beq pc 5 then some (.invokestatic 55, 0, 0) else none) else (bif Nat.beq pc 8 then some (.invokestatic 59, 0, 0) else none)) else (bif Nat.blt pc 12 then (bif Nat.beq pc 11 then some (.aload_n 0, 0, 0) else none) else (bif Nat.beq pc 12 then some (.getfield 34, 0, 0) else none)))) else (bif Nat.blt pc 21 then (bif Nat.blt pc 17 then (bif Nat.beq pc 15 then some (.bipush 60, 0, 60) else none) else (bif Nat.blt pc 20 then (bif Nat.beq pc 17 then some (.if_icmp .ge 7, 24, 0) else none) else (bif Nat.beq pc 20 then some (.iconst 1, 0, 1) else none))) else (bif Nat.blt pc 25 then (bif Nat.blt pc 24 then (bif Nat.beq pc 21 then some (.goto 4, 25, 0) else none) else (bif Nat.beq pc 24 then some (.iconst 0, 0, 0) else none)) else (bif Nat.blt pc 28 then (bif Nat.beq pc 25 then some (.invokestatic 72, 0, 0) else none) else (bif Nat.beq pc 28 then some (.aload_n 0, 0, 0) else none))))) else (bif Nat.blt pc 40 then (bif Nat.blt pc 36 then (bif Nat.blt pc 32 then (bif Nat.beq pc 29 then some (.getfield 30, 0, 0) else none) else (bif Nat.blt pc 33 then (bif Nat.beq pc 32 then some (.aload_n 0, 0, 0) else none) else (bif Nat.beq pc 33 then some (.getfield 34, 0, 0) else none))) else (bif Nat.blt pc 38 then (bif Nat.blt pc 37 then (bif Nat.beq pc 36 then some (.iload_n 1, 0, 0) else none) else (bif Nat.beq pc 37 then some (.iastore, 0, 0) else none)) else (bif Nat.blt pc 39 then (bif Nat.beq pc 38 then some (.aload_n 0, 0, 0) else none) else (bif Nat.beq pc 39 then some (.dup, 0, 0) else none)))) else (bif Nat.blt pc 45 then (bif Nat.blt pc 43 then (bif Nat.beq pc 40 then some (.getfield 34, 0, 0) else none) else (bif Nat.blt pc 44 then (bif Nat.beq pc 43 then some (.iconst 1, 0, 1) else none) else (bif Nat.beq pc 44 then some (.iadd, 0, 0) else none))) else (bif Nat.blt pc 49 then (bif Nat.blt pc 48 then (bif Nat.beq pc 45 then some (.putfield 34, 0, 0) else none) else (bif Nat.beq pc 48 then some (.aload_n 0, 0, 0) else none)) else (bif Nat.blt pc 52 then (bif Nat.beq pc 49 then some (.getfield 34, 0, 0) else none) else (bif Nat.beq pc 52 then some (.ireturn, 0, 0) else none)))))
def z_c38 (pc : Nat) : Option (Instr × Nat × Int32) := bif Nat.blt pc 6 then (bif Nat.blt pc 4 then (bif Nat.blt pc 1 then (bif Nat.beq pc 0 then some (.aload_n 0, 0, 0) else none) else (bif Nat.beq pc 1 then some (.getfield 34, 0, 0) else none)) else (bif Nat.blt pc 5 then (bif Nat.beq pc 4 then some (.istore_n 1, 0, 0) else none) else (bif Nat.beq pc 5 then some (.aload_n 0, 0, 0) else none))) else (bif Nat.blt pc 10 then (bif Nat.blt pc 7 then (bif Nat.beq pc 6 then some (.iconst 0, 0, 0) else none) else (bif Nat.beq pc 7 then some (.putfield 34, 0, 0) else none)) else (bif Nat.blt pc 11 then (bif Nat.beq pc 10 then some (.iload_n 1, 0, 0) else none) else (bif Nat.beq pc 11 then some (.ireturn, 0, 0) else none)))
def z_c39 (pc : Nat) : Option (Instr × Nat × Int32) := bif Nat.blt pc 8 then (bif Nat.blt pc 4 then (bif Nat.blt pc 1 then (bif Nat.beq pc 0 then some (.aload_n 0, 0, 0) else none) else (bif Nat.beq pc 1 then some (.getfield 40, 0, 0) else none)) else (bif Nat.blt pc 5 then (bif Nat.beq pc 4 then some (.aload_n 0, 0, 0) else none) else (bif Nat.beq pc 5 then some (.getfield 30, 0, 0) else none))) else (bif Nat.blt pc 12 then (bif Nat.blt pc 9 then (bif Nat.beq pc 8 then some (.aload_n 0, 0, 0) else none) else (bif Nat.beq pc 9 then some (.getfield 34, 0, 0) else none)) else (bif Nat.blt pc 15 then (bif Nat.beq pc 12 then some (.invokevirtual 140, 0, 0) else none) else (bif Nat.beq pc 15 then some (.ireturn, 0, 0) else none)))
def z_c40 (pc : Nat) : Option (Instr × Nat × Int32) := bif Nat.blt pc 64 then (bif Nat.blt pc 36 then (bif Nat.blt pc 16 then (bif Nat.blt pc 8 then (bif Nat.blt pc 4 then (bif Nat.blt pc 1 then (bif Nat.beq pc 0 then some (.aload_n 0, 0, 0) else none) else (bif Nat.beq pc 1 then some (.getfield 40, 0, 0) else none)) else (bif Nat.blt pc 5 then (bif Nat.beq pc 4 then some (.aload_n 0, 0, 0) else none) else (bif Nat.beq pc 5 then some (.getfield 30, 0, 0) else none))) else (bif Nat.blt pc 12 then (bif Nat.blt pc 9 then (bif Nat.beq pc 8 then some (.aload_n 0, 0, 0) else none) else (bif Nat.beq pc 9 then some (.getfield 34, 0, 0) else none)) else (bif Nat.blt pc 15 then (bif Nat.beq pc 12 then some (.invokevirtual 140, 0, 0) else none) else (bif Nat.beq pc 15 then some (.aload_n 0, 0, 0) else none)))) else (bif Nat.blt pc 26 then (bif Nat.blt pc 22 then (bif Nat.blt pc 19 then (bif Nat.beq pc 16 then some (.getfield 34, 0, 0) else none) else (bif Nat.beq pc 19 then some (.if_icmp .ne 17, 36, 0) else none)) else (bif Nat.blt pc 23 then (bif Nat.beq pc 22 then some (.aload_n 0, 0, 0) else none) else (bif Nat.beq pc 23 then some (.getfield 40, 0, 0) else none))) else (bif Nat.blt pc 32 then (bif Nat.blt pc 29 then (bif Nat.beq pc 26 then some (.invokevirtual 144, 0, 0) else none) else (bif Nat.beq pc 29 then some (.ifCond .eq 7, 36, 0) else none)) else (bif Nat.blt pc 33 then (bif Nat.beq pc 32 then some (.iconst 1, 0, 1) else none) else (bif Nat.beq pc 33 then some (.goto 4, 37, 0) else none))))) else (bif Nat.blt pc 50 then (bif Nat.blt pc 44 then (bif Nat.blt pc 40 then (bif Nat.blt pc 37 then (bif Nat.beq pc 36 then some (.iconst 0, 0, 0) else none) else (bif Nat.beq pc 37 then some (.invokestatic 59, 0, 0) else none)) else (bif Nat.blt pc 41 then (bif Nat.beq pc 40 then some (.aload_n 0, 0, 0) else none) else (bif Nat.beq pc 41 then some (.invokevirtual 75, 0, 0) else none))) else (bif Nat.blt pc 46 then (bif Nat.blt pc 45 then (bif Nat.beq pc 44 then some (.aload_n 0, 0, 0) else none) else (bif Nat.beq pc 45 then some (.iconst 0, 0, 0) else none)) else (bif Nat.blt pc 49 then (bif Nat.beq pc 46 then some (.putfield 34, 0, 0) else none) else (bif Nat.beq pc 49 then some (.iconst 0, 0, 0) else none)))) else (bif Nat.blt pc 56 then (bif Nat.blt pc 52 then (bif Nat.blt pc 51 then (bif Nat.beq pc 50 then some (.istore_n 1, 0, 0) else none) else (bif Nat.beq pc 51 then some (.iload_n 1, 0, 0) else none)) else (bif Nat.blt pc 53 then (bif Nat.beq pc 52 then some (.aload_n 0, 0, 0) else none) else (bif Nat.beq pc 53 then some (.getfield 40, 0, 0) else none))) else (bif Nat.blt pc 62 then (bif Nat.blt pc 59 then (bif Nat.beq pc 56 then some (.getfield 148, 0, 0) else none) else (bif Nat.beq pc 59 then some (.if_icmp .ge 65, 124, 0) else none)) else (bif Nat.blt pc 63 then (bif Nat.beq pc 62 then some (.aload_n 0, 0, 0) else none) else (bif Nat.beq pc 63 then some (.aload_n 0, 0, 0) else none)))))) else (bif Nat.blt pc 96 then (bif Nat.blt pc 80 then (bif Nat.blt pc 72 then (bif Nat.blt pc 70 then (bif Nat.blt pc 67 then (bif Nat.beq pc 64 then some (.getfield 40, 0, 0) else none) else (bif Nat.beq pc 67 then some (.getfield 151, 0, 0) else none)) else (bif Nat.blt pc 71 then (bif Nat.beq pc 70 then some (.iload_n 1, 0, 0) else none) else (bif Nat.beq pc 71 then some (.iaload, 0, 0) else none))) else (bif Nat.blt pc 76 then (bif Nat.blt pc 73 then (bif Nat.beq pc 72 then some (.aload_n 0, 0, 0) else none) else (bif Nat.beq pc 73 then some (.getfield 40, 0, 0) else none)) else (bif Nat.blt pc 79 then (bif Nat.beq pc 76 then some (.getfield 154, 0, 0) else none) else (bif Nat.beq pc 79 then some (.iload_n 1, 0, 0) else none)))) else (bif Nat.blt pc 88 then (bif Nat.blt pc 84 then (bif Nat.blt pc 81 then (bif Nat.beq pc 80 then some (.iaload, 0, 0) else none) else (bif Nat.beq pc 81 then some (.invokevirtual 157, 0, 0) else none)) else (bif Nat.blt pc 87 then (bif Nat.beq pc 84 then some (.ifCond .eq 40, 124, 0) else none) else (bif Nat.beq pc 87 then some (.aload_n 0, 0, 0) else none))) else (bif Nat.blt pc 92 then (bif Nat.blt pc 89 then (bif Nat.beq pc 88 then some (.aload_n 0, 0, 0) else none) else (bif Nat.beq pc 89 then some (.getfield 40, 0, 0) else none)) else (bif Nat.blt pc 95 then (bif Nat.beq pc 92 then some (.getfield 151, 0, 0) else none) else (bif Nat.beq pc 95 then some (.iload_n 1, 0, 0) else none))))) else (bif Nat.blt pc 110 then (bif Nat.blt pc 104 then (bif Nat.blt pc 98 then (bif Nat.blt pc 97 then (bif Nat.beq pc 96 then some (.iaload, 0, 0) else none) else (bif Nat.beq pc 97 then some (.aload_n 0, 0, 0) else none)) else (bif Nat.blt pc 101 then (bif Nat.beq pc 98 then some (.getfield 40, 0, 0) else none) else (bif Nat.beq pc 101 then some (.getfield 154, 0, 0) else none))) else (bif Nat.blt pc 106 then (bif Nat.blt pc 105 then (bif Nat.beq pc 104 then some (.iload_n 1, 0, 0) else none) else (bif Nat.beq pc 105 then some (.iaload, 0, 0) else none)) else (bif Nat.blt pc 107 then (bif Nat.beq pc 106 then some (.aload_n 0, 0, 0) else none) else (bif Nat.beq pc 107 then some (.getfield 40, 0, 0) else none)))) else (bif Nat.blt pc 118 then (bif Nat.blt pc 114 then (bif Nat.blt pc 113 then (bif Nat.beq pc 110 then some (.getfield 161, 0, 0) else none) else (bif Nat.beq pc 113 then some (.iload_n 1, 0, 0) else none)) else (bif Nat.blt pc 115 then (bif Nat.beq pc 114 then some (.iaload, 0, 0) else none) else (bif Nat.beq pc 115 then some (.invokevirtual 164, 0, 0) else none))) else (bif Nat.blt pc 124 then (bif Nat.blt pc 121 then (bif Nat.beq pc 118 then some (.iinc 1 1, 0, 1) else none) else (bif Nat.beq pc 121 then some (.goto (-70), 51, 0) else none)) else (bif Nat.blt pc 125 then (bif Nat.beq pc 124 then some (.iload_n 1, 0, 0) else none) else (bif Nat.beq pc 125 then some (.ireturn, 0, 0) else none))))))
def z_c41 (pc : Nat) : Option (Instr × Nat × Int32) := bif Nat.blt pc 26 then (bif Nat.blt pc 15 then (bif Nat.blt pc 7 then (bif Nat.blt pc 1 then (bif Nat.beq pc 0 then some (.aload_n 0, 0, 0) else none) else (bif Nat.blt pc 4 then (bif Nat.beq pc 1 then some (.getfield 27, 0, 0) else none) else (bif Nat.beq pc 4 then some (.ifCond .le 7, 11, 0) else none))) else (bif Nat.blt pc 11 then (bif Nat.blt pc 8 then (bif Nat.beq pc 7 then some (.iconst 1, 0, 1) else none) else (bif Nat.beq pc 8 then some (.goto 4, 12, 0) else none)) else (bif Nat.blt pc 12 then (bif Nat.beq pc 11 then some (.iconst 0, 0, 0) else none) else (bif Nat.beq pc 12 then some (.invokestatic 72, 0, 0) else none)))) else (bif Nat.blt pc 20 then (bif Nat.blt pc 16 then (bif Nat.beq pc 15 then some (.aload_n 0, 0, 0) else none) else (bif Nat.blt pc 17 then (bif Nat.beq pc 16 then some (.dup, 0, 0) else none) else (bif Nat.beq pc 17 then some (.getfield 27, 0, 0) else none))) else (bif Nat.blt pc 22 then (bif Nat.blt pc 21 then (bif Nat.beq pc 20 then some (.iconst 1, 0, 1) else none) else (bif Nat.beq pc 21 then some (.isub, 0, 0) else none)) else (bif Nat.blt pc 25 then (bif Nat.beq pc 22 then some (.putfield 27, 0, 0) else none) else (bif Nat.beq pc 25 then some (.aload_n 0, 0, 0) else none))))) else (bif Nat.blt pc 41 then (bif Nat.blt pc 33 then (bif Nat.blt pc 29 then (bif Nat.beq pc 26 then some (.getfield 12, 0, 0) else none) else (bif Nat.blt pc 30 then (bif Nat.beq pc 29 then some (.aload_n 0, 0, 0) else none) else (bif Nat.beq pc 30 then some (.getfield 19, 0, 0) else none))) else (bif Nat.blt pc 37 then (bif Nat.blt pc 34 then (bif Nat.beq pc 33 then some (.aload_n 0, 0, 0) else none) else (bif Nat.beq pc 34 then some (.getfield 23, 0, 0) else none)) else (bif Nat.blt pc 38 then (bif Nat.beq pc 37 then some (.aload_n 0, 0, 0) else none) else (bif Nat.beq pc 38 then some (.getfield 27, 0, 0) else none)))) else (bif Nat.blt pc 46 then (bif Nat.blt pc 44 then (bif Nat.blt pc 42 then (bif Nat.beq pc 41 then some (.iadd, 0, 0) else none) else (bif Nat.beq pc 42 then some (.bipush 6, 0, 6) else none)) else (bif Nat.blt pc 45 then (bif Nat.beq pc 44 then some (.irem, 0, 0) else none) else (bif Nat.beq pc 45 then some (.aaload, 0, 0) else none))) else (bif Nat.blt pc 50 then (bif Nat.blt pc 49 then (bif Nat.beq pc 46 then some (.invokevirtual 168, 0, 0) else none) else (bif Nat.beq pc 49 then some (.aload_n 0, 0, 0) else none)) else (bif Nat.blt pc 53 then (bif Nat.beq pc 50 then some (.getfield 27, 0, 0) else none) else (bif Nat.beq pc 53 then some (.ireturn, 0, 0) else none)))))
def z_c42 (pc : Nat) : Option (Instr × Nat × Int32) := bif Nat.blt pc 101 then (bif Nat.blt pc 33 then (bif Nat.blt pc 17 then (bif Nat.blt pc 8 then (bif Nat.blt pc 4 then (bif Nat.blt pc 1 then (bif Nat.beq pc 0 then some (.iload_n 1, 0, 0) else none) else (bif Nat.beq pc 1 then some (.invokestatic 51, 0, 0) else none)) else (bif Nat.blt pc 7 then (bif Nat.beq pc 4 then some (.ifCond .eq 17, 21, 0) else none) else (bif Nat.beq pc 7 then some (.iconst 0, 0, 0) else none))) else (bif Nat.blt pc 11 then (bif Nat.blt pc 10 then (bif Nat.beq pc 8 then some (.bipush 8, 0, 8) else none) else (bif Nat.beq pc 10 then some (.iload_n 2, 0, 0) else none)) else (bif Nat.blt pc 14 then (bif Nat.beq pc 11 then some (.invokestatic 55, 0, 0) else none) else (bif Nat.beq pc 14 then some (.ifCond .eq 7, 21, 0) else none)))) else (bif Nat.blt pc 25 then (bif Nat.blt pc 21 then (bif Nat.blt pc 18 then (bif Nat.beq pc 17 then some (.iconst 1, 0, 1) else none) else (bif Nat.beq pc 18 then some (.goto 4, 22, 0) else none)) else (bif Nat.blt pc 22 then (bif Nat.beq pc 21 then some (.iconst 0, 0, 0) else none) else (bif Nat.beq pc 22 then some (.invokestatic 59, 0, 0) else none))) else (bif Nat.blt pc 29 then (bif Nat.blt pc 26 then (bif Nat.beq pc 25 then some (.aload_n 0, 0, 0) else none) else (bif Nat.beq pc 26 then some (.getfield 12, 0, 0) else none)) else (bif Nat.blt pc 32 then (bif Nat.beq pc 29 then some (.getfield 63, 0, 0) else none) else (bif Nat.beq pc 32 then some (.astore_n 3, 0, 0) else none))))) else (bif Nat.blt pc 88 then (bif Nat.blt pc 84 then (bif Nat.blt pc 80 then (bif Nat.blt pc 34 then (bif Nat.beq pc 33 then some (.iload_n 2, 0, 0) else none) else (bif Nat.beq pc 34 then some (.tableswitch 109 0 7 #[46, 53, 60, 67, 74, 81, 88, 102], 0, 0) else none)) else (bif Nat.blt pc 81 then (bif Nat.beq pc 80 then some (.aload_n 3, 0, 0) else none) else (bif Nat.beq pc 81 then some (.getfield 78, 0, 0) else none))) else (bif Nat.blt pc 86 then (bif Nat.blt pc 85 then (bif Nat.beq pc 84 then some (.iload_n 1, 0, 0) else none) else (bif Nat.beq pc 85 then some (.iaload, 0, 0) else none)) else (bif Nat.blt pc 87 then (bif Nat.beq pc 86 then some (.ireturn, 0, 0) else none) else (bif Nat.beq pc 87 then some (.aload_n 3, 0, 0) else none)))) else (bif Nat.blt pc 94 then (bif Nat.blt pc 92 then (bif Nat.blt pc 91 then (bif Nat.beq pc 88 then some (.getfield 81, 0, 0) else none) else (bif Nat.beq pc 91 then some (.iload_n 1, 0, 0) else none)) else (bif Nat.blt pc 93 then (bif Nat.beq pc 92 then some (.iaload, 0, 0) else none) else (bif Nat.beq pc 93 then some (.ireturn, 0, 0) else none))) else (bif Nat.blt pc 98 then (bif Nat.blt pc 95 then (bif Nat.beq pc 94 then some (.aload_n 3, 0, 0) else none) else (bif Nat.beq pc 95 then some (.getfield 84, 0, 0) else none)) else (bif Nat.blt pc 99 then (bif Nat.beq pc 98 then some (.iload_n 1, 0, 0) else none) else (bif Nat.blt pc 100 then (bif Nat.beq pc 99 then some (.iaload, 0, 0) else none) else (bif Nat.beq pc 100 then some (.ireturn, 0, 0) else none))))))) else (bif Nat.blt pc 123 then (bif Nat.blt pc 113 then (bif Nat.blt pc 107 then (bif Nat.blt pc 105 then (bif Nat.blt pc 102 then (bif Nat.beq pc 101 then some (.aload_n 3, 0, 0) else none) else (bif Nat.beq pc 102 then some (.getfield 87, 0, 0) else none)) else (bif Nat.blt pc 106 then (bif Nat.beq pc 105 then some (.iload_n 1, 0, 0) else none) else (bif Nat.beq pc 106 then some (.iaload, 0, 0) else none))) else (bif Nat.blt pc 109 then (bif Nat.blt pc 108 then (bif Nat.beq pc 107 then some (.ireturn, 0, 0) else none) else (bif Nat.beq pc 108 then some (.aload_n 3, 0, 0) else none)) else (bif Nat.blt pc 112 then (bif Nat.beq pc 109 then some (.getfield 67, 0, 0) else none) else (bif Nat.beq pc 112 then some (.iload_n 1, 0, 0) else none)))) else (bif Nat.blt pc 119 then (bif Nat.blt pc 115 then (bif Nat.blt pc 114 then (bif Nat.beq pc 113 then some (.iaload, 0, 0) else none) else (bif Nat.beq pc 114 then some (.ireturn, 0, 0) else none)) else (bif Nat.blt pc 116 then (bif Nat.beq pc 115 then some (.aload_n 3, 0, 0) else none) else (bif Nat.beq pc 116 then some (.getfield 94, 0, 0) else none))) else (bif Nat.blt pc 121 then (bif Nat.blt pc 120 then (bif Nat.beq pc 119 then some (.iload_n 1, 0, 0) else none) else (bif Nat.beq pc 120 then some (.iaload, 0, 0) else none)) else (bif Nat.blt pc 122 then (bif Nat.beq pc 121 then some (.ireturn, 0, 0) else none) else (bif Nat.beq pc 122 then some (.aload_n 0, 0, 0) else none))))) else (bif Nat.blt pc 137 then (bif Nat.blt pc 133 then (bif Nat.blt pc 127 then (bif Nat.blt pc 126 then (bif Nat.beq pc 123 then some (.invokevirtual 172, 0, 0) else none) else (bif Nat.beq pc 126 then some (.aload_n 0, 0, 0) else none)) else (bif Nat.blt pc 130 then (bif Nat.beq pc 127 then some (.getfield 47, 0, 0) else none) else (bif Nat.beq pc 130 then some (.getfield 175, 0, 0) else none))) else (bif Nat.blt pc 135 then (bif Nat.blt pc 134 then (bif Nat.beq pc 133 then some (.iload_n 1, 0, 0) else none) else (bif Nat.beq pc 134 then some (.iaload, 0, 0) else none)) else (bif Nat.blt pc 136 then (bif Nat.beq pc 135 then some (.ireturn, 0, 0) else none) else (bif Nat.beq pc 136 then some (.aload_n 3, 0, 0) else none)))) else (bif Nat.blt pc 143 then (bif Nat.blt pc 141 then (bif Nat.blt pc 140 then (bif Nat.beq pc 137 then some (.getfield 178, 0, 0) else none) else (bif Nat.beq pc 140 then some (.iload_n 1, 0, 0) else none)) else (bif Nat.blt pc 142 then (bif Nat.beq pc 141 then some (.iaload, 0, 0) else none) else (bif Nat.beq pc 142 then some (.ireturn, 0, 0) else none))) else (bif Nat.blt pc 147 then (bif Nat.blt pc 144 then (bif Nat.beq pc 143 then some (.aload_n 3, 0, 0) else none) else (bif Nat.beq pc 144 then some (.getfield 181, 0, 0) else none)) else (bif Nat.blt pc 148 then (bif Nat.beq pc 147 then some (.iload_n 1, 0, 0) else none) else (bif Nat.blt pc 149 then (bif Nat.beq pc 148 then some (.iaload, 0, 0) else none) else (bif Nat.beq pc 149 then some (.ireturn, 0, 0) else none)))))))
def z_c43 (pc : Nat) : Option (Instr × Nat × Int32) := bif Nat.blt pc 29 then (bif Nat.blt pc 14 then (bif Nat.blt pc 7 then (bif Nat.blt pc 1 then (bif Nat.beq pc 0 then some (.iload_n 1, 0, 0) else none) else (bif Nat.blt pc 4 then (bif Nat.beq pc 1 then some (.invokestatic 116, 0, 0) else none) else (bif Nat.beq pc 4 then some (.ifCond .eq 17, 21, 0) else none))) else (bif Nat.blt pc 10 then (bif Nat.blt pc 8 then (bif Nat.beq pc 7 then some (.iconst 0, 0, 0) else none) else (bif Nat.beq pc 8 then some (.bipush 6, 0, 6) else none)) else (bif Nat.blt pc 11 then (bif Nat.beq pc 10 then some (.iload_n 2, 0, 0) else none) else (bif Nat.beq pc 11 then some (.invokestatic 55, 0, 0) else none)))) else (bif Nat.blt pc 21 then (bif Nat.blt pc 17 then (bif Nat.beq pc 14 then some (.ifCond .eq 7, 21, 0) else none) else (bif Nat.blt pc 18 then (bif Nat.beq pc 17 then some (.iconst 1, 0, 1) else none) else (bif Nat.beq pc 18 then some (.goto 4, 22, 0) else none))) else (bif Nat.blt pc 25 then (bif Nat.blt pc 22 then (bif Nat.beq pc 21 then some (.iconst 0, 0, 0) else none) else (bif Nat.beq pc 22 then some (.invokestatic 59, 0, 0) else none)) else (bif Nat.blt pc 26 then (bif Nat.beq pc 25 then some (.iload_n 2, 0, 0) else none) else (bif Nat.beq pc 26 then some (.ifCond .eq 14, 40, 0) else none))))) else (bif Nat.blt pc 44 then (bif Nat.blt pc 34 then (bif Nat.blt pc 30 then (bif Nat.beq pc 29 then some (.iload_n 1, 0, 0) else none) else (bif Nat.blt pc 31 then (bif Nat.beq pc 30 then some (.aload_n 0, 0, 0) else none) else (bif Nat.beq pc 31 then some (.getfield 12, 0, 0) else none))) else (bif Nat.blt pc 40 then (bif Nat.blt pc 37 then (bif Nat.beq pc 34 then some (.getfield 184, 0, 0) else none) else (bif Nat.beq pc 37 then some (.if_icmp .ge 17, 54, 0) else none)) else (bif Nat.blt pc 41 then (bif Nat.beq pc 40 then some (.aload_n 0, 0, 0) else none) else (bif Nat.beq pc 41 then some (.getfield 12, 0, 0) else none)))) else (bif Nat.blt pc 50 then (bif Nat.blt pc 48 then (bif Nat.blt pc 47 then (bif Nat.beq pc 44 then some (.getfield 119, 0, 0) else none) else (bif Nat.beq pc 47 then some (.iload_n 2, 0, 0) else none)) else (bif Nat.blt pc 49 then (bif Nat.beq pc 48 then some (.aaload, 0, 0) else none) else (bif Nat.beq pc 49 then some (.iload_n 1, 0, 0) else none))) else (bif Nat.blt pc 54 then (bif Nat.blt pc 51 then (bif Nat.beq pc 50 then some (.iaload, 0, 0) else none) else (bif Nat.beq pc 51 then some (.goto 4, 55, 0) else none)) else (bif Nat.blt pc 55 then (bif Nat.beq pc 54 then some (.iconst (-1), 0, (-1)) else none) else (bif Nat.beq pc 55 then some (.ireturn, 0, 0) else none)))))
def z_c44 (pc : Nat) : Option (Instr × Nat × Int32) := bif Nat.blt pc 155 then (bif Nat.blt pc 111 then (bif Nat.blt pc 88 then (bif Nat.blt pc 10 then (bif Nat.blt pc 3 then (bif Nat.blt pc 1 then (bif Nat.beq pc 0 then some (.iconst 0, 0, 0) else none) else (bif Nat.beq pc 1 then some (.bipush 14, 0, 14) else none)) else (bif Nat.blt pc 4 then (bif Nat.beq pc 3 then some (.iload_n 1, 0, 0) else none) else (bif Nat.blt pc 7 then (bif Nat.beq pc 4 then some (.invokestatic 55, 0, 0) else none) else (bif Nat.beq pc 7 then some (.invokestatic 59, 0, 0) else none)))) else (bif Nat.blt pc 81 then (bif Nat.blt pc 11 then (bif Nat.beq pc 10 then some (.iload_n 1, 0, 0) else none) else (bif Nat.blt pc 80 then (bif Nat.beq pc 11 then some (.tableswitch 232 0 13 #[69, 77, 89, 101, 116, 128, 140, 152, 167, 175, 186, 197, 205, 221], 0, 0) else none) else (bif Nat.beq pc 80 then some (.aload_n 0, 0, 0) else none))) else (bif Nat.blt pc 84 then (bif Nat.beq pc 81 then some (.getfield 12, 0, 0) else none) else (bif Nat.blt pc 87 then (bif Nat.beq pc 84 then some (.getfield 184, 0, 0) else none) else (bif Nat.beq pc 87 then some (.ireturn, 0, 0) else none))))) else (bif Nat.blt pc 99 then (bif Nat.blt pc 92 then (bif Nat.blt pc 89 then (bif Nat.beq pc 88 then some (.aload_n 0, 0, 0) else none) else (bif Nat.beq pc 89 then some (.getfield 12, 0, 0) else none)) else (bif Nat.blt pc 95 then (bif Nat.beq pc 92 then some (.getfield 63, 0, 0) else none) else (bif Nat.blt pc 96 then (bif Nat.beq pc 95 then some (.iconst 2, 0, 2) else none) else (bif Nat.beq pc 96 then some (.invokevirtual 104, 0, 0) else none)))) else (bif Nat.blt pc 104 then (bif Nat.blt pc 100 then (bif Nat.beq pc 99 then some (.ireturn, 0, 0) else none) else (bif Nat.blt pc 101 then (bif Nat.beq pc 100 then some (.aload_n 0, 0, 0) else none) else (bif Nat.beq pc 101 then some (.getfield 12, 0, 0) else none))) else (bif Nat.blt pc 107 then (bif Nat.beq pc 104 then some (.getfield 63, 0, 0) else none) else (bif Nat.blt pc 108 then (bif Nat.beq pc 107 then some (.iconst 1, 0, 1) else none) else (bif Nat.beq pc 108 then some (.invokevirtual 104, 0, 0) else none)))))) else (bif Nat.blt pc 132 then (bif Nat.blt pc 120 then (bif Nat.blt pc 113 then (bif Nat.blt pc 112 then (bif Nat.beq pc 111 then some (.ireturn, 0, 0) else none) else (bif Nat.beq pc 112 then some (.aload_n 0, 0, 0) else none)) else (bif Nat.blt pc 116 then (bif Nat.beq pc 113 then some (.getfield 12, 0, 0) else none) else (bif Nat.blt pc 117 then (bif Nat.beq pc 116 then some (.aload_n 0, 0, 0) else none) else (bif Nat.beq pc 117 then some (.getfield 12, 0, 0) else none)))) else (bif Nat.blt pc 127 then (bif Nat.blt pc 123 then (bif Nat.beq pc 120 then some (.invokevirtual 187, 0, 0) else none) else (bif Nat.blt pc 126 then (bif Nat.beq pc 123 then some (.invokevirtual 190, 0, 0) else none) else (bif Nat.beq pc 126 then some (.ireturn, 0, 0) else none))) else (bif Nat.blt pc 128 then (bif Nat.beq pc 127 then some (.aload_n 0, 0, 0) else none) else (bif Nat.blt pc 131 then (bif Nat.beq pc 128 then some (.invokevirtual 172, 0, 0) else none) else (bif Nat.beq pc 131 then some (.aload_n 0, 0, 0) else none))))) else (bif Nat.blt pc 143 then (bif Nat.blt pc 138 then (bif Nat.blt pc 135 then (bif Nat.beq pc 132 then some (.getfield 47, 0, 0) else none) else (bif Nat.beq pc 135 then some (.getfield 193, 0, 0) else none)) else (bif Nat.blt pc 139 then (bif Nat.beq pc 138 then some (.ireturn, 0, 0) else none) else (bif Nat.blt pc 140 then (bif Nat.beq pc 139 then some (.aload_n 0, 0, 0) else none) else (bif Nat.beq pc 140 then some (.invokevirtual 172, 0, 0) else none)))) else (bif Nat.blt pc 150 then (bif Nat.blt pc 144 then (bif Nat.beq pc 143 then some (.aload_n 0, 0, 0) else none) else (bif Nat.blt pc 147 then (bif Nat.beq pc 144 then some (.getfield 47, 0, 0) else none) else (bif Nat.beq pc 147 then some (.getfield 196, 0, 0) else none))) else (bif Nat.blt pc 151 then (bif Nat.beq pc 150 then some (.ireturn, 0, 0) else none) else (bif Nat.blt pc 152 then (bif Nat.beq pc 151 then some (.aload_n 0, 0, 0) else none) else (bif Nat.beq pc 152 then some (.invokevirtual 172, 0, 0) else none))))))) else (bif Nat.blt pc 201 then (bif Nat.blt pc 178 then (bif Nat.blt pc 164 then (bif Nat.blt pc 159 then (bif Nat.blt pc 156 then (bif Nat.beq pc 155 then some (.aload_n 0, 0, 0) else none) else (bif Nat.beq pc 156 then some (.getfield 47, 0, 0) else none)) else (bif Nat.blt pc 162 then (bif Nat.beq pc 159 then some (.getfield 199, 0, 0) else none) else (bif Nat.blt pc 163 then (bif Nat.beq pc 162 then some (.ireturn, 0, 0) else none) else (bif Nat.beq pc 163 then some (.aload_n 0, 0, 0) else none)))) else (bif Nat.blt pc 171 then (bif Nat.blt pc 167 then (bif Nat.beq pc 164 then some (.invokevirtual 172, 0, 0) else none) else (bif Nat.blt pc 168 then (bif Nat.beq pc 167 then some (.aload_n 0, 0, 0) else none) else (bif Nat.beq pc 168 then some (.getfield 47, 0, 0) else none))) else (bif Nat.blt pc 174 then (bif Nat.beq pc 171 then some (.getfield 202, 0, 0) else none) else (bif Nat.blt pc 177 then (bif Nat.beq pc 174 then some (.invokestatic 112, 0, 0) else none) else (bif Nat.beq pc 177 then some (.ireturn, 0, 0) else none))))) else (bif Nat.blt pc 187 then (bif Nat.blt pc 182 then (bif Nat.blt pc 179 then (bif Nat.beq pc 178 then some (.aload_n 0, 0, 0) else none) else (bif Nat.beq pc 179 then some (.getfield 12, 0, 0) else none)) else (bif Nat.blt pc 185 then (bif Nat.beq pc 182 then some (.getfield 205, 0, 0) else none) else (bif Nat.blt pc 186 then (bif Nat.beq pc 185 then some (.ireturn, 0, 0) else none) else (bif Nat.beq pc 186 then some (.aload_n 0, 0, 0) else none)))) else (bif Nat.blt pc 196 then (bif Nat.blt pc 190 then (bif Nat.beq pc 187 then some (.getfield 12, 0, 0) else none) else (bif Nat.blt pc 193 then (bif Nat.beq pc 190 then some (.getfield 208, 0, 0) else none) else (bif Nat.beq pc 193 then some (.invokestatic 112, 0, 0) else none))) else (bif Nat.blt pc 197 then (bif Nat.beq pc 196 then some (.ireturn, 0, 0) else none) else (bif Nat.blt pc 198 then (bif Nat.beq pc 197 then some (.aload_n 0, 0, 0) else none) else (bif Nat.beq pc 198 then some (.getfield 12, 0, 0) else none)))))) else (bif Nat.blt pc 224 then (bif Nat.blt pc 212 then (bif Nat.blt pc 207 then (bif Nat.blt pc 204 then (bif Nat.beq pc 201 then some (.getfield 108, 0, 0) else none) else (bif Nat.beq pc 204 then some (.invokestatic 112, 0, 0) else none)) else (bif Nat.blt pc 208 then (bif Nat.beq pc 207 then some (.ireturn, 0, 0) else none) else (bif Nat.blt pc 209 then (bif Nat.beq pc 208 then some (.aload_n 0, 0, 0) else none) else (bif Nat.beq pc 209 then some (.getfield 12, 0, 0) else none)))) else (bif Nat.blt pc 217 then (bif Nat.blt pc 215 then (bif Nat.beq pc 212 then some (.invokevirtual 126, 0, 0) else none) else (bif Nat.blt pc 216 then (bif Nat.beq pc 215 then some (.ireturn, 0, 0) else none) else (bif Nat.beq pc 216 then some (.aload_n 0, 0, 0) else none))) else (bif Nat.blt pc 220 then (bif Nat.beq pc 217 then some (.getfield 12, 0, 0) else none) else (bif Nat.blt pc 223 then (bif Nat.beq pc 220 then some (.getfield 184, 0, 0) else none) else (bif Nat.beq pc 223 then some (.aload_n 0, 0, 0) else none))))) else (bif Nat.blt pc 236 then (bif Nat.blt pc 231 then (bif Nat.blt pc 227 then (bif Nat.beq pc 224 then some (.getfield 12, 0, 0) else none) else (bif Nat.blt pc 230 then (bif Nat.beq pc 227 then some (.invokevirtual 211, 0, 0) else none) else (bif Nat.beq pc 230 then some (.isub, 0, 0) else none))) else (bif Nat.blt pc 232 then (bif Nat.beq pc 231 then some (.ireturn, 0, 0) else none) else (bif Nat.blt pc 233 then (bif Nat.beq pc 232 then some (.aload_n 0, 0, 0) else none) else (bif Nat.beq pc 233 then some (.getfield 12, 0, 0) else none)))) else (bif Nat.blt pc 243 then (bif Nat.blt pc 239 then (bif Nat.beq pc 236 then some (.getfield 63, 0, 0) else none) else (bif Nat.blt pc 242 then (bif Nat.beq pc 239 then some (.invokevirtual 214, 0, 0) else none) else (bif Nat.beq pc 242 then some (.ireturn, 0, 0) else none))) else (bif Nat.blt pc 244 then (bif Nat.beq pc 243 then some (.aload_n 0, 0, 0) else none) else (bif Nat.blt pc 247 then (bif Nat.beq pc 244 then some (.getfield 27, 0, 0) else none) else (bif Nat.beq pc 247 then some (.ireturn, 0, 0) else none)))))))
def z_c45 (pc : Nat) : Option (Instr × Nat × Int32) := bif Nat.blt pc 8 then (bif Nat.blt pc 4 then (bif Nat.blt pc 1 then (bif Nat.beq pc 0 then some (.iload_n 1, 0, 0) else none) else (bif Nat.beq pc 1 then some (.invokestatic 134, 0, 0) else none)) else (bif Nat.blt pc 5 then (bif Nat.beq pc 4 then some (.aload_n 0, 0, 0) else none) else (bif Nat.beq pc 5 then some (.getfield 12, 0, 0) else none))) else (bif Nat.blt pc 12 then (bif Nat.blt pc 11 then (bif Nat.beq pc 8 then some (.getfield 137, 0, 0) else none) else (bif Nat.beq pc 11 then some (.iload_n 1, 0, 0) else none)) else (bif Nat.blt pc 13 then (bif Nat.beq pc 12 then some (.iaload, 0, 0) else none) else (bif Nat.beq pc 13 then some (.ireturn, 0, 0) else none)))
def z_c46 (pc : Nat) : Option (Instr × Nat × Int32) := bif Nat.blt pc 26 then (bif Nat.blt pc 18 then (bif Nat.blt pc 8 then (bif Nat.blt pc 4 then (bif Nat.blt pc 1 then (bif Nat.beq pc 0 then some (.iload_n 1, 0, 0) else none) else (bif Nat.beq pc 1 then some (.invokestatic 51, 0, 0) else none)) else (bif Nat.blt pc 7 then (bif Nat.beq pc 4 then some (.invokestatic 59, 0, 0) else none) else (bif Nat.beq pc 7 then some (.aload_n 0, 0, 0) else none))) else (bif Nat.blt pc 14 then (bif Nat.blt pc 11 then (bif Nat.beq pc 8 then some (.getfield 12, 0, 0) else none) else (bif Nat.beq pc 11 then some (.getfield 63, 0, 0) else none)) else (bif Nat.blt pc 15 then (bif Nat.beq pc 14 then some (.iconst 2, 0, 2) else none) else (bif Nat.beq pc 15 then some (.invokevirtual 217, 0, 0) else none)))) else (bif Nat.blt pc 22 then (bif Nat.blt pc 20 then (bif Nat.blt pc 19 then (bif Nat.beq pc 18 then some (.iconst 1, 0, 1) else none) else (bif Nat.beq pc 19 then some (.iload_n 1, 0, 0) else none)) else (bif Nat.blt pc 21 then (bif Nat.beq pc 20 then some (.ishl, 0, 0) else none) else (bif Nat.beq pc 21 then some (.iconst (-1), 0, (-1)) else none))) else (bif Nat.blt pc 24 then (bif Nat.blt pc 23 then (bif Nat.beq pc 22 then some (.ixor, 0, 0) else none) else (bif Nat.beq pc 23 then some (.iand, 0, 0) else none)) else (bif Nat.blt pc 25 then (bif Nat.beq pc 24 then some (.istore_n 2, 0, 0) else none) else (bif Nat.beq pc 25 then some (.aload_n 0, 0, 0) else none))))) else (bif Nat.blt pc 42 then (bif Nat.blt pc 36 then (bif Nat.blt pc 30 then (bif Nat.blt pc 29 then (bif Nat.beq pc 26 then some (.getfield 47, 0, 0) else none) else (bif Nat.beq pc 29 then some (.aload_n 0, 0, 0) else none)) else (bif Nat.blt pc 33 then (bif Nat.beq pc 30 then some (.getfield 12, 0, 0) else none) else (bif Nat.beq pc 33 then some (.getfield 63, 0, 0) else none))) else (bif Nat.blt pc 38 then (bif Nat.blt pc 37 then (bif Nat.beq pc 36 then some (.iload_n 2, 0, 0) else none) else (bif Nat.beq pc 37 then some (.aload_n 0, 0, 0) else none)) else (bif Nat.blt pc 41 then (bif Nat.beq pc 38 then some (.getfield 12, 0, 0) else none) else (bif Nat.beq pc 41 then some (.aload_n 0, 0, 0) else none)))) else (bif Nat.blt pc 54 then (bif Nat.blt pc 48 then (bif Nat.blt pc 45 then (bif Nat.beq pc 42 then some (.getfield 12, 0, 0) else none) else (bif Nat.beq pc 45 then some (.invokevirtual 187, 0, 0) else none)) else (bif Nat.blt pc 51 then (bif Nat.beq pc 48 then some (.invokevirtual 190, 0, 0) else none) else (bif Nat.beq pc 51 then some (.invokevirtual 220, 0, 0) else none))) else (bif Nat.blt pc 58 then (bif Nat.blt pc 55 then (bif Nat.beq pc 54 then some (.aload_n 0, 0, 0) else none) else (bif Nat.beq pc 55 then some (.getfield 47, 0, 0) else none)) else (bif Nat.blt pc 61 then (bif Nat.beq pc 58 then some (.getfield 193, 0, 0) else none) else (bif Nat.beq pc 61 then some (.ireturn, 0, 0) else none)))))
def z_c47 (pc : Nat) : Option (Instr × Nat × Int32) := bif Nat.blt pc 72 then (bif Nat.blt pc 36 then (bif Nat.blt pc 17 then (bif Nat.blt pc 8 then (bif Nat.blt pc 4 then (bif Nat.blt pc 1 then (bif Nat.beq pc 0 then some (.iload_n 1, 0, 0) else none) else (bif Nat.beq pc 1 then some (.invokestatic 116, 0, 0) else none)) else (bif Nat.blt pc 7 then (bif Nat.beq pc 4 then some (.ifCond .eq 16, 20, 0) else none) else (bif Nat.beq pc 7 then some (.iconst 0, 0, 0) else none))) else (bif Nat.blt pc 10 then (bif Nat.blt pc 9 then (bif Nat.beq pc 8 then some (.iconst 1, 0, 1) else none) else (bif Nat.beq pc 9 then some (.iload_n 2, 0, 0) else none)) else (bif Nat.blt pc 13 then (bif Nat.beq pc 10 then some (.invokestatic 55, 0, 0) else none) else (bif Nat.blt pc 16 then (bif Nat.beq pc 13 then some (.ifCond .eq 7, 20, 0) else none) else (bif Nat.beq pc 16 then some (.iconst 1, 0, 1) else none))))) else (bif Nat.blt pc 25 then (bif Nat.blt pc 21 then (bif Nat.blt pc 20 then (bif Nat.beq pc 17 then some (.goto 4, 21, 0) else none) else (bif Nat.beq pc 20 then some (.iconst 0, 0, 0) else none)) else (bif Nat.blt pc 24 then (bif Nat.beq pc 21 then some (.invokestatic 59, 0, 0) else none) else (bif Nat.beq pc 24 then some (.aload_n 0, 0, 0) else none))) else (bif Nat.blt pc 31 then (bif Nat.blt pc 28 then (bif Nat.beq pc 25 then some (.getfield 12, 0, 0) else none) else (bif Nat.beq pc 28 then some (.getfield 63, 0, 0) else none)) else (bif Nat.blt pc 32 then (bif Nat.beq pc 31 then some (.iconst 3, 0, 3) else none) else (bif Nat.blt pc 35 then (bif Nat.beq pc 32 then some (.invokevirtual 217, 0, 0) else none) else (bif Nat.beq pc 35 then some (.istore_n 3, 0, 0) else none)))))) else (bif Nat.blt pc 52 then (bif Nat.blt pc 44 then (bif Nat.blt pc 40 then (bif Nat.blt pc 37 then (bif Nat.beq pc 36 then some (.aload_n 0, 0, 0) else none) else (bif Nat.beq pc 37 then some (.getfield 12, 0, 0) else none)) else (bif Nat.blt pc 41 then (bif Nat.beq pc 40 then some (.iload_n 1, 0, 0) else none) else (bif Nat.beq pc 41 then some (.invokevirtual 190, 0, 0) else none))) else (bif Nat.blt pc 47 then (bif Nat.blt pc 46 then (bif Nat.beq pc 44 then some (.istore 4, 0, 0) else none) else (bif Nat.beq pc 46 then some (.iconst (-1), 0, (-1)) else none)) else (bif Nat.blt pc 49 then (bif Nat.beq pc 47 then some (.istore 5, 0, 0) else none) else (bif Nat.blt pc 50 then (bif Nat.beq pc 49 then some (.iconst (-1), 0, (-1)) else none) else (bif Nat.beq pc 50 then some (.istore 6, 0, 0) else none))))) else (bif Nat.blt pc 62 then (bif Nat.blt pc 55 then (bif Nat.blt pc 53 then (bif Nat.beq pc 52 then some (.iconst 0, 0, 0) else none) else (bif Nat.beq pc 53 then some (.istore 7, 0, 0) else none)) else (bif Nat.blt pc 57 then (bif Nat.beq pc 55 then some (.iload 7, 0, 0) else none) else (bif Nat.blt pc 59 then (bif Nat.beq pc 57 then some (.bipush 16, 0, 16) else none) else (bif Nat.beq pc 59 then some (.if_icmp .ge 87, 146, 0) else none)))) else (bif Nat.blt pc 65 then (bif Nat.blt pc 64 then (bif Nat.beq pc 62 then some (.iload 7, 0, 0) else none) else (bif Nat.beq pc 64 then some (.iload_n 3, 0, 0) else none)) else (bif Nat.blt pc 66 then (bif Nat.beq pc 65 then some (.iand, 0, 0) else none) else (bif Nat.blt pc 69 then (bif Nat.beq pc 66 then some (.ifCond .eq 6, 72, 0) else none) else (bif Nat.beq pc 69 then some (.goto 71, 140, 0) else none))))))) else (bif Nat.blt pc 116 then (bif Nat.blt pc 91 then (bif Nat.blt pc 80 then (bif Nat.blt pc 76 then (bif Nat.blt pc 73 then (bif Nat.beq pc 72 then some (.aload_n 0, 0, 0) else none) else (bif Nat.beq pc 73 then some (.getfield 47, 0, 0) else none)) else (bif Nat.blt pc 77 then (bif Nat.beq pc 76 then some (.aload_n 0, 0, 0) else none) else (bif Nat.beq pc 77 then some (.getfield 12, 0, 0) else none))) else (bif Nat.blt pc 85 then (bif Nat.blt pc 83 then (bif Nat.beq pc 80 then some (.getfield 63, 0, 0) else none) else (bif Nat.beq pc 83 then some (.iload 7, 0, 0) else none)) else (bif Nat.blt pc 87 then (bif Nat.beq pc 85 then some (.iload 4, 0, 0) else none) else (bif Nat.blt pc 90 then (bif Nat.beq pc 87 then some (.invokevirtual 220, 0, 0) else none) else (bif Nat.beq pc 90 then some (.aload_n 0, 0, 0) else none))))) else (bif Nat.blt pc 104 then (bif Nat.blt pc 97 then (bif Nat.blt pc 94 then (bif Nat.beq pc 91 then some (.getfield 12, 0, 0) else none) else (bif Nat.beq pc 94 then some (.getfield 63, 0, 0) else none)) else (bif Nat.blt pc 98 then (bif Nat.beq pc 97 then some (.aload_n 0, 0, 0) else none) else (bif Nat.blt pc 101 then (bif Nat.beq pc 98 then some (.getfield 47, 0, 0) else none) else (bif Nat.beq pc 101 then some (.getfield 175, 0, 0) else none)))) else (bif Nat.blt pc 109 then (bif Nat.blt pc 107 then (bif Nat.beq pc 104 then some (.invokevirtual 224, 0, 0) else none) else (bif Nat.beq pc 107 then some (.istore 8, 0, 0) else none)) else (bif Nat.blt pc 110 then (bif Nat.beq pc 109 then some (.aload_n 0, 0, 0) else none) else (bif Nat.blt pc 113 then (bif Nat.beq pc 110 then some (.getfield 47, 0, 0) else none) else (bif Nat.beq pc 113 then some (.getfield 202, 0, 0) else none)))))) else (bif Nat.blt pc 136 then (bif Nat.blt pc 125 then (bif Nat.blt pc 121 then (bif Nat.blt pc 119 then (bif Nat.beq pc 116 then some (.ifCond .eq 24, 140, 0) else none) else (bif Nat.beq pc 119 then some (.iload 5, 0, 0) else none)) else (bif Nat.blt pc 122 then (bif Nat.beq pc 121 then some (.iconst (-1), 0, (-1)) else none) else (bif Nat.beq pc 122 then some (.if_icmp .eq 10, 132, 0) else none))) else (bif Nat.blt pc 129 then (bif Nat.blt pc 127 then (bif Nat.beq pc 125 then some (.iload 8, 0, 0) else none) else (bif Nat.beq pc 127 then some (.iload 6, 0, 0) else none)) else (bif Nat.blt pc 132 then (bif Nat.beq pc 129 then some (.if_icmp .ge 11, 140, 0) else none) else (bif Nat.blt pc 134 then (bif Nat.beq pc 132 then some (.iload 7, 0, 0) else none) else (bif Nat.beq pc 134 then some (.istore 5, 0, 0) else none))))) else (bif Nat.blt pc 147 then (bif Nat.blt pc 140 then (bif Nat.blt pc 138 then (bif Nat.beq pc 136 then some (.iload 8, 0, 0) else none) else (bif Nat.beq pc 138 then some (.istore 6, 0, 0) else none)) else (bif Nat.blt pc 143 then (bif Nat.beq pc 140 then some (.iinc 7 1, 0, 1) else none) else (bif Nat.blt pc 146 then (bif Nat.beq pc 143 then some (.goto (-88), 55, 0) else none) else (bif Nat.beq pc 146 then some (.iload_n 2, 0, 0) else none)))) else (bif Nat.blt pc 152 then (bif Nat.blt pc 150 then (bif Nat.beq pc 147 then some (.ifCond .ne 8, 155, 0) else none) else (bif Nat.beq pc 150 then some (.iload 5, 0, 0) else none)) else (bif Nat.blt pc 155 then (bif Nat.beq pc 152 then some (.goto 5, 157, 0) else none) else (bif Nat.blt pc 157 then (bif Nat.beq pc 155 then some (.iload 6, 0, 0) else none) else (bif Nat.beq pc 157 then some (.ireturn, 0, 0) else none)))))))
def z_c48 (pc : Nat) : Option (Instr × Nat × Int32) := bif Nat.blt pc 33 then (bif Nat.blt pc 17 then (bif Nat.blt pc 8 then (bif Nat.blt pc 4 then (bif Nat.blt pc 1 then (bif Nat.beq pc 0 then some (.aload_n 0, 0, 0) else none) else (bif Nat.beq pc 1 then some (.getfield 16, 0, 0) else none)) else (bif Nat.blt pc 5 then (bif Nat.beq pc 4 then some (.aload_n 0, 0, 0) else none) else (bif Nat.beq pc 5 then some (.getfield 12, 0, 0) else none))) else (bif Nat.blt pc 12 then (bif Nat.blt pc 11 then (bif Nat.beq pc 8 then some (.invokevirtual 168, 0, 0) else none) else (bif Nat.beq pc 11 then some (.aload_n 0, 0, 0) else none)) else (bif Nat.blt pc 15 then (bif Nat.beq pc 12 then some (.getfield 16, 0, 0) else none) else (bif Nat.beq pc 15 then some (.bipush 48, 0, 48) else none)))) else (bif Nat.blt pc 25 then (bif Nat.blt pc 21 then (bif Nat.blt pc 18 then (bif Nat.beq pc 17 then some (.aload_n 0, 0, 0) else none) else (bif Nat.beq pc 18 then some (.getfield 47, 0, 0) else none)) else (bif Nat.blt pc 24 then (bif Nat.beq pc 21 then some (.invokevirtual 130, 0, 0) else none) else (bif Nat.beq pc 24 then some (.aload_n 0, 0, 0) else none))) else (bif Nat.blt pc 31 then (bif Nat.blt pc 28 then (bif Nat.beq pc 25 then some (.getfield 12, 0, 0) else none) else (bif Nat.beq pc 28 then some (.getfield 184, 0, 0) else none)) else (bif Nat.blt pc 32 then (bif Nat.beq pc 31 then some (.istore_n 1, 0, 0) else none) else (bif Nat.beq pc 32 then some (.iload_n 1, 0, 0) else none))))) else (bif Nat.blt pc 48 then (bif Nat.blt pc 42 then (bif Nat.blt pc 38 then (bif Nat.blt pc 35 then (bif Nat.beq pc 33 then some (.bipush 48, 0, 48) else none) else (bif Nat.beq pc 35 then some (.if_icmp .ge 25, 60, 0) else none)) else (bif Nat.blt pc 39 then (bif Nat.beq pc 38 then some (.aload_n 0, 0, 0) else none) else (bif Nat.beq pc 39 then some (.getfield 16, 0, 0) else none))) else (bif Nat.blt pc 46 then (bif Nat.blt pc 45 then (bif Nat.beq pc 42 then some (.getfield 119, 0, 0) else none) else (bif Nat.beq pc 45 then some (.iconst 2, 0, 2) else none)) else (bif Nat.blt pc 47 then (bif Nat.beq pc 46 then some (.aaload, 0, 0) else none) else (bif Nat.beq pc 47 then some (.iload_n 1, 0, 0) else none)))) else (bif Nat.blt pc 54 then (bif Nat.blt pc 52 then (bif Nat.blt pc 49 then (bif Nat.beq pc 48 then some (.iaload, 0, 0) else none) else (bif Nat.beq pc 49 then some (.ifCond .le 5, 54, 0) else none)) else (bif Nat.blt pc 53 then (bif Nat.beq pc 52 then some (.iload_n 1, 0, 0) else none) else (bif Nat.beq pc 53 then some (.ireturn, 0, 0) else none))) else (bif Nat.blt pc 60 then (bif Nat.blt pc 57 then (bif Nat.beq pc 54 then some (.iinc 1 1, 0, 1) else none) else (bif Nat.beq pc 57 then some (.goto (-25), 32, 0) else none)) else (bif Nat.blt pc 61 then (bif Nat.beq pc 60 then some (.iconst (-1), 0, (-1)) else none) else (bif Nat.beq pc 61 then some (.ireturn, 0, 0) else none)))))
def z_c49 (pc : Nat) : Option (Instr × Nat × Int32) := bif Nat.blt pc 47 then (bif Nat.blt pc 24 then (bif Nat.blt pc 11 then (bif Nat.blt pc 4 then (bif Nat.blt pc 1 then (bif Nat.beq pc 0 then some (.aload_n 0, 0, 0) else none) else (bif Nat.beq pc 1 then some (.getfield 16, 0, 0) else none)) else (bif Nat.blt pc 5 then (bif Nat.beq pc 4 then some (.aload_n 0, 0, 0) else none) else (bif Nat.blt pc 8 then (bif Nat.beq pc 5 then some (.getfield 12, 0, 0) else none) else (bif Nat.beq pc 8 then some (.invokevirtual 168, 0, 0) else none)))) else (bif Nat.blt pc 17 then (bif Nat.blt pc 12 then (bif Nat.beq pc 11 then some (.aload_n 0, 0, 0) else none) else (bif Nat.blt pc 15 then (bif Nat.beq pc 12 then some (.getfield 16, 0, 0) else none) else (bif Nat.beq pc 15 then some (.bipush 48, 0, 48) else none))) else (bif Nat.blt pc 18 then (bif Nat.beq pc 17 then some (.aload_n 0, 0, 0) else none) else (bif Nat.blt pc 21 then (bif Nat.beq pc 18 then some (.getfield 47, 0, 0) else none) else (bif Nat.beq pc 21 then some (.invokevirtual 130, 0, 0) else none))))) else (bif Nat.blt pc 33 then (bif Nat.blt pc 28 then (bif Nat.blt pc 25 then (bif Nat.beq pc 24 then some (.aload_n 0, 0, 0) else none) else (bif Nat.beq pc 25 then some (.getfield 16, 0, 0) else none)) else (bif Nat.blt pc 31 then (bif Nat.beq pc 28 then some (.invokevirtual 126, 0, 0) else none) else (bif Nat.blt pc 32 then (bif Nat.beq pc 31 then some (.istore_n 1, 0, 0) else none) else (bif Nat.beq pc 32 then some (.aload_n 0, 0, 0) else none)))) else (bif Nat.blt pc 40 then (bif Nat.blt pc 36 then (bif Nat.beq pc 33 then some (.getfield 16, 0, 0) else none) else (bif Nat.blt pc 37 then (bif Nat.beq pc 36 then some (.aload_n 0, 0, 0) else none) else (bif Nat.beq pc 37 then some (.getfield 12, 0, 0) else none))) else (bif Nat.blt pc 43 then (bif Nat.beq pc 40 then some (.invokevirtual 168, 0, 0) else none) else (bif Nat.blt pc 44 then (bif Nat.beq pc 43 then some (.aload_n 0, 0, 0) else none) else (bif Nat.beq pc 44 then some (.getfield 16, 0, 0) else none)))))) else (bif Nat.blt pc 71 then (bif Nat.blt pc 58 then (bif Nat.blt pc 51 then (bif Nat.blt pc 48 then (bif Nat.beq pc 47 then some (.aload_n 0, 0, 0) else none) else (bif Nat.beq pc 48 then some (.getfield 12, 0, 0) else none)) else (bif Nat.blt pc 54 then (bif Nat.beq pc 51 then some (.getfield 108, 0, 0) else none) else (bif Nat.blt pc 57 then (bif Nat.beq pc 54 then some (.ifCond .ne 7, 61, 0) else none) else (bif Nat.beq pc 57 then some (.iconst 1, 0, 1) else none)))) else (bif Nat.blt pc 65 then (bif Nat.blt pc 61 then (bif Nat.beq pc 58 then some (.goto 4, 62, 0) else none) else (bif Nat.blt pc 62 then (bif Nat.beq pc 61 then some (.iconst 0, 0, 0) else none) else (bif Nat.beq pc 62 then some (.putfield 108, 0, 0) else none))) else (bif Nat.blt pc 66 then (bif Nat.beq pc 65 then some (.aload_n 0, 0, 0) else none) else (bif Nat.blt pc 69 then (bif Nat.beq pc 66 then some (.getfield 16, 0, 0) else none) else (bif Nat.beq pc 69 then some (.bipush 48, 0, 48) else none))))) else (bif Nat.blt pc 80 then (bif Nat.blt pc 75 then (bif Nat.blt pc 72 then (bif Nat.beq pc 71 then some (.aload_n 0, 0, 0) else none) else (bif Nat.beq pc 72 then some (.getfield 47, 0, 0) else none)) else (bif Nat.blt pc 78 then (bif Nat.beq pc 75 then some (.invokevirtual 130, 0, 0) else none) else (bif Nat.blt pc 79 then (bif Nat.beq pc 78 then some (.iload_n 1, 0, 0) else none) else (bif Nat.beq pc 79 then some (.aload_n 0, 0, 0) else none)))) else (bif Nat.blt pc 87 then (bif Nat.blt pc 83 then (bif Nat.beq pc 80 then some (.getfield 16, 0, 0) else none) else (bif Nat.blt pc 86 then (bif Nat.beq pc 83 then some (.invokevirtual 126, 0, 0) else none) else (bif Nat.beq pc 86 then some (.isub, 0, 0) else none))) else (bif Nat.blt pc 89 then (bif Nat.beq pc 87 then some (.bipush 100, 0, 100) else none) else (bif Nat.blt pc 90 then (bif Nat.beq pc 89 then some (.iadd, 0, 0) else none) else (bif Nat.beq pc 90 then some (.ireturn, 0, 0) else none))))))
def z_c50 (pc : Nat) : Option (Instr × Nat × Int32) := bif Nat.blt pc 87 then (bif Nat.blt pc 39 then (bif Nat.blt pc 21 then (bif Nat.blt pc 11 then (bif Nat.blt pc 4 then (bif Nat.blt pc 1 then (bif Nat.beq pc 0 then some (.aload_n 0, 0, 0) else none) else (bif Nat.beq pc 1 then some (.getfield 16, 0, 0) else none)) else (bif Nat.blt pc 5 then (bif Nat.beq pc 4 then some (.aload_n 0, 0, 0) else none) else (bif Nat.blt pc 8 then (bif Nat.beq pc 5 then some (.getfield 12, 0, 0) else none) else (bif Nat.beq pc 8 then some (.invokevirtual 168, 0, 0) else none)))) else (bif Nat.blt pc 15 then (bif Nat.blt pc 12 then (bif Nat.beq pc 11 then some (.aload_n 0, 0, 0) else none) else (bif Nat.beq pc 12 then some (.getfield 16, 0, 0) else none)) else (bif Nat.blt pc 17 then (bif Nat.beq pc 15 then some (.bipush 48, 0, 48) else none) else (bif Nat.blt pc 18 then (bif Nat.beq pc 17 then some (.aload_n 0, 0, 0) else none) else (bif Nat.beq pc 18 then some (.getfield 47, 0, 0) else none))))) else (bif Nat.blt pc 32 then (bif Nat.blt pc 25 then (bif Nat.blt pc 24 then (bif Nat.beq pc 21 then some (.invokevirtual 130, 0, 0) else none) else (bif Nat.beq pc 24 then some (.aload_n 0, 0, 0) else none)) else (bif Nat.blt pc 28 then (bif Nat.beq pc 25 then some (.getfield 16, 0, 0) else none) else (bif Nat.blt pc 31 then (bif Nat.beq pc 28 then some (.invokevirtual 126, 0, 0) else none) else (bif Nat.beq pc 31 then some (.istore_n 1, 0, 0) else none)))) else (bif Nat.blt pc 35 then (bif Nat.blt pc 33 then (bif Nat.beq pc 32 then some (.iconst 0, 0, 0) else none) else (bif Nat.blt pc 34 then (bif Nat.beq pc 33 then some (.istore_n 2, 0, 0) else none) else (bif Nat.beq pc 34 then some (.iconst (-1), 0, (-1)) else none))) else (bif Nat.blt pc 36 then (bif Nat.beq pc 35 then some (.istore_n 3, 0, 0) else none) else (bif Nat.blt pc 37 then (bif Nat.beq pc 36 then some (.iconst 0, 0, 0) else none) else (bif Nat.beq pc 37 then some (.istore 4, 0, 0) else none)))))) else (bif Nat.blt pc 61 then (bif Nat.blt pc 49 then (bif Nat.blt pc 42 then (bif Nat.blt pc 41 then (bif Nat.beq pc 39 then some (.iload 4, 0, 0) else none) else (bif Nat.beq pc 41 then some (.iconst 4, 0, 4) else none)) else (bif Nat.blt pc 45 then (bif Nat.beq pc 42 then some (.if_icmp .ge 129, 171, 0) else none) else (bif Nat.blt pc 46 then (bif Nat.beq pc 45 then some (.aload_n 0, 0, 0) else none) else (bif Nat.beq pc 46 then some (.getfield 12, 0, 0) else none)))) else (bif Nat.blt pc 55 then (bif Nat.blt pc 52 then (bif Nat.beq pc 49 then some (.getfield 63, 0, 0) else none) else (bif Nat.beq pc 52 then some (.getfield 67, 0, 0) else none)) else (bif Nat.blt pc 57 then (bif Nat.beq pc 55 then some (.iload 4, 0, 0) else none) else (bif Nat.blt pc 58 then (bif Nat.beq pc 57 then some (.iaload, 0, 0) else none) else (bif Nat.beq pc 58 then some (.ifCond .eq 6, 64, 0) else none))))) else (bif Nat.blt pc 72 then (bif Nat.blt pc 65 then (bif Nat.blt pc 64 then (bif Nat.beq pc 61 then some (.goto 104, 165, 0) else none) else (bif Nat.beq pc 64 then some (.aload_n 0, 0, 0) else none)) else (bif Nat.blt pc 68 then (bif Nat.beq pc 65 then some (.getfield 16, 0, 0) else none) else (bif Nat.blt pc 69 then (bif Nat.beq pc 68 then some (.aload_n 0, 0, 0) else none) else (bif Nat.beq pc 69 then some (.getfield 12, 0, 0) else none)))) else (bif Nat.blt pc 79 then (bif Nat.blt pc 75 then (bif Nat.beq pc 72 then some (.invokevirtual 168, 0, 0) else none) else (bif Nat.blt pc 76 then (bif Nat.beq pc 75 then some (.aload_n 0, 0, 0) else none) else (bif Nat.beq pc 76 then some (.getfield 16, 0, 0) else none))) else (bif Nat.blt pc 82 then (bif Nat.beq pc 79 then some (.getfield 63, 0, 0) else none) else (bif Nat.blt pc 84 then (bif Nat.beq pc 82 then some (.iload 4, 0, 0) else none) else (bif Nat.beq pc 84 then some (.invokevirtual 90, 0, 0) else none))))))) else (bif Nat.blt pc 132 then (bif Nat.blt pc 109 then (bif Nat.blt pc 97 then (bif Nat.blt pc 91 then (bif Nat.blt pc 88 then (bif Nat.beq pc 87 then some (.aload_n 0, 0, 0) else none) else (bif Nat.beq pc 88 then some (.getfield 16, 0, 0) else none)) else (bif Nat.blt pc 93 then (bif Nat.beq pc 91 then some (.bipush 48, 0, 48) else none) else (bif Nat.blt pc 94 then (bif Nat.beq pc 93 then some (.aload_n 0, 0, 0) else none) else (bif Nat.beq pc 94 then some (.getfield 47, 0, 0) else none)))) else (bif Nat.blt pc 101 then (bif Nat.blt pc 100 then (bif Nat.beq pc 97 then some (.invokevirtual 130, 0, 0) else none) else (bif Nat.beq pc 100 then some (.aload_n 0, 0, 0) else none)) else (bif Nat.blt pc 104 then (bif Nat.beq pc 101 then some (.getfield 16, 0, 0) else none) else (bif Nat.blt pc 107 then (bif Nat.beq pc 104 then some (.invokevirtual 126, 0, 0) else none) else (bif Nat.beq pc 107 then some (.istore 5, 0, 0) else none))))) else (bif Nat.blt pc 121 then (bif Nat.blt pc 113 then (bif Nat.blt pc 110 then (bif Nat.beq pc 109 then some (.aload_n 0, 0, 0) else none) else (bif Nat.beq pc 110 then some (.getfield 16, 0, 0) else none)) else (bif Nat.blt pc 116 then (bif Nat.beq pc 113 then some (.getfield 63, 0, 0) else none) else (bif Nat.blt pc 119 then (bif Nat.beq pc 116 then some (.invokevirtual 214, 0, 0) else none) else (bif Nat.beq pc 119 then some (.istore 6, 0, 0) else none)))) else (bif Nat.blt pc 126 then (bif Nat.blt pc 122 then (bif Nat.beq pc 121 then some (.iload_n 3, 0, 0) else none) else (bif Nat.blt pc 123 then (bif Nat.beq pc 122 then some (.iconst (-1), 0, (-1)) else none) else (bif Nat.beq pc 123 then some (.if_icmp .eq 19, 142, 0) else none))) else (bif Nat.blt pc 128 then (bif Nat.beq pc 126 then some (.iload 5, 0, 0) else none) else (bif Nat.blt pc 129 then (bif Nat.beq pc 128 then some (.iload_n 1, 0, 0) else none) else (bif Nat.beq pc 129 then some (.if_icmp .ne 13, 142, 0) else none)))))) else (bif Nat.blt pc 153 then (bif Nat.blt pc 142 then (bif Nat.blt pc 135 then (bif Nat.blt pc 134 then (bif Nat.beq pc 132 then some (.iload 6, 0, 0) else none) else (bif Nat.beq pc 134 then some (.iload_n 2, 0, 0) else none)) else (bif Nat.blt pc 138 then (bif Nat.beq pc 135 then some (.if_icmp .ge 7, 142, 0) else none) else (bif Nat.blt pc 139 then (bif Nat.beq pc 138 then some (.iconst 1, 0, 1) else none) else (bif Nat.beq pc 139 then some (.goto 4, 143, 0) else none)))) else (bif Nat.blt pc 147 then (bif Nat.blt pc 143 then (bif Nat.beq pc 142 then some (.iconst 0, 0, 0) else none) else (bif Nat.blt pc 145 then (bif Nat.beq pc 143 then some (.istore 7, 0, 0) else none) else (bif Nat.beq pc 145 then some (.iload 5, 0, 0) else none))) else (bif Nat.blt pc 148 then (bif Nat.beq pc 147 then some (.iload_n 1, 0, 0) else none) else (bif Nat.blt pc 151 then (bif Nat.beq pc 148 then some (.if_icmp .lt 8, 156, 0) else none) else (bif Nat.beq pc 151 then some (.iload 7, 0, 0) else none))))) else (bif Nat.blt pc 162 then (bif Nat.blt pc 158 then (bif Nat.blt pc 156 then (bif Nat.beq pc 153 then some (.ifCond .eq 12, 165, 0) else none) else (bif Nat.beq pc 156 then some (.iload 5, 0, 0) else none)) else (bif Nat.blt pc 159 then (bif Nat.beq pc 158 then some (.istore_n 1, 0, 0) else none) else (bif Nat.blt pc 161 then (bif Nat.beq pc 159 then some (.iload 6, 0, 0) else none) else (bif Nat.beq pc 161 then some (.istore_n 2, 0, 0) else none)))) else (bif Nat.blt pc 168 then (bif Nat.blt pc 164 then (bif Nat.beq pc 162 then some (.iload 4, 0, 0) else none) else (bif Nat.blt pc 165 then (bif Nat.beq pc 164 then some (.istore_n 3, 0, 0) else none) else (bif Nat.beq pc 165 then some (.iinc 4 1, 0, 1) else none))) else (bif Nat.blt pc 171 then (bif Nat.beq pc 168 then some (.goto (-129), 39, 0) else none) else (bif Nat.blt pc 172 then (bif Nat.beq pc 171 then some (.iload_n 3, 0, 0) else none) else (bif Nat.beq pc 172 then some (.ireturn, 0, 0) else none)))))))
def z_c51 (pc : Nat) : Option (Instr × Nat × Int32) := bif Nat.blt pc 16 then (bif Nat.blt pc 10 then (bif Nat.blt pc 4 then (bif Nat.blt pc 1 then (bif Nat.beq pc 0 then some (.aload_n 0, 0, 0) else none) else (bif Nat.beq pc 1 then some (.getfield 12, 0, 0) else none)) else (bif Nat.blt pc 7 then (bif Nat.beq pc 4 then some (.getfield 184, 0, 0) else none) else (bif Nat.beq pc 7 then some (.ifCond .gt 5, 12, 0) else none))) else (bif Nat.blt pc 12 then (bif Nat.blt pc 11 then (bif Nat.beq pc 10 then some (.dconst 1, 0, 0) else none) else (bif Nat.beq pc 11 then some (.dreturn, 0, 0) else none)) else (bif Nat.blt pc 13 then (bif Nat.beq pc 12 then some (.aload_n 0, 0, 0) else none) else (bif Nat.beq pc 13 then some (.getfield 12, 0, 0) else none)))) else (bif Nat.blt pc 24 then (bif Nat.blt pc 20 then (bif Nat.blt pc 19 then (bif Nat.beq pc 16 then some (.invokevirtual 211, 0, 0) else none) else (bif Nat.beq pc 19 then some (.i2d, 0, 0) else none)) else (bif Nat.blt pc 21 then (bif Nat.beq pc 20 then some (.aload_n 0, 0, 0) else none) else (bif Nat.beq pc 21 then some (.getfield 12, 0, 0) else none))) else (bif Nat.blt pc 28 then (bif Nat.blt pc 27 then (bif Nat.beq pc 24 then some (.getfield 184, 0, 0) else none) else (bif Nat.beq pc 27 then some (.i2d, 0, 0) else none)) else (bif Nat.blt pc 29 then (bif Nat.beq pc 28 then some (.ddiv, 0, 0) else none) else (bif Nat.beq pc 29 then some (.dreturn, 0, 0) else none))))
def z_c52 (pc : Nat) : Option (Instr × Nat × Int32) := bif Nat.blt pc 139 then (bif Nat.blt pc 67 then (bif Nat.blt pc 33 then (bif Nat.blt pc 17 then (bif Nat.blt pc 7 then (bif Nat.blt pc 4 then (bif Nat.blt pc 3 then (bif Nat.beq pc 0 then some (.ldc2_w 228, 0, 0) else none) else (bif Nat.beq pc 3 then some (.lstore_n 1, 0, 0) else none)) else (bif Nat.blt pc 5 then (bif Nat.beq pc 4 then some (.iconst 0, 0, 0) else none) else (bif Nat.blt pc 6 then (bif Nat.beq pc 5 then some (.istore_n 3, 0, 0) else none) else (bif Nat.beq pc 6 then some (.iload_n 3, 0, 0) else none)))) else (bif Nat.blt pc 12 then (bif Nat.blt pc 9 then (bif Nat.beq pc 7 then some (.bipush 14, 0, 14) else none) else (bif Nat.beq pc 9 then some (.if_icmp .gt 22, 31, 0) else none)) else (bif Nat.blt pc 15 then (bif Nat.beq pc 12 then some (.ldc2_w 230, 0, 0) else none) else (bif Nat.blt pc 16 then (bif Nat.beq pc 15 then some (.lload_n 1, 0, 0) else none) else (bif Nat.beq pc 16 then some (.lmul, 0, 0) else none))))) else (bif Nat.blt pc 24 then (bif Nat.blt pc 19 then (bif Nat.blt pc 18 then (bif Nat.beq pc 17 then some (.aload_n 0, 0, 0) else none) else (bif Nat.beq pc 18 then some (.iload_n 3, 0, 0) else none)) else (bif Nat.blt pc 22 then (bif Nat.beq pc 19 then some (.invokevirtual 232, 0, 0) else none) else (bif Nat.blt pc 23 then (bif Nat.beq pc 22 then some (.i2l, 0, 0) else none) else (bif Nat.beq pc 23 then some (.ladd, 0, 0) else none)))) else (bif Nat.blt pc 28 then (bif Nat.blt pc 25 then (bif Nat.beq pc 24 then some (.lstore_n 1, 0, 0) else none) else (bif Nat.beq pc 25 then some (.iinc 3 1, 0, 1) else none)) else (bif Nat.blt pc 31 then (bif Nat.beq pc 28 then some (.goto (-22), 6, 0) else none) else (bif Nat.blt pc 32 then (bif Nat.beq pc 31 then some (.iconst 0, 0, 0) else none) else (bif Nat.beq pc 32 then some (.istore_n 3, 0, 0) else none)))))) else (bif Nat.blt pc 49 then (bif Nat.blt pc 42 then (bif Nat.blt pc 35 then (bif Nat.blt pc 34 then (bif Nat.beq pc 33 then some (.iload_n 3, 0, 0) else none) else (bif Nat.beq pc 34 then some (.iconst 2, 0, 2) else none)) else (bif Nat.blt pc 38 then (bif Nat.beq pc 35 then some (.if_icmp .ge 22, 57, 0) else none) else (bif Nat.blt pc 41 then (bif Nat.beq pc 38 then some (.ldc2_w 230, 0, 0) else none) else (bif Nat.beq pc 41 then some (.lload_n 1, 0, 0) else none)))) else (bif Nat.blt pc 44 then (bif Nat.blt pc 43 then (bif Nat.beq pc 42 then some (.lmul, 0, 0) else none) else (bif Nat.beq pc 43 then some (.aload_n 0, 0, 0) else none)) else (bif Nat.blt pc 45 then (bif Nat.beq pc 44 then some (.iload_n 3, 0, 0) else none) else (bif Nat.blt pc 48 then (bif Nat.beq pc 45 then some (.invokevirtual 235, 0, 0) else none) else (bif Nat.beq pc 48 then some (.i2l, 0, 0) else none))))) else (bif Nat.blt pc 58 then (bif Nat.blt pc 51 then (bif Nat.blt pc 50 then (bif Nat.beq pc 49 then some (.ladd, 0, 0) else none) else (bif Nat.beq pc 50 then some (.lstore_n 1, 0, 0) else none)) else (bif Nat.blt pc 54 then (bif Nat.beq pc 51 then some (.iinc 3 1, 0, 1) else none) else (bif Nat.blt pc 57 then (bif Nat.beq pc 54 then some (.goto (-21), 33, 0) else none) else (bif Nat.beq pc 57 then some (.iconst 0, 0, 0) else none)))) else (bif Nat.blt pc 61 then (bif Nat.blt pc 59 then (bif Nat.beq pc 58 then some (.istore_n 3, 0, 0) else none) else (bif Nat.blt pc 60 then (bif Nat.beq pc 59 then some (.iload_n 3, 0, 0) else none) else (bif Nat.beq pc 60 then some (.iconst 4, 0, 4) else none))) else (bif Nat.blt pc 64 then (bif Nat.beq pc 61 then some (.if_icmp .ge 53, 114, 0) else none) else (bif Nat.blt pc 65 then (bif Nat.beq pc 64 then some (.iconst 0, 0, 0) else none) else (bif Nat.beq pc 65 then some (.istore 4, 0, 0) else none))))))) else (bif Nat.blt pc 102 then (bif Nat.blt pc 86 then (bif Nat.blt pc 78 then (bif Nat.blt pc 71 then (bif Nat.blt pc 69 then (bif Nat.beq pc 67 then some (.iload 4, 0, 0) else none) else (bif Nat.beq pc 69 then some (.bipush 8, 0, 8) else none)) else (bif Nat.blt pc 74 then (bif Nat.beq pc 71 then some (.if_icmp .gt 24, 95, 0) else none) else (bif Nat.blt pc 77 then (bif Nat.beq pc 74 then some (.ldc2_w 230, 0, 0) else none) else (bif Nat.beq pc 77 then some (.lload_n 1, 0, 0) else none)))) else (bif Nat.blt pc 80 then (bif Nat.blt pc 79 then (bif Nat.beq pc 78 then some (.lmul, 0, 0) else none) else (bif Nat.beq pc 79 then some (.aload_n 0, 0, 0) else none)) else (bif Nat.blt pc 81 then (bif Nat.beq pc 80 then some (.iload_n 3, 0, 0) else none) else (bif Nat.blt pc 83 then (bif Nat.beq pc 81 then some (.iload 4, 0, 0) else none) else (bif Nat.beq pc 83 then some (.invokevirtual 238, 0, 0) else none))))) else (bif Nat.blt pc 95 then (bif Nat.blt pc 88 then (bif Nat.blt pc 87 then (bif Nat.beq pc 86 then some (.i2l, 0, 0) else none) else (bif Nat.beq pc 87 then some (.ladd, 0, 0) else none)) else (bif Nat.blt pc 89 then (bif Nat.beq pc 88 then some (.lstore_n 1, 0, 0) else none) else (bif Nat.blt pc 92 then (bif Nat.beq pc 89 then some (.iinc 4 1, 0, 1) else none) else (bif Nat.beq pc 92 then some (.goto (-25), 67, 0) else none)))) else (bif Nat.blt pc 99 then (bif Nat.blt pc 98 then (bif Nat.beq pc 95 then some (.ldc2_w 230, 0, 0) else none) else (bif Nat.beq pc 98 then some (.lload_n 1, 0, 0) else none)) else (bif Nat.blt pc 100 then (bif Nat.beq pc 99 then some (.lmul, 0, 0) else none) else (bif Nat.blt pc 101 then (bif Nat.beq pc 100 then some (.aload_n 0, 0, 0) else none) else (bif Nat.beq pc 101 then some (.iload_n 3, 0, 0) else none)))))) else (bif Nat.blt pc 119 then (bif Nat.blt pc 111 then (bif Nat.blt pc 106 then (bif Nat.blt pc 105 then (bif Nat.beq pc 102 then some (.invokevirtual 242, 0, 0) else none) else (bif Nat.beq pc 105 then some (.i2l, 0, 0) else none)) else (bif Nat.blt pc 107 then (bif Nat.beq pc 106 then some (.ladd, 0, 0) else none) else (bif Nat.blt pc 108 then (bif Nat.beq pc 107 then some (.lstore_n 1, 0, 0) else none) else (bif Nat.beq pc 108 then some (.iinc 3 1, 0, 1) else none)))) else (bif Nat.blt pc 115 then (bif Nat.blt pc 114 then (bif Nat.beq pc 111 then some (.goto (-52), 59, 0) else none) else (bif Nat.beq pc 114 then some (.iconst 0, 0, 0) else none)) else (bif Nat.blt pc 116 then (bif Nat.beq pc 115 then some (.istore_n 3, 0, 0) else none) else (bif Nat.blt pc 117 then (bif Nat.beq pc 116 then some (.iload_n 3, 0, 0) else none) else (bif Nat.beq pc 117 then some (.bipush 48, 0, 48) else none))))) else (bif Nat.blt pc 129 then (bif Nat.blt pc 123 then (bif Nat.blt pc 122 then (bif Nat.beq pc 119 then some (.if_icmp .ge 40, 159, 0) else none) else (bif Nat.beq pc 122 then some (.iconst 0, 0, 0) else none)) else (bif Nat.blt pc 125 then (bif Nat.beq pc 123 then some (.istore 4, 0, 0) else none) else (bif Nat.blt pc 127 then (bif Nat.beq pc 125 then some (.iload 4, 0, 0) else none) else (bif Nat.beq pc 127 then some (.bipush 7, 0, 7) else none)))) else (bif Nat.blt pc 136 then (bif Nat.blt pc 132 then (bif Nat.beq pc 129 then some (.if_icmp .ge 24, 153, 0) else none) else (bif Nat.blt pc 135 then (bif Nat.beq pc 132 then some (.ldc2_w 230, 0, 0) else none) else (bif Nat.beq pc 135 then some (.lload_n 1, 0, 0) else none))) else (bif Nat.blt pc 137 then (bif Nat.beq pc 136 then some (.lmul, 0, 0) else none) else (bif Nat.blt pc 138 then (bif Nat.beq pc 137 then some (.aload_n 0, 0, 0) else none) else (bif Nat.beq pc 138 then some (.iload_n 3, 0, 0) else none)))))))) else (bif Nat.blt pc 211 then (bif Nat.blt pc 178 then (bif Nat.blt pc 160 then (bif Nat.blt pc 147 then (bif Nat.blt pc 144 then (bif Nat.blt pc 141 then (bif Nat.beq pc 139 then some (.iload 4, 0, 0) else none) else (bif Nat.beq pc 141 then some (.invokevirtual 245, 0, 0) else none)) else (bif Nat.blt pc 145 then (bif Nat.beq pc 144 then some (.i2l, 0, 0) else none) else (bif Nat.blt pc 146 then (bif Nat.beq pc 145 then some (.ladd, 0, 0) else none) else (bif Nat.beq pc 146 then some (.lstore_n 1, 0, 0) else none)))) else (bif Nat.blt pc 153 then (bif Nat.blt pc 150 then (bif Nat.beq pc 147 then some (.iinc 4 1, 0, 1) else none) else (bif Nat.beq pc 150 then some (.goto (-25), 125, 0) else none)) else (bif Nat.blt pc 156 then (bif Nat.beq pc 153 then some (.iinc 3 1, 0, 1) else none) else (bif Nat.blt pc 159 then (bif Nat.beq pc 156 then some (.goto (-40), 116, 0) else none) else (bif Nat.beq pc 159 then some (.aload_n 0, 0, 0) else none))))) else (bif Nat.blt pc 167 then (bif Nat.blt pc 162 then (bif Nat.blt pc 161 then (bif Nat.beq pc 160 then some (.aload_n 0, 0, 0) else none) else (bif Nat.beq pc 161 then some (.aload_n 0, 0, 0) else none)) else (bif Nat.blt pc 163 then (bif Nat.beq pc 162 then some (.lload_n 1, 0, 0) else none) else (bif Nat.blt pc 164 then (bif Nat.beq pc 163 then some (.iconst 0, 0, 0) else none) else (bif Nat.beq pc 164 then some (.invokevirtual 247, 0, 0) else none)))) else (bif Nat.blt pc 172 then (bif Nat.blt pc 169 then (bif Nat.beq pc 167 then some (.bipush 20, 0, 20) else none) else (bif Nat.beq pc 169 then some (.invokevirtual 247, 0, 0) else none)) else (bif Nat.blt pc 174 then (bif Nat.beq pc 172 then some (.bipush 47, 0, 47) else none) else (bif Nat.blt pc 177 then (bif Nat.beq pc 174 then some (.invokevirtual 247, 0, 0) else none) else (bif Nat.beq pc 177 then some (.lstore_n 1, 0, 0) else none)))))) else (bif Nat.blt pc 194 then (bif Nat.blt pc 187 then (bif Nat.blt pc 182 then (bif Nat.blt pc 181 then (bif Nat.beq pc 178 then some (.ldc2_w 230, 0, 0) else none) else (bif Nat.beq pc 181 then some (.lload_n 1, 0, 0) else none)) else (bif Nat.blt pc 183 then (bif Nat.beq pc 182 then some (.lmul, 0, 0) else none) else (bif Nat.blt pc 184 then (bif Nat.beq pc 183 then some (.aload_n 0, 0, 0) else none) else (bif Nat.beq pc 184 then some (.invokevirtual 251, 0, 0) else none)))) else (bif Nat.blt pc 189 then (bif Nat.blt pc 188 then (bif Nat.beq pc 187 then some (.i2l, 0, 0) else none) else (bif Nat.beq pc 188 then some (.ladd, 0, 0) else none)) else (bif Nat.blt pc 190 then (bif Nat.beq pc 189 then some (.lstore_n 1, 0, 0) else none) else (bif Nat.blt pc 193 then (bif Nat.beq pc 190 then some (.ldc2_w 230, 0, 0) else none) else (bif Nat.beq pc 193 then some (.lload_n 1, 0, 0) else none))))) else (bif Nat.blt pc 201 then (bif Nat.blt pc 196 then (bif Nat.blt pc 195 then (bif Nat.beq pc 194 then some (.lmul, 0, 0) else none) else (bif Nat.beq pc 195 then some (.aload_n 0, 0, 0) else none)) else (bif Nat.blt pc 199 then (bif Nat.beq pc 196 then some (.invokevirtual 254, 0, 0) else none) else (bif Nat.blt pc 200 then (bif Nat.beq pc 199 then some (.i2l, 0, 0) else none) else (bif Nat.beq pc 200 then some (.ladd, 0, 0) else none)))) else (bif Nat.blt pc 206 then (bif Nat.blt pc 202 then (bif Nat.beq pc 201 then some (.lstore_n 1, 0, 0) else none) else (bif Nat.blt pc 205 then (bif Nat.beq pc 202 then some (.ldc2_w 230, 0, 0) else none) else (bif Nat.beq pc 205 then some (.lload_n 1, 0, 0) else none))) else (bif Nat.blt pc 207 then (bif Nat.beq pc 206 then some (.lmul, 0, 0) else none) else (bif Nat.blt pc 208 then (bif Nat.beq pc 207 then some (.aload_n 0, 0, 0) else none) else (bif Nat.beq pc 208 then some (.invokevirtual 257, 0, 0) else none))))))) else (bif Nat.blt pc 242 then (bif Nat.blt pc 227 then (bif Nat.blt pc 218 then (bif Nat.blt pc 213 then (bif Nat.blt pc 212 then (bif Nat.beq pc 211 then some (.i2l, 0, 0) else none) else (bif Nat.beq pc 212 then some (.ladd, 0, 0) else none)) else (bif Nat.blt pc 214 then (bif Nat.beq pc 213 then some (.lstore_n 1, 0, 0) else none) else (bif Nat.blt pc 217 then (bif Nat.beq pc 214 then some (.ldc2_w 230, 0, 0) else none) else (bif Nat.beq pc 217 then some (.lload_n 1, 0, 0) else none)))) else (bif Nat.blt pc 220 then (bif Nat.blt pc 219 then (bif Nat.beq pc 218 then some (.lmul, 0, 0) else none) else (bif Nat.beq pc 219 then some (.aload_n 0, 0, 0) else none)) else (bif Nat.blt pc 223 then (bif Nat.beq pc 220 then some (.invokevirtual 260, 0, 0) else none) else (bif Nat.blt pc 226 then (bif Nat.beq pc 223 then some (.invokestatic 264, 0, 0) else none) else (bif Nat.beq pc 226 then some (.ladd, 0, 0) else none))))) else (bif Nat.blt pc 234 then (bif Nat.blt pc 231 then (bif Nat.blt pc 228 then (bif Nat.beq pc 227 then some (.lstore_n 1, 0, 0) else none) else (bif Nat.beq pc 228 then some (.ldc2_w 230, 0, 0) else none)) else (bif Nat.blt pc 232 then (bif Nat.beq pc 231 then some (.lload_n 1, 0, 0) else none) else (bif Nat.blt pc 233 then (bif Nat.beq pc 232 then some (.lmul, 0, 0) else none) else (bif Nat.beq pc 233 then some (.aload_n 0, 0, 0) else none)))) else (bif Nat.blt pc 239 then (bif Nat.blt pc 237 then (bif Nat.beq pc 234 then some (.getfield 34, 0, 0) else none) else (bif Nat.blt pc 238 then (bif Nat.beq pc 237 then some (.i2l, 0, 0) else none) else (bif Nat.beq pc 238 then some (.ladd, 0, 0) else none))) else (bif Nat.blt pc 240 then (bif Nat.beq pc 239 then some (.lstore_n 1, 0, 0) else none) else (bif Nat.blt pc 241 then (bif Nat.beq pc 240 then some (.iconst 0, 0, 0) else none) else (bif Nat.beq pc 241 then some (.istore_n 3, 0, 0) else none)))))) else (bif Nat.blt pc 261 then (bif Nat.blt pc 251 then (bif Nat.blt pc 244 then (bif Nat.blt pc 243 then (bif Nat.beq pc 242 then some (.iload_n 3, 0, 0) else none) else (bif Nat.beq pc 243 then some (.aload_n 0, 0, 0) else none)) else (bif Nat.blt pc 247 then (bif Nat.beq pc 244 then some (.getfield 34, 0, 0) else none) else (bif Nat.blt pc 250 then (bif Nat.beq pc 247 then some (.if_icmp .ge 29, 276, 0) else none) else (bif Nat.beq pc 250 then some (.iload_n 3, 0, 0) else none)))) else (bif Nat.blt pc 256 then (bif Nat.blt pc 253 then (bif Nat.beq pc 251 then some (.bipush 60, 0, 60) else none) else (bif Nat.beq pc 253 then some (.if_icmp .ge 23, 276, 0) else none)) else (bif Nat.blt pc 259 then (bif Nat.beq pc 256 then some (.ldc2_w 230, 0, 0) else none) else (bif Nat.blt pc 260 then (bif Nat.beq pc 259 then some (.lload_n 1, 0, 0) else none) else (bif Nat.beq pc 260 then some (.lmul, 0, 0) else none))))) else (bif Nat.blt pc 268 then (bif Nat.blt pc 265 then (bif Nat.blt pc 262 then (bif Nat.beq pc 261 then some (.aload_n 0, 0, 0) else none) else (bif Nat.beq pc 262 then some (.getfield 30, 0, 0) else none)) else (bif Nat.blt pc 266 then (bif Nat.beq pc 265 then some (.iload_n 3, 0, 0) else none) else (bif Nat.blt pc 267 then (bif Nat.beq pc 266 then some (.iaload, 0, 0) else none) else (bif Nat.beq pc 267 then some (.i2l, 0, 0) else none)))) else (bif Nat.blt pc 273 then (bif Nat.blt pc 269 then (bif Nat.beq pc 268 then some (.ladd, 0, 0) else none) else (bif Nat.blt pc 270 then (bif Nat.beq pc 269 then some (.lstore_n 1, 0, 0) else none) else (bif Nat.beq pc 270 then some (.iinc 3 1, 0, 1) else none))) else (bif Nat.blt pc 276 then (bif Nat.beq pc 273 then some (.goto (-31), 242, 0) else none) else (bif Nat.blt pc 277 then (bif Nat.beq pc 276 then some (.lload_n 1, 0, 0) else none) else (bif Nat.beq pc 277 then some (.lreturn, 0, 0) else none))))))))
def z_c53 (pc : Nat) : Option (Instr × Nat × Int32) := bif Nat.blt pc 15 then (bif Nat.blt pc 8 then (bif Nat.blt pc 6 then (bif Nat.blt pc 3 then (bif Nat.beq pc 0 then some (.ldc2_w 230, 0, 0) else none) else (bif Nat.beq pc 3 then some (.ldc2_w 230, 0, 0) else none)) else (bif Nat.blt pc 7 then (bif Nat.beq pc 6 then some (.lload_n 1, 0, 0) else none) else (bif Nat.beq pc 7 then some (.lmul, 0, 0) else none))) else (bif Nat.blt pc 10 then (bif Nat.blt pc 9 then (bif Nat.beq pc 8 then some (.aload_n 0, 0, 0) else none) else (bif Nat.beq pc 9 then some (.iload_n 3, 0, 0) else none)) else (bif Nat.blt pc 11 then (bif Nat.beq pc 10 then some (.iconst 0, 0, 0) else none) else (bif Nat.blt pc 14 then (bif Nat.beq pc 11 then some (.invokevirtual 268, 0, 0) else none) else (bif Nat.beq pc 14 then some (.i2l, 0, 0) else none))))) else (bif Nat.blt pc 19 then (bif Nat.blt pc 17 then (bif Nat.blt pc 16 then (bif Nat.beq pc 15 then some (.ladd, 0, 0) else none) else (bif Nat.beq pc 16 then some (.lmul, 0, 0) else none)) else (bif Nat.blt pc 18 then (bif Nat.beq pc 17 then some (.aload_n 0, 0, 0) else none) else (bif Nat.beq pc 18 then some (.iload_n 3, 0, 0) else none))) else (bif Nat.blt pc 23 then (bif Nat.blt pc 20 then (bif Nat.beq pc 19 then some (.iconst 1, 0, 1) else none) else (bif Nat.beq pc 20 then some (.invokevirtual 268, 0, 0) else none)) else (bif Nat.blt pc 24 then (bif Nat.beq pc 23 then some (.i2l, 0, 0) else none) else (bif Nat.blt pc 25 then (bif Nat.beq pc 24 then some (.ladd, 0, 0) else none) else (bif Nat.beq pc 25 then some (.lreturn, 0, 0) else none)))))
def z_c54 (pc : Nat) : Option (Instr × Nat × Int32) := bif Nat.blt pc 33 then (bif Nat.blt pc 16 then (bif Nat.blt pc 9 then (bif Nat.blt pc 4 then (bif Nat.blt pc 1 then (bif Nat.beq pc 0 then some (.aload_n 0, 0, 0) else none) else (bif Nat.beq pc 1 then some (.getfield 27, 0, 0) else none)) else (bif Nat.blt pc 6 then (bif Nat.beq pc 4 then some (.bipush 6, 0, 6) else none) else (bif Nat.beq pc 6 then some (.if_icmp .ne 26, 32, 0) else none))) else (bif Nat.blt pc 11 then (bif Nat.blt pc 10 then (bif Nat.beq pc 9 then some (.aload_n 0, 0, 0) else none) else (bif Nat.beq pc 10 then some (.aload_n 0, 0, 0) else none)) else (bif Nat.blt pc 14 then (bif Nat.beq pc 11 then some (.getfield 23, 0, 0) else none) else (bif Nat.blt pc 15 then (bif Nat.beq pc 14 then some (.iconst 1, 0, 1) else none) else (bif Nat.beq pc 15 then some (.iadd, 0, 0) else none))))) else (bif Nat.blt pc 24 then (bif Nat.blt pc 19 then (bif Nat.blt pc 18 then (bif Nat.beq pc 16 then some (.bipush 6, 0, 6) else none) else (bif Nat.beq pc 18 then some (.irem, 0, 0) else none)) else (bif Nat.blt pc 22 then (bif Nat.beq pc 19 then some (.putfield 23, 0, 0) else none) else (bif Nat.blt pc 23 then (bif Nat.beq pc 22 then some (.aload_n 0, 0, 0) else none) else (bif Nat.beq pc 23 then some (.dup, 0, 0) else none)))) else (bif Nat.blt pc 28 then (bif Nat.blt pc 27 then (bif Nat.beq pc 24 then some (.getfield 27, 0, 0) else none) else (bif Nat.beq pc 27 then some (.iconst 1, 0, 1) else none)) else (bif Nat.blt pc 29 then (bif Nat.beq pc 28 then some (.isub, 0, 0) else none) else (bif Nat.blt pc 32 then (bif Nat.beq pc 29 then some (.putfield 27, 0, 0) else none) else (bif Nat.beq pc 32 then some (.aload_n 0, 0, 0) else none)))))) else (bif Nat.blt pc 49 then (bif Nat.blt pc 41 then (bif Nat.blt pc 37 then (bif Nat.blt pc 36 then (bif Nat.beq pc 33 then some (.getfield 19, 0, 0) else none) else (bif Nat.beq pc 36 then some (.aload_n 0, 0, 0) else none)) else (bif Nat.blt pc 40 then (bif Nat.beq pc 37 then some (.getfield 23, 0, 0) else none) else (bif Nat.beq pc 40 then some (.aload_n 0, 0, 0) else none))) else (bif Nat.blt pc 45 then (bif Nat.blt pc 44 then (bif Nat.beq pc 41 then some (.getfield 27, 0, 0) else none) else (bif Nat.beq pc 44 then some (.iadd, 0, 0) else none)) else (bif Nat.blt pc 47 then (bif Nat.beq pc 45 then some (.bipush 6, 0, 6) else none) else (bif Nat.blt pc 48 then (bif Nat.beq pc 47 then some (.irem, 0, 0) else none) else (bif Nat.beq pc 48 then some (.aaload, 0, 0) else none))))) else (bif Nat.blt pc 58 then (bif Nat.blt pc 53 then (bif Nat.blt pc 50 then (bif Nat.beq pc 49 then some (.aload_n 0, 0, 0) else none) else (bif Nat.beq pc 50 then some (.getfield 12, 0, 0) else none)) else (bif Nat.blt pc 56 then (bif Nat.beq pc 53 then some (.invokevirtual 168, 0, 0) else none) else (bif Nat.blt pc 57 then (bif Nat.beq pc 56 then some (.aload_n 0, 0, 0) else none) else (bif Nat.beq pc 57 then some (.dup, 0, 0) else none)))) else (bif Nat.blt pc 62 then (bif Nat.blt pc 61 then (bif Nat.beq pc 58 then some (.getfield 27, 0, 0) else none) else (bif Nat.beq pc 61 then some (.iconst 1, 0, 1) else none)) else (bif Nat.blt pc 63 then (bif Nat.beq pc 62 then some (.iadd, 0, 0) else none) else (bif Nat.blt pc 66 then (bif Nat.beq pc 63 then some (.putfield 27, 0, 0) else none) else (bif Nat.beq pc 66 then some (.return_, 0, 0) else none))))))
def z_c55 (pc : Nat) : Option (Instr × Nat × Int32) := bif Nat.blt pc 19 then (bif Nat.blt pc 8 then (bif Nat.blt pc 4 then (bif Nat.blt pc 1 then (bif Nat.beq pc 0 then some (.aload_n 0, 0, 0) else none) else (bif Nat.beq pc 1 then some (.getfield 47, 0, 0) else none)) else (bif Nat.blt pc 5 then (bif Nat.beq pc 4 then some (.aload_n 0, 0, 0) else none) else (bif Nat.beq pc 5 then some (.getfield 12, 0, 0) else none))) else (bif Nat.blt pc 12 then (bif Nat.blt pc 11 then (bif Nat.beq pc 8 then some (.getfield 63, 0, 0) else none) else (bif Nat.beq pc 11 then some (.aload_n 0, 0, 0) else none)) else (bif Nat.blt pc 15 then (bif Nat.beq pc 12 then some (.getfield 12, 0, 0) else none) else (bif Nat.blt pc 18 then (bif Nat.beq pc 15 then some (.getfield 63, 0, 0) else none) else (bif Nat.beq pc 18 then some (.iconst 2, 0, 2) else none))))) else (bif Nat.blt pc 27 then (bif Nat.blt pc 23 then (bif Nat.blt pc 22 then (bif Nat.beq pc 19 then some (.invokevirtual 217, 0, 0) else none) else (bif Nat.beq pc 22 then some (.aload_n 0, 0, 0) else none)) else (bif Nat.blt pc 26 then (bif Nat.beq pc 23 then some (.getfield 12, 0, 0) else none) else (bif Nat.beq pc 26 then some (.aload_n 0, 0, 0) else none))) else (bif Nat.blt pc 33 then (bif Nat.blt pc 30 then (bif Nat.beq pc 27 then some (.getfield 12, 0, 0) else none) else (bif Nat.beq pc 30 then some (.invokevirtual 187, 0, 0) else none)) else (bif Nat.blt pc 36 then (bif Nat.beq pc 33 then some (.invokevirtual 190, 0, 0) else none) else (bif Nat.blt pc 39 then (bif Nat.beq pc 36 then some (.invokevirtual 220, 0, 0) else none) else (bif Nat.beq pc 39 then some (.return_, 0, 0) else none)))))
def z_c56 (pc : Nat) : Option (Instr × Nat × Int32) := bif Nat.blt pc 90 then (bif Nat.blt pc 66 then (bif Nat.blt pc 52 then (bif Nat.blt pc 45 then (bif Nat.blt pc 1 then (bif Nat.beq pc 0 then some (.iload_n 1, 0, 0) else none) else (bif Nat.blt pc 44 then (bif Nat.beq pc 1 then some (.lookupswitch 130 #[(43, 43), (45, 71), (102, 125), (104, 98)], 0, 0) else none) else (bif Nat.beq pc 44 then some (.iload_n 2, 0, 0) else none))) else (bif Nat.blt pc 48 then (bif Nat.beq pc 45 then some (.invokestatic 51, 0, 0) else none) else (bif Nat.blt pc 51 then (bif Nat.beq pc 48 then some (.ifCond .eq 22, 70, 0) else none) else (bif Nat.beq pc 51 then some (.aload_n 0, 0, 0) else none)))) else (bif Nat.blt pc 61 then (bif Nat.blt pc 55 then (bif Nat.beq pc 52 then some (.getfield 12, 0, 0) else none) else (bif Nat.blt pc 58 then (bif Nat.beq pc 55 then some (.getfield 63, 0, 0) else none) else (bif Nat.beq pc 58 then some (.getfield 67, 0, 0) else none))) else (bif Nat.blt pc 62 then (bif Nat.beq pc 61 then some (.iload_n 2, 0, 0) else none) else (bif Nat.blt pc 63 then (bif Nat.beq pc 62 then some (.iaload, 0, 0) else none) else (bif Nat.beq pc 63 then some (.ifCond .ne 7, 70, 0) else none))))) else (bif Nat.blt pc 76 then (bif Nat.blt pc 71 then (bif Nat.blt pc 67 then (bif Nat.beq pc 66 then some (.iconst 1, 0, 1) else none) else (bif Nat.blt pc 70 then (bif Nat.beq pc 67 then some (.goto 4, 71, 0) else none) else (bif Nat.beq pc 70 then some (.iconst 0, 0, 0) else none))) else (bif Nat.blt pc 72 then (bif Nat.beq pc 71 then some (.ireturn, 0, 0) else none) else (bif Nat.blt pc 73 then (bif Nat.beq pc 72 then some (.iload_n 2, 0, 0) else none) else (bif Nat.beq pc 73 then some (.invokestatic 51, 0, 0) else none)))) else (bif Nat.blt pc 83 then (bif Nat.blt pc 79 then (bif Nat.beq pc 76 then some (.ifCond .eq 21, 97, 0) else none) else (bif Nat.blt pc 80 then (bif Nat.beq pc 79 then some (.aload_n 0, 0, 0) else none) else (bif Nat.beq pc 80 then some (.getfield 12, 0, 0) else none))) else (bif Nat.blt pc 86 then (bif Nat.beq pc 83 then some (.getfield 63, 0, 0) else none) else (bif Nat.blt pc 87 then (bif Nat.beq pc 86 then some (.iload_n 2, 0, 0) else none) else (bif Nat.beq pc 87 then some (.invokevirtual 97, 0, 0) else none)))))) else (bif Nat.blt pc 113 then (bif Nat.blt pc 100 then (bif Nat.blt pc 97 then (bif Nat.blt pc 93 then (bif Nat.beq pc 90 then some (.ifCond .eq 7, 97, 0) else none) else (bif Nat.blt pc 94 then (bif Nat.beq pc 93 then some (.iconst 1, 0, 1) else none) else (bif Nat.beq pc 94 then some (.goto 4, 98, 0) else none))) else (bif Nat.blt pc 98 then (bif Nat.beq pc 97 then some (.iconst 0, 0, 0) else none) else (bif Nat.blt pc 99 then (bif Nat.beq pc 98 then some (.ireturn, 0, 0) else none) else (bif Nat.beq pc 99 then some (.iconst 1, 0, 1) else none)))) else (bif Nat.blt pc 106 then (bif Nat.blt pc 102 then (bif Nat.beq pc 100 then some (.bipush 48, 0, 48) else none) else (bif Nat.blt pc 103 then (bif Nat.beq pc 102 then some (.iload_n 2, 0, 0) else none) else (bif Nat.beq pc 103 then some (.invokestatic 55, 0, 0) else none))) else (bif Nat.blt pc 109 then (bif Nat.beq pc 106 then some (.ifCond .eq 18, 124, 0) else none) else (bif Nat.blt pc 110 then (bif Nat.beq pc 109 then some (.aload_n 0, 0, 0) else none) else (bif Nat.beq pc 110 then some (.getfield 12, 0, 0) else none))))) else (bif Nat.blt pc 125 then (bif Nat.blt pc 120 then (bif Nat.blt pc 114 then (bif Nat.beq pc 113 then some (.iload_n 2, 0, 0) else none) else (bif Nat.blt pc 117 then (bif Nat.beq pc 114 then some (.invokevirtual 123, 0, 0) else none) else (bif Nat.beq pc 117 then some (.ifCond .eq 7, 124, 0) else none))) else (bif Nat.blt pc 121 then (bif Nat.beq pc 120 then some (.iconst 1, 0, 1) else none) else (bif Nat.blt pc 124 then (bif Nat.beq pc 121 then some (.goto 4, 125, 0) else none) else (bif Nat.beq pc 124 then some (.iconst 0, 0, 0) else none)))) else (bif Nat.blt pc 130 then (bif Nat.blt pc 126 then (bif Nat.beq pc 125 then some (.ireturn, 0, 0) else none) else (bif Nat.blt pc 127 then (bif Nat.beq pc 126 then some (.iload_n 2, 0, 0) else none) else (bif Nat.beq pc 127 then some (.invokestatic 116, 0, 0) else none))) else (bif Nat.blt pc 131 then (bif Nat.beq pc 130 then some (.ireturn, 0, 0) else none) else (bif Nat.blt pc 132 then (bif Nat.beq pc 131 then some (.iconst 1, 0, 1) else none) else (bif Nat.beq pc 132 then some (.ireturn, 0, 0) else none))))))
def z_c57 (pc : Nat) : Option (Instr × Nat × Int32) := bif Nat.blt pc 85 then (bif Nat.blt pc 62 then (bif Nat.blt pc 51 then (bif Nat.blt pc 44 then (bif Nat.blt pc 1 then (bif Nat.beq pc 0 then some (.iload_n 1, 0, 0) else none) else (bif Nat.beq pc 1 then some (.lookupswitch 102 #[(43, 43), (45, 57), (102, 87), (104, 72)], 0, 0) else none)) else (bif Nat.blt pc 45 then (bif Nat.beq pc 44 then some (.aload_n 0, 0, 0) else none) else (bif Nat.blt pc 48 then (bif Nat.beq pc 45 then some (.getfield 12, 0, 0) else none) else (bif Nat.beq pc 48 then some (.getfield 63, 0, 0) else none)))) else (bif Nat.blt pc 55 then (bif Nat.blt pc 52 then (bif Nat.beq pc 51 then some (.iload_n 2, 0, 0) else none) else (bif Nat.beq pc 52 then some (.invokevirtual 90, 0, 0) else none)) else (bif Nat.blt pc 58 then (bif Nat.beq pc 55 then some (.goto 70, 125, 0) else none) else (bif Nat.blt pc 59 then (bif Nat.beq pc 58 then some (.aload_n 0, 0, 0) else none) else (bif Nat.beq pc 59 then some (.getfield 12, 0, 0) else none))))) else (bif Nat.blt pc 73 then (bif Nat.blt pc 66 then (bif Nat.blt pc 65 then (bif Nat.beq pc 62 then some (.getfield 63, 0, 0) else none) else (bif Nat.beq pc 65 then some (.iload_n 2, 0, 0) else none)) else (bif Nat.blt pc 67 then (bif Nat.beq pc 66 then some (.iconst 0, 0, 0) else none) else (bif Nat.blt pc 70 then (bif Nat.beq pc 67 then some (.invokevirtual 100, 0, 0) else none) else (bif Nat.beq pc 70 then some (.goto 55, 125, 0) else none)))) else (bif Nat.blt pc 78 then (bif Nat.blt pc 74 then (bif Nat.beq pc 73 then some (.aload_n 0, 0, 0) else none) else (bif Nat.blt pc 77 then (bif Nat.beq pc 74 then some (.getfield 12, 0, 0) else none) else (bif Nat.beq pc 77 then some (.iload_n 2, 0, 0) else none))) else (bif Nat.blt pc 79 then (bif Nat.beq pc 78 then some (.aload_n 0, 0, 0) else none) else (bif Nat.blt pc 82 then (bif Nat.beq pc 79 then some (.getfield 47, 0, 0) else none) else (bif Nat.beq pc 82 then some (.invokevirtual 130, 0, 0) else none)))))) else (bif Nat.blt pc 103 then (bif Nat.blt pc 96 then (bif Nat.blt pc 89 then (bif Nat.blt pc 88 then (bif Nat.beq pc 85 then some (.goto 40, 125, 0) else none) else (bif Nat.beq pc 88 then some (.aload_n 0, 0, 0) else none)) else (bif Nat.blt pc 92 then (bif Nat.beq pc 89 then some (.getfield 12, 0, 0) else none) else (bif Nat.blt pc 95 then (bif Nat.beq pc 92 then some (.getfield 119, 0, 0) else none) else (bif Nat.beq pc 95 then some (.iconst 0, 0, 0) else none)))) else (bif Nat.blt pc 98 then (bif Nat.blt pc 97 then (bif Nat.beq pc 96 then some (.aaload, 0, 0) else none) else (bif Nat.beq pc 97 then some (.iload_n 2, 0, 0) else none)) else (bif Nat.blt pc 99 then (bif Nat.beq pc 98 then some (.iload_n 3, 0, 0) else none) else (bif Nat.blt pc 100 then (bif Nat.beq pc 99 then some (.iastore, 0, 0) else none) else (bif Nat.beq pc 100 then some (.goto 25, 125, 0) else none))))) else (bif Nat.blt pc 114 then (bif Nat.blt pc 107 then (bif Nat.blt pc 104 then (bif Nat.beq pc 103 then some (.aload_n 0, 0, 0) else none) else (bif Nat.beq pc 104 then some (.getfield 12, 0, 0) else none)) else (bif Nat.blt pc 108 then (bif Nat.beq pc 107 then some (.aload_n 0, 0, 0) else none) else (bif Nat.blt pc 111 then (bif Nat.beq pc 108 then some (.getfield 12, 0, 0) else none) else (bif Nat.beq pc 111 then some (.getfield 108, 0, 0) else none)))) else (bif Nat.blt pc 121 then (bif Nat.blt pc 117 then (bif Nat.beq pc 114 then some (.ifCond .ne 7, 121, 0) else none) else (bif Nat.blt pc 118 then (bif Nat.beq pc 117 then some (.iconst 1, 0, 1) else none) else (bif Nat.beq pc 118 then some (.goto 4, 122, 0) else none))) else (bif Nat.blt pc 122 then (bif Nat.beq pc 121 then some (.iconst 0, 0, 0) else none) else (bif Nat.blt pc 125 then (bif Nat.beq pc 122 then some (.putfield 108, 0, 0) else none) else (bif Nat.beq pc 125 then some (.return_, 0, 0) else none))))))
def z_c58 (pc : Nat) : Option (Instr × Nat × Int32) := bif Nat.blt pc 1 then (bif Nat.beq pc 0 then some (.iload_n 0, 0, 0) else none) else (bif Nat.blt pc 15 then (bif Nat.beq pc 1 then some (.ifCond .ne 14, 15, 0) else none) else (bif Nat.beq pc 15 then some (.return_, 0, 0) else none))
def z_c59 (pc : Nat) : Option (Instr × Nat × Int32) := bif Nat.blt pc 1 then (bif Nat.beq pc 0 then some (.iload_n 0, 0, 0) else none) else (bif Nat.blt pc 15 then (bif Nat.beq pc 1 then some (.ifCond .ne 14, 15, 0) else none) else (bif Nat.beq pc 15 then some (.return_, 0, 0) else none))
def z_c60 (pc : Nat) : Option (Instr × Nat × Int32) := bif Nat.blt pc 3 then (bif Nat.blt pc 1 then (bif Nat.beq pc 0 then some (.iconst 0, 0, 0) else none) else (bif Nat.blt pc 2 then (bif Nat.beq pc 1 then some (.iconst 1, 0, 1) else none) else (bif Nat.beq pc 2 then some (.iload_n 0, 0, 0) else none))) else (bif Nat.blt pc 6 then (bif Nat.beq pc 3 then some (.invokestatic 55, 0, 0) else none) else (bif Nat.blt pc 20 then (bif Nat.beq pc 6 then some (.ifCond .ne 14, 20, 0) else none) else (bif Nat.beq pc 20 then some (.return_, 0, 0) else none)))
def z_c61 (pc : Nat) : Option (Instr × Nat × Int32) := bif Nat.blt pc 7 then (bif Nat.blt pc 2 then (bif Nat.blt pc 1 then (bif Nat.beq pc 0 then some (.iload_n 2, 0, 0) else none) else (bif Nat.beq pc 1 then some (.iload_n 0, 0, 0) else none)) else (bif Nat.blt pc 5 then (bif Nat.beq pc 2 then some (.if_icmp .lt 12, 14, 0) else none) else (bif Nat.blt pc 6 then (bif Nat.beq pc 5 then some (.iload_n 2, 0, 0) else none) else (bif Nat.beq pc 6 then some (.iload_n 1, 0, 0) else none)))) else (bif Nat.blt pc 11 then (bif Nat.blt pc 10 then (bif Nat.beq pc 7 then some (.if_icmp .gt 7, 14, 0) else none) else (bif Nat.beq pc 10 then some (.iconst 1, 0, 1) else none)) else (bif Nat.blt pc 14 then (bif Nat.beq pc 11 then some (.goto 4, 15, 0) else none) else (bif Nat.blt pc 15 then (bif Nat.beq pc 14 then some (.iconst 0, 0, 0) else none) else (bif Nat.beq pc 15 then some (.ireturn, 0, 0) else none))))
def z_c62 (pc : Nat) : Option (Instr × Nat × Int32) := bif Nat.blt pc 2 then (bif Nat.blt pc 1 then (bif Nat.beq pc 0 then some (.iconst 0, 0, 0) else none) else (bif Nat.beq pc 1 then some (.iconst 3, 0, 3) else none)) else (bif Nat.blt pc 3 then (bif Nat.beq pc 2 then some (.iload_n 0, 0, 0) else none) else (bif Nat.blt pc 6 then (bif Nat.beq pc 3 then some (.invokestatic 55, 0, 0) else none) else (bif Nat.beq pc 6 then some (.ireturn, 0, 0) else none)))
def z_c63 (pc : Nat) : Option (Instr × Nat × Int32) := bif Nat.blt pc 3 then (bif Nat.blt pc 1 then (bif Nat.beq pc 0 then some (.iconst 0, 0, 0) else none) else (bif Nat.beq pc 1 then some (.bipush 47, 0, 47) else none)) else (bif Nat.blt pc 4 then (bif Nat.beq pc 3 then some (.iload_n 0, 0, 0) else none) else (bif Nat.blt pc 7 then (bif Nat.beq pc 4 then some (.invokestatic 55, 0, 0) else none) else (bif Nat.beq pc 7 then some (.ireturn, 0, 0) else none)))
def z_c64 (pc : Nat) : Option (Instr × Nat × Int32) := bif Nat.blt pc 5 then (bif Nat.blt pc 1 then (bif Nat.beq pc 0 then some (.iload_n 0, 0, 0) else none) else (bif Nat.blt pc 4 then (bif Nat.beq pc 1 then some (.ifCond .eq 7, 8, 0) else none) else (bif Nat.beq pc 4 then some (.iconst 1, 0, 1) else none))) else (bif Nat.blt pc 8 then (bif Nat.beq pc 5 then some (.goto 4, 9, 0) else none) else (bif Nat.blt pc 9 then (bif Nat.beq pc 8 then some (.iconst 0, 0, 0) else none) else (bif Nat.beq pc 9 then some (.ireturn, 0, 0) else none)))
def z_c65 (pc : Nat) : Option (Instr × Nat × Int32) := bif Nat.blt pc 29 then (bif Nat.blt pc 13 then (bif Nat.blt pc 6 then (bif Nat.blt pc 2 then (bif Nat.blt pc 1 then (bif Nat.beq pc 0 then some (.dload_n 0, 0, 0) else none) else (bif Nat.beq pc 1 then some (.dconst 0, 0, 0) else none)) else (bif Nat.blt pc 3 then (bif Nat.beq pc 2 then some (.dcmp .g, 0, 0) else none) else (bif Nat.beq pc 3 then some (.ifCond .gt 5, 8, 0) else none))) else (bif Nat.blt pc 8 then (bif Nat.blt pc 7 then (bif Nat.beq pc 6 then some (.lconst 0, 0, 0) else none) else (bif Nat.beq pc 7 then some (.lreturn, 0, 0) else none)) else (bif Nat.blt pc 9 then (bif Nat.beq pc 8 then some (.dload_n 0, 0, 0) else none) else (bif Nat.blt pc 10 then (bif Nat.beq pc 9 then some (.dstore_n 2, 0, 0) else none) else (bif Nat.beq pc 10 then some (.ldc2_w 288, 0, 0) else none))))) else (bif Nat.blt pc 21 then (bif Nat.blt pc 16 then (bif Nat.blt pc 15 then (bif Nat.beq pc 13 then some (.lstore 4, 0, 0) else none) else (bif Nat.beq pc 15 then some (.dload_n 2, 0, 0) else none)) else (bif Nat.blt pc 17 then (bif Nat.beq pc 16 then some (.dconst 1, 0, 0) else none) else (bif Nat.blt pc 18 then (bif Nat.beq pc 17 then some (.dcmp .g, 0, 0) else none) else (bif Nat.beq pc 18 then some (.ifCond .ge 25, 43, 0) else none)))) else (bif Nat.blt pc 24 then (bif Nat.blt pc 23 then (bif Nat.beq pc 21 then some (.lload 4, 0, 0) else none) else (bif Nat.beq pc 23 then some (.lconst 0, 0, 0) else none)) else (bif Nat.blt pc 25 then (bif Nat.beq pc 24 then some (.lcmp, 0, 0) else none) else (bif Nat.blt pc 28 then (bif Nat.beq pc 25 then some (.ifCond .le 18, 43, 0) else none) else (bif Nat.beq pc 28 then some (.dload_n 2, 0, 0) else none)))))) else (bif Nat.blt pc 45 then (bif Nat.blt pc 36 then (bif Nat.blt pc 33 then (bif Nat.blt pc 32 then (bif Nat.beq pc 29 then some (.ldc2_w 290, 0, 0) else none) else (bif Nat.beq pc 32 then some (.dmul, 0, 0) else none)) else (bif Nat.blt pc 34 then (bif Nat.beq pc 33 then some (.dstore_n 2, 0, 0) else none) else (bif Nat.beq pc 34 then some (.lload 4, 0, 0) else none))) else (bif Nat.blt pc 38 then (bif Nat.blt pc 37 then (bif Nat.beq pc 36 then some (.lconst 1, 0, 0) else none) else (bif Nat.beq pc 37 then some (.lsub, 0, 0) else none)) else (bif Nat.blt pc 40 then (bif Nat.beq pc 38 then some (.lstore 4, 0, 0) else none) else (bif Nat.blt pc 43 then (bif Nat.beq pc 40 then some (.goto (-25), 15, 0) else none) else (bif Nat.beq pc 43 then some (.lload 4, 0, 0) else none))))) else (bif Nat.blt pc 51 then (bif Nat.blt pc 48 then (bif Nat.blt pc 47 then (bif Nat.beq pc 45 then some (.bipush 52, 0, 52) else none) else (bif Nat.beq pc 47 then some (.lshl, 0, 0) else none)) else (bif Nat.blt pc 49 then (bif Nat.beq pc 48 then some (.dload_n 2, 0, 0) else none) else (bif Nat.blt pc 50 then (bif Nat.beq pc 49 then some (.dconst 1, 0, 0) else none) else (bif Nat.beq pc 50 then some (.dsub, 0, 0) else none)))) else (bif Nat.blt pc 55 then (bif Nat.blt pc 54 then (bif Nat.beq pc 51 then some (.ldc2_w 292, 0, 0) else none) else (bif Nat.beq pc 54 then some (.dmul, 0, 0) else none)) else (bif Nat.blt pc 56 then (bif Nat.beq pc 55 then some (.d2l, 0, 0) else none) else (bif Nat.blt pc 57 then (bif Nat.beq pc 56 then some (.ladd, 0, 0) else none) else (bif Nat.beq pc 57 then some (.lreturn, 0, 0) else none))))))
def z_c66 (pc : Nat) : Option (Instr × Nat × Int32) := bif Nat.blt pc 1 then (bif Nat.beq pc 0 then some (.aload_n 0, 0, 0) else none) else (bif Nat.blt pc 4 then (bif Nat.beq pc 1 then some (.getfield 25, 0, 0) else none) else (bif Nat.beq pc 4 then some (.ireturn, 0, 0) else none))
def z_c67 (pc : Nat) : Option (Instr × Nat × Int32) := bif Nat.blt pc 7 then (bif Nat.blt pc 2 then (bif Nat.blt pc 1 then (bif Nat.beq pc 0 then some (.iload_n 0, 0, 0) else none) else (bif Nat.beq pc 1 then some (.iload_n 1, 0, 0) else none)) else (bif Nat.blt pc 5 then (bif Nat.beq pc 2 then some (.if_icmp .lt 12, 14, 0) else none) else (bif Nat.blt pc 6 then (bif Nat.beq pc 5 then some (.iload_n 0, 0, 0) else none) else (bif Nat.beq pc 6 then some (.iload_n 2, 0, 0) else none)))) else (bif Nat.blt pc 11 then (bif Nat.blt pc 10 then (bif Nat.beq pc 7 then some (.if_icmp .gt 7, 14, 0) else none) else (bif Nat.beq pc 10 then some (.iconst 1, 0, 1) else none)) else (bif Nat.blt pc 14 then (bif Nat.beq pc 11 then some (.goto 4, 15, 0) else none) else (bif Nat.blt pc 15 then (bif Nat.beq pc 14 then some (.iconst 0, 0, 0) else none) else (bif Nat.beq pc 15 then some (.ireturn, 0, 0) else none))))
def z_c68 (pc : Nat) : Option (Instr × Nat × Int32) := bif Nat.blt pc 6 then (bif Nat.blt pc 2 then (bif Nat.blt pc 1 then (bif Nat.beq pc 0 then some (.aload_n 0, 0, 0) else none) else (bif Nat.beq pc 1 then some (.iload_n 1, 0, 0) else none)) else (bif Nat.blt pc 5 then (bif Nat.beq pc 2 then some (.putfield 25, 0, 0) else none) else (bif Nat.beq pc 5 then some (.iload_n 1, 0, 0) else none))) else (bif Nat.blt pc 10 then (bif Nat.blt pc 9 then (bif Nat.beq pc 6 then some (.ifCond .ne 7, 13, 0) else none) else (bif Nat.beq pc 9 then some (.iconst 1, 0, 1) else none)) else (bif Nat.blt pc 13 then (bif Nat.beq pc 10 then some (.goto 4, 14, 0) else none) else (bif Nat.blt pc 14 then (bif Nat.beq pc 13 then some (.iconst 0, 0, 0) else none) else (bif Nat.beq pc 14 then some (.ireturn, 0, 0) else none))))
def z_c69 (pc : Nat) : Option (Instr × Nat × Int32) := bif Nat.blt pc 2 then (bif Nat.blt pc 1 then (bif Nat.beq pc 0 then some (.iload_n 0, 0, 0) else none) else (bif Nat.beq pc 1 then some (.iconst 0, 0, 0) else none)) else (bif Nat.blt pc 3 then (bif Nat.beq pc 2 then some (.iconst 3, 0, 3) else none) else (bif Nat.blt pc 6 then (bif Nat.beq pc 3 then some (.invokestatic 29, 0, 0) else none) else (bif Nat.beq pc 6 then some (.ireturn, 0, 0) else none)))
def z_c70 (pc : Nat) : Option (Instr × Nat × Int32) := bif Nat.blt pc 50 then (bif Nat.blt pc 24 then (bif Nat.blt pc 11 then (bif Nat.blt pc 6 then (bif Nat.blt pc 1 then (bif Nat.beq pc 0 then some (.aload_n 0, 0, 0) else none) else (bif Nat.blt pc 4 then (bif Nat.beq pc 1 then some (.getfield 33, 0, 0) else none) else (bif Nat.beq pc 4 then some (.bipush 6, 0, 6) else none))) else (bif Nat.blt pc 9 then (bif Nat.beq pc 6 then some (.if_icmp .ne 44, 50, 0) else none) else (bif Nat.blt pc 10 then (bif Nat.beq pc 9 then some (.iconst 0, 0, 0) else none) else (bif Nat.beq pc 10 then some (.istore_n 1, 0, 0) else none)))) else (bif Nat.blt pc 18 then (bif Nat.blt pc 12 then (bif Nat.beq pc 11 then some (.iload_n 1, 0, 0) else none) else (bif Nat.blt pc 15 then (bif Nat.beq pc 12 then some (.sipush 1880, 0, 1880) else none) else (bif Nat.beq pc 15 then some (.if_icmp .ge 25, 40, 0) else none))) else (bif Nat.blt pc 22 then (bif Nat.blt pc 19 then (bif Nat.beq pc 18 then some (.aload_n 0, 0, 0) else none) else (bif Nat.beq pc 19 then some (.getfield 16, 0, 0) else none)) else (bif Nat.blt pc 23 then (bif Nat.beq pc 22 then some (.iload_n 1, 0, 0) else none) else (bif Nat.beq pc 23 then some (.aload_n 0, 0, 0) else none))))) else (bif Nat.blt pc 37 then (bif Nat.blt pc 31 then (bif Nat.blt pc 27 then (bif Nat.beq pc 24 then some (.getfield 16, 0, 0) else none) else (bif Nat.blt pc 30 then (bif Nat.beq pc 27 then some (.sipush 376, 0, 376) else none) else (bif Nat.beq pc 30 then some (.iload_n 1, 0, 0) else none))) else (bif Nat.blt pc 33 then (bif Nat.blt pc 32 then (bif Nat.beq pc 31 then some (.iadd, 0, 0) else none) else (bif Nat.beq pc 32 then some (.iaload, 0, 0) else none)) else (bif Nat.blt pc 34 then (bif Nat.beq pc 33 then some (.iastore, 0, 0) else none) else (bif Nat.beq pc 34 then some (.iinc 1 1, 0, 1) else none)))) else (bif Nat.blt pc 42 then (bif Nat.blt pc 40 then (bif Nat.beq pc 37 then some (.goto (-26), 11, 0) else none) else (bif Nat.blt pc 41 then (bif Nat.beq pc 40 then some (.aload_n 0, 0, 0) else none) else (bif Nat.beq pc 41 then some (.dup, 0, 0) else none))) else (bif Nat.blt pc 46 then (bif Nat.blt pc 45 then (bif Nat.beq pc 42 then some (.getfield 33, 0, 0) else none) else (bif Nat.beq pc 45 then some (.iconst 1, 0, 1) else none)) else (bif Nat.blt pc 47 then (bif Nat.beq pc 46 then some (.isub, 0, 0) else none) else (bif Nat.beq pc 47 then some (.putfield 33, 0, 0) else none)))))) else (bif Nat.blt pc 73 then (bif Nat.blt pc 60 then (bif Nat.blt pc 53 then (bif Nat.blt pc 51 then (bif Nat.beq pc 50 then some (.iconst 0, 0, 0) else none) else (bif Nat.blt pc 52 then (bif Nat.beq pc 51 then some (.istore_n 1, 0, 0) else none) else (bif Nat.beq pc 52 then some (.iload_n 1, 0, 0) else none))) else (bif Nat.blt pc 56 then (bif Nat.beq pc 53 then some (.sipush 376, 0, 376) else none) else (bif Nat.blt pc 59 then (bif Nat.beq pc 56 then some (.if_icmp .ge 30, 86, 0) else none) else (bif Nat.beq pc 59 then some (.aload_n 0, 0, 0) else none)))) else (bif Nat.blt pc 67 then (bif Nat.blt pc 63 then (bif Nat.beq pc 60 then some (.getfield 16, 0, 0) else none) else (bif Nat.blt pc 66 then (bif Nat.beq pc 63 then some (.sipush 376, 0, 376) else none) else (bif Nat.beq pc 66 then some (.aload_n 0, 0, 0) else none))) else (bif Nat.blt pc 71 then (bif Nat.blt pc 70 then (bif Nat.beq pc 67 then some (.getfield 33, 0, 0) else none) else (bif Nat.beq pc 70 then some (.imul, 0, 0) else none)) else (bif Nat.blt pc 72 then (bif Nat.beq pc 71 then some (.iload_n 1, 0, 0) else none) else (bif Nat.beq pc 72 then some (.iadd, 0, 0) else none))))) else (bif Nat.blt pc 86 then (bif Nat.blt pc 78 then (bif Nat.blt pc 74 then (bif Nat.beq pc 73 then some (.aload_n 0, 0, 0) else none) else (bif Nat.blt pc 77 then (bif Nat.beq pc 74 then some (.getfield 7, 0, 0) else none) else (bif Nat.beq pc 77 then some (.iload_n 1, 0, 0) else none))) else (bif Nat.blt pc 80 then (bif Nat.blt pc 79 then (bif Nat.beq pc 78 then some (.iaload, 0, 0) else none) else (bif Nat.beq pc 79 then some (.iastore, 0, 0) else none)) else (bif Nat.blt pc 83 then (bif Nat.beq pc 80 then some (.iinc 1 1, 0, 1) else none) else (bif Nat.beq pc 83 then some (.goto (-31), 52, 0) else none)))) else (bif Nat.blt pc 91 then (bif Nat.blt pc 87 then (bif Nat.beq pc 86 then some (.aload_n 0, 0, 0) else none) else (bif Nat.blt pc 88 then (bif Nat.beq pc 87 then some (.dup, 0, 0) else none) else (bif Nat.beq pc 88 then some (.getfield 33, 0, 0) else none))) else (bif Nat.blt pc 93 then (bif Nat.blt pc 92 then (bif Nat.beq pc 91 then some (.iconst 1, 0, 1) else none) else (bif Nat.beq pc 92 then some (.iadd, 0, 0) else none)) else (bif Nat.blt pc 96 then (bif Nat.beq pc 93 then some (.putfield 33, 0, 0) else none) else (bif Nat.beq pc 96 then some (.return_, 0, 0) else none))))))
def z_c71 (pc : Nat) : Option (Instr × Nat × Int32) := bif Nat.blt pc 14 then (bif Nat.blt pc 6 then (bif Nat.blt pc 2 then (bif Nat.blt pc 1 then (bif Nat.beq pc 0 then some (.iconst 0, 0, 0) else none) else (bif Nat.beq pc 1 then some (.istore_n 1, 0, 0) else none)) else (bif Nat.blt pc 3 then (bif Nat.beq pc 2 then some (.iload_n 1, 0, 0) else none) else (bif Nat.beq pc 3 then some (.sipush 376, 0, 376) else none))) else (bif Nat.blt pc 10 then (bif Nat.blt pc 9 then (bif Nat.beq pc 6 then some (.if_icmp .ge 21, 27, 0) else none) else (bif Nat.beq pc 9 then some (.aload_n 0, 0, 0) else none)) else (bif Nat.blt pc 13 then (bif Nat.beq pc 10 then some (.getfield 13, 0, 0) else none) else (bif Nat.beq pc 13 then some (.iload_n 1, 0, 0) else none)))) else (bif Nat.blt pc 20 then (bif Nat.blt pc 18 then (bif Nat.blt pc 15 then (bif Nat.beq pc 14 then some (.aload_n 0, 0, 0) else none) else (bif Nat.beq pc 15 then some (.getfield 7, 0, 0) else none)) else (bif Nat.blt pc 19 then (bif Nat.beq pc 18 then some (.iload_n 1, 0, 0) else none) else (bif Nat.beq pc 19 then some (.iaload, 0, 0) else none))) else (bif Nat.blt pc 24 then (bif Nat.blt pc 21 then (bif Nat.beq pc 20 then some (.iastore, 0, 0) else none) else (bif Nat.beq pc 21 then some (.iinc 1 1, 0, 1) else none)) else (bif Nat.blt pc 27 then (bif Nat.beq pc 24 then some (.goto (-22), 2, 0) else none) else (bif Nat.beq pc 27 then some (.return_, 0, 0) else none))))
def z_c72 (pc : Nat) : Option (Instr × Nat × Int32) := bif Nat.blt pc 14 then (bif Nat.blt pc 6 then (bif Nat.blt pc 2 then (bif Nat.blt pc 1 then (bif Nat.beq pc 0 then some (.iconst 0, 0, 0) else none) else (bif Nat.beq pc 1 then some (.istore_n 1, 0, 0) else none)) else (bif Nat.blt pc 3 then (bif Nat.beq pc 2 then some (.iload_n 1, 0, 0) else none) else (bif Nat.beq pc 3 then some (.sipush 376, 0, 376) else none))) else (bif Nat.blt pc 10 then (bif Nat.blt pc 9 then (bif Nat.beq pc 6 then some (.if_icmp .ge 21, 27, 0) else none) else (bif Nat.beq pc 9 then some (.aload_n 0, 0, 0) else none)) else (bif Nat.blt pc 13 then (bif Nat.beq pc 10 then some (.getfield 7, 0, 0) else none) else (bif Nat.beq pc 13 then some (.iload_n 1, 0, 0) else none)))) else (bif Nat.blt pc 20 then (bif Nat.blt pc 18 then (bif Nat.blt pc 15 then (bif Nat.beq pc 14 then some (.aload_n 0, 0, 0) else none) else (bif Nat.beq pc 15 then some (.getfield 13, 0, 0) else none)) else (bif Nat.blt pc 19 then (bif Nat.beq pc 18 then some (.iload_n 1, 0, 0) else none) else (bif Nat.beq pc 19 then some (.iaload, 0, 0) else none))) else (bif Nat.blt pc 24 then (bif Nat.blt pc 21 then (bif Nat.beq pc 20 then some (.iastore, 0, 0) else none) else (bif Nat.beq pc 21 then some (.iinc 1 1, 0, 1) else none)) else (bif Nat.blt pc 27 then (bif Nat.beq pc 24 then some (.goto (-22), 2, 0) else none) else (bif Nat.beq pc 27 then some (.return_, 0, 0) else none))))
def z_c73 (pc : Nat) : Option (Instr × Nat × Int32) := bif Nat.blt pc 18 then (bif Nat.blt pc 6 then (bif Nat.blt pc 3 then (bif Nat.blt pc 1 then (bif Nat.beq pc 0 then some (.iconst 0, 0, 0) else none) else (bif Nat.blt pc 2 then (bif Nat.beq pc 1 then some (.istore_n 1, 0, 0) else none) else (bif Nat.beq pc 2 then some (.iconst 0, 0, 0) else none))) else (bif Nat.blt pc 4 then (bif Nat.beq pc 3 then some (.istore_n 2, 0, 0) else none) else (bif Nat.blt pc 5 then (bif Nat.beq pc 4 then some (.iload_n 2, 0, 0) else none) else (bif Nat.beq pc 5 then some (.iconst 4, 0, 4) else none)))) else (bif Nat.blt pc 11 then (bif Nat.blt pc 9 then (bif Nat.beq pc 6 then some (.if_icmp .ge 32, 38, 0) else none) else (bif Nat.blt pc 10 then (bif Nat.beq pc 9 then some (.iload_n 1, 0, 0) else none) else (bif Nat.beq pc 10 then some (.aload_n 0, 0, 0) else none))) else (bif Nat.blt pc 16 then (bif Nat.blt pc 14 then (bif Nat.beq pc 11 then some (.getfield 7, 0, 0) else none) else (bif Nat.beq pc 14 then some (.bipush 16, 0, 16) else none)) else (bif Nat.blt pc 17 then (bif Nat.beq pc 16 then some (.iload_n 2, 0, 0) else none) else (bif Nat.beq pc 17 then some (.iadd, 0, 0) else none))))) else (bif Nat.blt pc 29 then (bif Nat.blt pc 23 then (bif Nat.blt pc 19 then (bif Nat.beq pc 18 then some (.iaload, 0, 0) else none) else (bif Nat.blt pc 20 then (bif Nat.beq pc 19 then some (.iconst 2, 0, 2) else none) else (bif Nat.beq pc 20 then some (.if_icmp .ne 9, 29, 0) else none))) else (bif Nat.blt pc 25 then (bif Nat.blt pc 24 then (bif Nat.beq pc 23 then some (.iconst 1, 0, 1) else none) else (bif Nat.beq pc 24 then some (.iload_n 2, 0, 0) else none)) else (bif Nat.blt pc 26 then (bif Nat.beq pc 25 then some (.ishl, 0, 0) else none) else (bif Nat.beq pc 26 then some (.goto 4, 30, 0) else none)))) else (bif Nat.blt pc 32 then (bif Nat.blt pc 30 then (bif Nat.beq pc 29 then some (.iconst 0, 0, 0) else none) else (bif Nat.blt pc 31 then (bif Nat.beq pc 30 then some (.ior, 0, 0) else none) else (bif Nat.beq pc 31 then some (.istore_n 1, 0, 0) else none))) else (bif Nat.blt pc 38 then (bif Nat.blt pc 35 then (bif Nat.beq pc 32 then some (.iinc 2 1, 0, 1) else none) else (bif Nat.beq pc 35 then some (.goto (-31), 4, 0) else none)) else (bif Nat.blt pc 39 then (bif Nat.beq pc 38 then some (.iload_n 1, 0, 0) else none) else (bif Nat.beq pc 39 then some (.ireturn, 0, 0) else none)))))
def z_c74 (pc : Nat) : Option (Instr × Nat × Int32) := bif Nat.blt pc 5 then (bif Nat.blt pc 2 then (bif Nat.blt pc 1 then (bif Nat.beq pc 0 then some (.iload_n 0, 0, 0) else none) else (bif Nat.beq pc 1 then some (.iload_n 1, 0, 0) else none)) else (bif Nat.blt pc 3 then (bif Nat.beq pc 2 then some (.ishr, 0, 0) else none) else (bif Nat.blt pc 4 then (bif Nat.beq pc 3 then some (.iconst 1, 0, 1) else none) else (bif Nat.beq pc 4 then some (.iand, 0, 0) else none)))) else (bif Nat.blt pc 10 then (bif Nat.blt pc 6 then (bif Nat.beq pc 5 then some (.iconst 1, 0, 1) else none) else (bif Nat.blt pc 9 then (bif Nat.beq pc 6 then some (.if_icmp .ne 7, 13, 0) else none) else (bif Nat.beq pc 9 then some (.iconst 1, 0, 1) else none))) else (bif Nat.blt pc 13 then (bif Nat.beq pc 10 then some (.goto 4, 14, 0) else none) else (bif Nat.blt pc 14 then (bif Nat.beq pc 13 then some (.iconst 0, 0, 0) else none) else (bif Nat.beq pc 14 then some (.ireturn, 0, 0) else none))))
def z_c75 (pc : Nat) : Option (Instr × Nat × Int32) := bif Nat.blt pc 16 then (bif Nat.blt pc 8 then (bif Nat.blt pc 4 then (bif Nat.blt pc 1 then (bif Nat.beq pc 0 then some (.aload_n 0, 0, 0) else none) else (bif Nat.beq pc 1 then some (.getfield 7, 0, 0) else none)) else (bif Nat.blt pc 6 then (bif Nat.beq pc 4 then some (.bipush 40, 0, 40) else none) else (bif Nat.blt pc 7 then (bif Nat.beq pc 6 then some (.iload_n 1, 0, 0) else none) else (bif Nat.beq pc 7 then some (.iadd, 0, 0) else none)))) else (bif Nat.blt pc 10 then (bif Nat.blt pc 9 then (bif Nat.beq pc 8 then some (.iaload, 0, 0) else none) else (bif Nat.beq pc 9 then some (.aload_n 0, 0, 0) else none)) else (bif Nat.blt pc 13 then (bif Nat.beq pc 10 then some (.getfield 7, 0, 0) else none) else (bif Nat.blt pc 15 then (bif Nat.beq pc 13 then some (.bipush 37, 0, 37) else none) else (bif Nat.beq pc 15 then some (.iaload, 0, 0) else none))))) else (bif Nat.blt pc 25 then (bif Nat.blt pc 20 then (bif Nat.blt pc 17 then (bif Nat.beq pc 16 then some (.iconst 1, 0, 1) else none) else (bif Nat.beq pc 17 then some (.if_icmp .ne 7, 24, 0) else none)) else (bif Nat.blt pc 21 then (bif Nat.beq pc 20 then some (.iconst 0, 0, 0) else none) else (bif Nat.blt pc 24 then (bif Nat.beq pc 21 then some (.goto 10, 31, 0) else none) else (bif Nat.beq pc 24 then some (.aload_n 0, 0, 0) else none)))) else (bif Nat.blt pc 30 then (bif Nat.blt pc 28 then (bif Nat.beq pc 25 then some (.getfield 7, 0, 0) else none) else (bif Nat.beq pc 28 then some (.bipush 32, 0, 32) else none)) else (bif Nat.blt pc 31 then (bif Nat.beq pc 30 then some (.iaload, 0, 0) else none) else (bif Nat.blt pc 32 then (bif Nat.beq pc 31 then some (.iadd, 0, 0) else none) else (bif Nat.beq pc 32 then some (.ireturn, 0, 0) else none)))))
def z_c76 (pc : Nat) : Option (Instr × Nat × Int32) := bif Nat.blt pc 31 then (bif Nat.blt pc 14 then (bif Nat.blt pc 5 then (bif Nat.blt pc 2 then (bif Nat.blt pc 1 then (bif Nat.beq pc 0 then some (.iconst (-1), 0, (-1)) else none) else (bif Nat.beq pc 1 then some (.istore_n 2, 0, 0) else none)) else (bif Nat.blt pc 3 then (bif Nat.beq pc 2 then some (.iconst 0, 0, 0) else none) else (bif Nat.blt pc 4 then (bif Nat.beq pc 3 then some (.istore_n 3, 0, 0) else none) else (bif Nat.beq pc 4 then some (.iload_n 3, 0, 0) else none)))) else (bif Nat.blt pc 9 then (bif Nat.blt pc 6 then (bif Nat.beq pc 5 then some (.iconst 4, 0, 4) else none) else (bif Nat.beq pc 6 then some (.if_icmp .ge 61, 67, 0) else none)) else (bif Nat.blt pc 10 then (bif Nat.beq pc 9 then some (.iload_n 1, 0, 0) else none) else (bif Nat.blt pc 11 then (bif Nat.beq pc 10 then some (.iload_n 3, 0, 0) else none) else (bif Nat.beq pc 11 then some (.invokestatic 36, 0, 0) else none))))) else (bif Nat.blt pc 23 then (bif Nat.blt pc 18 then (bif Nat.blt pc 17 then (bif Nat.beq pc 14 then some (.ifCond .eq 33, 47, 0) else none) else (bif Nat.beq pc 17 then some (.iload_n 2, 0, 0) else none)) else (bif Nat.blt pc 19 then (bif Nat.beq pc 18 then some (.iconst (-1), 0, (-1)) else none) else (bif Nat.blt pc 22 then (bif Nat.beq pc 19 then some (.if_icmp .eq 24, 43, 0) else none) else (bif Nat.beq pc 22 then some (.aload_n 0, 0, 0) else none)))) else (bif Nat.blt pc 28 then (bif Nat.blt pc 26 then (bif Nat.beq pc 23 then some (.getfield 7, 0, 0) else none) else (bif Nat.beq pc 26 then some (.bipush 8, 0, 8) else none)) else (bif Nat.blt pc 29 then (bif Nat.beq pc 28 then some (.iload_n 3, 0, 0) else none) else (bif Nat.blt pc 30 then (bif Nat.beq pc 29 then some (.iadd, 0, 0) else none) else (bif Nat.beq pc 30 then some (.iaload, 0, 0) else none)))))) else (bif Nat.blt pc 48 then (bif Nat.blt pc 39 then (bif Nat.blt pc 35 then (bif Nat.blt pc 32 then (bif Nat.beq pc 31 then some (.aload_n 0, 0, 0) else none) else (bif Nat.beq pc 32 then some (.getfield 7, 0, 0) else none)) else (bif Nat.blt pc 37 then (bif Nat.beq pc 35 then some (.bipush 8, 0, 8) else none) else (bif Nat.blt pc 38 then (bif Nat.beq pc 37 then some (.iload_n 2, 0, 0) else none) else (bif Nat.beq pc 38 then some (.iadd, 0, 0) else none)))) else (bif Nat.blt pc 43 then (bif Nat.blt pc 40 then (bif Nat.beq pc 39 then some (.iaload, 0, 0) else none) else (bif Nat.beq pc 40 then some (.if_icmp .ge 7, 47, 0) else none)) else (bif Nat.blt pc 44 then (bif Nat.beq pc 43 then some (.iconst 1, 0, 1) else none) else (bif Nat.blt pc 47 then (bif Nat.beq pc 44 then some (.goto 4, 48, 0) else none) else (bif Nat.beq pc 47 then some (.iconst 0, 0, 0) else none))))) else (bif Nat.blt pc 59 then (bif Nat.blt pc 52 then (bif Nat.blt pc 50 then (bif Nat.beq pc 48 then some (.istore 4, 0, 0) else none) else (bif Nat.beq pc 50 then some (.iload 4, 0, 0) else none)) else (bif Nat.blt pc 55 then (bif Nat.beq pc 52 then some (.ifCond .eq 7, 59, 0) else none) else (bif Nat.blt pc 56 then (bif Nat.beq pc 55 then some (.iload_n 3, 0, 0) else none) else (bif Nat.beq pc 56 then some (.goto 4, 60, 0) else none)))) else (bif Nat.blt pc 64 then (bif Nat.blt pc 60 then (bif Nat.beq pc 59 then some (.iload_n 2, 0, 0) else none) else (bif Nat.blt pc 61 then (bif Nat.beq pc 60 then some (.istore_n 2, 0, 0) else none) else (bif Nat.beq pc 61 then some (.iinc 3 1, 0, 1) else none))) else (bif Nat.blt pc 67 then (bif Nat.beq pc 64 then some (.goto (-60), 4, 0) else none) else (bif Nat.blt pc 68 then (bif Nat.beq pc 67 then some (.iload_n 2, 0, 0) else none) else (bif Nat.beq pc 68 then some (.ireturn, 0, 0) else none))))))
def z_c77 (pc : Nat) : Option (Instr × Nat × Int32) := bif Nat.blt pc 164 then (bif Nat.blt pc 80 then (bif Nat.blt pc 41 then (bif Nat.blt pc 18 then (bif Nat.blt pc 6 then (bif Nat.blt pc 2 then (bif Nat.blt pc 1 then (bif Nat.beq pc 0 then some (.iload_n 1, 0, 0) else none) else (bif Nat.beq pc 1 then some (.istore_n 3, 0, 0) else none)) else (bif Nat.blt pc 3 then (bif Nat.beq pc 2 then some (.iconst 0, 0, 0) else none) else (bif Nat.blt pc 5 then (bif Nat.beq pc 3 then some (.istore 4, 0, 0) else none) else (bif Nat.beq pc 5 then some (.iconst 0, 0, 0) else none)))) else (bif Nat.blt pc 11 then (bif Nat.blt pc 8 then (bif Nat.beq pc 6 then some (.istore 5, 0, 0) else none) else (bif Nat.blt pc 10 then (bif Nat.beq pc 8 then some (.iload 5, 0, 0) else none) else (bif Nat.beq pc 10 then some (.iconst 4, 0, 4) else none))) else (bif Nat.blt pc 14 then (bif Nat.beq pc 11 then some (.if_icmp .ge 75, 86, 0) else none) else (bif Nat.blt pc 15 then (bif Nat.beq pc 14 then some (.aload_n 0, 0, 0) else none) else (bif Nat.beq pc 15 then some (.getfield 22, 0, 0) else none))))) else (bif Nat.blt pc 30 then (bif Nat.blt pc 23 then (bif Nat.blt pc 20 then (bif Nat.beq pc 18 then some (.iload 5, 0, 0) else none) else (bif Nat.blt pc 21 then (bif Nat.beq pc 20 then some (.iload_n 2, 0, 0) else none) else (bif Nat.beq pc 21 then some (.iload 5, 0, 0) else none))) else (bif Nat.blt pc 26 then (bif Nat.beq pc 23 then some (.invokestatic 36, 0, 0) else none) else (bif Nat.blt pc 29 then (bif Nat.beq pc 26 then some (.ifCond .eq 15, 41, 0) else none) else (bif Nat.beq pc 29 then some (.aload_n 0, 0, 0) else none)))) else (bif Nat.blt pc 36 then (bif Nat.blt pc 33 then (bif Nat.beq pc 30 then some (.getfield 7, 0, 0) else none) else (bif Nat.blt pc 34 then (bif Nat.beq pc 33 then some (.iconst 4, 0, 4) else none) else (bif Nat.beq pc 34 then some (.iload 5, 0, 0) else none))) else (bif Nat.blt pc 37 then (bif Nat.beq pc 36 then some (.iadd, 0, 0) else none) else (bif Nat.blt pc 38 then (bif Nat.beq pc 37 then some (.iaload, 0, 0) else none) else (bif Nat.beq pc 38 then some (.goto 4, 42, 0) else none)))))) else (bif Nat.blt pc 58 then (bif Nat.blt pc 50 then (bif Nat.blt pc 44 then (bif Nat.blt pc 42 then (bif Nat.beq pc 41 then some (.iconst 0, 0, 0) else none) else (bif Nat.blt pc 43 then (bif Nat.beq pc 42 then some (.iastore, 0, 0) else none) else (bif Nat.beq pc 43 then some (.iload_n 3, 0, 0) else none))) else (bif Nat.blt pc 45 then (bif Nat.beq pc 44 then some (.aload_n 0, 0, 0) else none) else (bif Nat.blt pc 48 then (bif Nat.beq pc 45 then some (.getfield 22, 0, 0) else none) else (bif Nat.beq pc 48 then some (.iload 5, 0, 0) else none)))) else (bif Nat.blt pc 53 then (bif Nat.blt pc 51 then (bif Nat.beq pc 50 then some (.iaload, 0, 0) else none) else (bif Nat.blt pc 52 then (bif Nat.beq pc 51 then some (.isub, 0, 0) else none) else (bif Nat.beq pc 52 then some (.istore_n 3, 0, 0) else none))) else (bif Nat.blt pc 55 then (bif Nat.beq pc 53 then some (.iload 4, 0, 0) else none) else (bif Nat.blt pc 56 then (bif Nat.beq pc 55 then some (.iload_n 2, 0, 0) else none) else (bif Nat.beq pc 56 then some (.iload 5, 0, 0) else none))))) else (bif Nat.blt pc 71 then (bif Nat.blt pc 65 then (bif Nat.blt pc 61 then (bif Nat.beq pc 58 then some (.invokestatic 36, 0, 0) else none) else (bif Nat.blt pc 64 then (bif Nat.beq pc 61 then some (.ifCond .eq 15, 76, 0) else none) else (bif Nat.beq pc 64 then some (.aload_n 0, 0, 0) else none))) else (bif Nat.blt pc 68 then (bif Nat.beq pc 65 then some (.getfield 7, 0, 0) else none) else (bif Nat.blt pc 69 then (bif Nat.beq pc 68 then some (.iconst 0, 0, 0) else none) else (bif Nat.beq pc 69 then some (.iload 5, 0, 0) else none)))) else (bif Nat.blt pc 76 then (bif Nat.blt pc 72 then (bif Nat.beq pc 71 then some (.iadd, 0, 0) else none) else (bif Nat.blt pc 73 then (bif Nat.beq pc 72 then some (.iaload, 0, 0) else none) else (bif Nat.beq pc 73 then some (.goto 4, 77, 0) else none))) else (bif Nat.blt pc 77 then (bif Nat.beq pc 76 then some (.iconst 0, 0, 0) else none) else (bif Nat.blt pc 78 then (bif Nat.beq pc 77 then some (.iadd, 0, 0) else none) else (bif Nat.beq pc 78 then some (.istore 4, 0, 0) else none))))))) else (bif Nat.blt pc 126 then (bif Nat.blt pc 104 then (bif Nat.blt pc 92 then (bif Nat.blt pc 87 then (bif Nat.blt pc 83 then (bif Nat.beq pc 80 then some (.iinc 5 1, 0, 1) else none) else (bif Nat.blt pc 86 then (bif Nat.beq pc 83 then some (.goto (-75), 8, 0) else none) else (bif Nat.beq pc 86 then some (.aload_n 0, 0, 0) else none))) else (bif Nat.blt pc 88 then (bif Nat.beq pc 87 then some (.iload_n 3, 0, 0) else none) else (bif Nat.blt pc 91 then (bif Nat.beq pc 88 then some (.ifCond .ge 8, 96, 0) else none) else (bif Nat.beq pc 91 then some (.iload_n 3, 0, 0) else none)))) else (bif Nat.blt pc 97 then (bif Nat.blt pc 93 then (bif Nat.beq pc 92 then some (.ineg, 0, 0) else none) else (bif Nat.blt pc 96 then (bif Nat.beq pc 93 then some (.goto 4, 97, 0) else none) else (bif Nat.beq pc 96 then some (.iconst 0, 0, 0) else none))) else (bif Nat.blt pc 100 then (bif Nat.beq pc 97 then some (.putfield 40, 0, 0) else none) else (bif Nat.blt pc 101 then (bif Nat.beq pc 100 then some (.iload_n 3, 0, 0) else none) else (bif Nat.beq pc 101 then some (.ifCond .ge 7, 108, 0) else none))))) else (bif Nat.blt pc 113 then (bif Nat.blt pc 109 then (bif Nat.blt pc 105 then (bif Nat.beq pc 104 then some (.iconst 0, 0, 0) else none) else (bif Nat.blt pc 108 then (bif Nat.beq pc 105 then some (.goto 4, 109, 0) else none) else (bif Nat.beq pc 108 then some (.iload_n 3, 0, 0) else none))) else (bif Nat.blt pc 110 then (bif Nat.beq pc 109 then some (.istore_n 3, 0, 0) else none) else (bif Nat.blt pc 111 then (bif Nat.beq pc 110 then some (.iload_n 2, 0, 0) else none) else (bif Nat.beq pc 111 then some (.istore 5, 0, 0) else none)))) else (bif Nat.blt pc 119 then (bif Nat.blt pc 115 then (bif Nat.beq pc 113 then some (.iload 5, 0, 0) else none) else (bif Nat.blt pc 118 then (bif Nat.beq pc 115 then some (.ifCond .le 84, 199, 0) else none) else (bif Nat.beq pc 118 then some (.aload_n 0, 0, 0) else none))) else (bif Nat.blt pc 121 then (bif Nat.beq pc 119 then some (.iload 5, 0, 0) else none) else (bif Nat.blt pc 124 then (bif Nat.beq pc 121 then some (.invokevirtual 43, 0, 0) else none) else (bif Nat.beq pc 124 then some (.istore 6, 0, 0) else none)))))) else (bif Nat.blt pc 144 then (bif Nat.blt pc 135 then (bif Nat.blt pc 131 then (bif Nat.blt pc 127 then (bif Nat.beq pc 126 then some (.aload_n 0, 0, 0) else none) else (bif Nat.blt pc 130 then (bif Nat.beq pc 127 then some (.getfield 7, 0, 0) else none) else (bif Nat.beq pc 130 then some (.iconst 0, 0, 0) else none))) else (bif Nat.blt pc 133 then (bif Nat.beq pc 131 then some (.iload 6, 0, 0) else none) else (bif Nat.blt pc 134 then (bif Nat.beq pc 133 then some (.iadd, 0, 0) else none) else (bif Nat.beq pc 134 then some (.iaload, 0, 0) else none)))) else (bif Nat.blt pc 141 then (bif Nat.blt pc 136 then (bif Nat.beq pc 135 then some (.aload_n 0, 0, 0) else none) else (bif Nat.blt pc 139 then (bif Nat.beq pc 136 then some (.getfield 22, 0, 0) else none) else (bif Nat.beq pc 139 then some (.iload 6, 0, 0) else none))) else (bif Nat.blt pc 142 then (bif Nat.beq pc 141 then some (.iaload, 0, 0) else none) else (bif Nat.blt pc 143 then (bif Nat.beq pc 142 then some (.isub, 0, 0) else none) else (bif Nat.beq pc 143 then some (.iload_n 3, 0, 0) else none))))) else (bif Nat.blt pc 155 then (bif Nat.blt pc 151 then (bif Nat.blt pc 147 then (bif Nat.beq pc 144 then some (.if_icmp .ge 23, 167, 0) else none) else (bif Nat.blt pc 148 then (bif Nat.beq pc 147 then some (.aload_n 0, 0, 0) else none) else (bif Nat.beq pc 148 then some (.getfield 7, 0, 0) else none))) else (bif Nat.blt pc 152 then (bif Nat.beq pc 151 then some (.iconst 0, 0, 0) else none) else (bif Nat.blt pc 154 then (bif Nat.beq pc 152 then some (.iload 6, 0, 0) else none) else (bif Nat.beq pc 154 then some (.iadd, 0, 0) else none)))) else (bif Nat.blt pc 160 then (bif Nat.blt pc 156 then (bif Nat.beq pc 155 then some (.iaload, 0, 0) else none) else (bif Nat.blt pc 157 then (bif Nat.beq pc 156 then some (.aload_n 0, 0, 0) else none) else (bif Nat.beq pc 157 then some (.getfield 22, 0, 0) else none))) else (bif Nat.blt pc 162 then (bif Nat.beq pc 160 then some (.iload 6, 0, 0) else none) else (bif Nat.blt pc 163 then (bif Nat.beq pc 162 then some (.iaload, 0, 0) else none) else (bif Nat.beq pc 163 then some (.isub, 0, 0) else none)))))))) else (bif Nat.blt pc 246 then (bif Nat.blt pc 201 then (bif Nat.blt pc 183 then (bif Nat.blt pc 176 then (bif Nat.blt pc 170 then (bif Nat.blt pc 167 then (bif Nat.beq pc 164 then some (.goto 4, 168, 0) else none) else (bif Nat.blt pc 168 then (bif Nat.beq pc 167 then some (.iload_n 3, 0, 0) else none) else (bif Nat.beq pc 168 then some (.istore 7, 0, 0) else none))) else (bif Nat.blt pc 171 then (bif Nat.beq pc 170 then some (.aload_n 0, 0, 0) else none) else (bif Nat.blt pc 174 then (bif Nat.beq pc 171 then some (.getfield 22, 0, 0) else none) else (bif Nat.beq pc 174 then some (.iload 6, 0, 0) else none)))) else (bif Nat.blt pc 180 then (bif Nat.blt pc 177 then (bif Nat.beq pc 176 then some (.dup2, 0, 0) else none) else (bif Nat.blt pc 178 then (bif Nat.beq pc 177 then some (.iaload, 0, 0) else none) else (bif Nat.beq pc 178 then some (.iload 7, 0, 0) else none))) else (bif Nat.blt pc 181 then (bif Nat.beq pc 180 then some (.iadd, 0, 0) else none) else (bif Nat.blt pc 182 then (bif Nat.beq pc 181 then some (.iastore, 0, 0) else none) else (bif Nat.beq pc 182 then some (.iload_n 3, 0, 0) else none))))) else (bif Nat.blt pc 192 then (bif Nat.blt pc 187 then (bif Nat.blt pc 185 then (bif Nat.beq pc 183 then some (.iload 7, 0, 0) else none) else (bif Nat.blt pc 186 then (bif Nat.beq pc 185 then some (.isub, 0, 0) else none) else (bif Nat.beq pc 186 then some (.istore_n 3, 0, 0) else none))) else (bif Nat.blt pc 189 then (bif Nat.beq pc 187 then some (.iload 5, 0, 0) else none) else (bif Nat.blt pc 190 then (bif Nat.beq pc 189 then some (.iconst 1, 0, 1) else none) else (bif Nat.beq pc 190 then some (.iload 6, 0, 0) else none)))) else (bif Nat.blt pc 196 then (bif Nat.blt pc 193 then (bif Nat.beq pc 192 then some (.ishl, 0, 0) else none) else (bif Nat.blt pc 194 then (bif Nat.beq pc 193 then some (.isub, 0, 0) else none) else (bif Nat.beq pc 194 then some (.istore 5, 0, 0) else none))) else (bif Nat.blt pc 199 then (bif Nat.beq pc 196 then some (.goto (-83), 113, 0) else none) else (bif Nat.blt pc 200 then (bif Nat.beq pc 199 then some (.aload_n 0, 0, 0) else none) else (bif Nat.beq pc 200 then some (.iload_n 3, 0, 0) else none)))))) else (bif Nat.blt pc 226 then (bif Nat.blt pc 212 then (bif Nat.blt pc 207 then (bif Nat.blt pc 204 then (bif Nat.beq pc 201 then some (.putfield 47, 0, 0) else none) else (bif Nat.blt pc 205 then (bif Nat.beq pc 204 then some (.aload_n 0, 0, 0) else none) else (bif Nat.beq pc 205 then some (.iload 4, 0, 0) else none))) else (bif Nat.blt pc 210 then (bif Nat.beq pc 207 then some (.putfield 50, 0, 0) else none) else (bif Nat.blt pc 211 then (bif Nat.beq pc 210 then some (.aload_n 0, 0, 0) else none) else (bif Nat.beq pc 211 then some (.aload_n 0, 0, 0) else none)))) else (bif Nat.blt pc 219 then (bif Nat.blt pc 215 then (bif Nat.beq pc 212 then some (.getfield 47, 0, 0) else none) else (bif Nat.blt pc 218 then (bif Nat.beq pc 215 then some (.ifCond .ne 7, 222, 0) else none) else (bif Nat.beq pc 218 then some (.iconst 1, 0, 1) else none))) else (bif Nat.blt pc 222 then (bif Nat.beq pc 219 then some (.goto 4, 223, 0) else none) else (bif Nat.blt pc 223 then (bif Nat.beq pc 222 then some (.iconst 0, 0, 0) else none) else (bif Nat.beq pc 223 then some (.putfield 53, 0, 0) else none))))) else (bif Nat.blt pc 236 then (bif Nat.blt pc 231 then (bif Nat.blt pc 227 then (bif Nat.beq pc 226 then some (.aload_n 0, 0, 0) else none) else (bif Nat.blt pc 228 then (bif Nat.beq pc 227 then some (.iconst 0, 0, 0) else none) else (bif Nat.beq pc 228 then some (.putfield 57, 0, 0) else none))) else (bif Nat.blt pc 232 then (bif Nat.beq pc 231 then some (.iconst 0, 0, 0) else none) else (bif Nat.blt pc 234 then (bif Nat.beq pc 232 then some (.istore 6, 0, 0) else none) else (bif Nat.beq pc 234 then some (.iload 6, 0, 0) else none)))) else (bif Nat.blt pc 241 then (bif Nat.blt pc 237 then (bif Nat.beq pc 236 then some (.iconst 4, 0, 4) else none) else (bif Nat.blt pc 240 then (bif Nat.beq pc 237 then some (.if_icmp .ge 96, 333, 0) else none) else (bif Nat.beq pc 240 then some (.aload_n 0, 0, 0) else none))) else (bif Nat.blt pc 242 then (bif Nat.beq pc 241 then some (.dup, 0, 0) else none) else (bif Nat.blt pc 245 then (bif Nat.beq pc 242 then some (.getfield 50, 0, 0) else none) else (bif Nat.beq pc 245 then some (.aload_n 0, 0, 0) else none))))))) else (bif Nat.blt pc 290 then (bif Nat.blt pc 270 then (bif Nat.blt pc 257 then (bif Nat.blt pc 252 then (bif Nat.blt pc 249 then (bif Nat.beq pc 246 then some (.getfield 22, 0, 0) else none) else (bif Nat.blt pc 251 then (bif Nat.beq pc 249 then some (.iload 6, 0, 0) else none) else (bif Nat.beq pc 251 then some (.iaload, 0, 0) else none))) else (bif Nat.blt pc 253 then (bif Nat.beq pc 252 then some (.isub, 0, 0) else none) else (bif Nat.blt pc 256 then (bif Nat.beq pc 253 then some (.putfield 50, 0, 0) else none) else (bif Nat.beq pc 256 then some (.aload_n 0, 0, 0) else none)))) else (bif Nat.blt pc 264 then (bif Nat.blt pc 258 then (bif Nat.beq pc 257 then some (.aload_n 0, 0, 0) else none) else (bif Nat.blt pc 261 then (bif Nat.beq pc 258 then some (.getfield 53, 0, 0) else none) else (bif Nat.beq pc 261 then some (.ifCond .eq 32, 293, 0) else none))) else (bif Nat.blt pc 265 then (bif Nat.beq pc 264 then some (.iload_n 2, 0, 0) else none) else (bif Nat.blt pc 267 then (bif Nat.beq pc 265 then some (.iload 6, 0, 0) else none) else (bif Nat.beq pc 267 then some (.invokestatic 36, 0, 0) else none))))) else (bif Nat.blt pc 282 then (bif Nat.blt pc 276 then (bif Nat.blt pc 273 then (bif Nat.beq pc 270 then some (.ifCond .eq 19, 289, 0) else none) else (bif Nat.blt pc 275 then (bif Nat.beq pc 273 then some (.iload 4, 0, 0) else none) else (bif Nat.beq pc 275 then some (.aload_n 0, 0, 0) else none))) else (bif Nat.blt pc 279 then (bif Nat.beq pc 276 then some (.getfield 7, 0, 0) else none) else (bif Nat.blt pc 280 then (bif Nat.beq pc 279 then some (.iconst 0, 0, 0) else none) else (bif Nat.beq pc 280 then some (.iload 6, 0, 0) else none)))) else (bif Nat.blt pc 285 then (bif Nat.blt pc 283 then (bif Nat.beq pc 282 then some (.iadd, 0, 0) else none) else (bif Nat.blt pc 284 then (bif Nat.beq pc 283 then some (.iaload, 0, 0) else none) else (bif Nat.beq pc 284 then some (.isub, 0, 0) else none))) else (bif Nat.blt pc 286 then (bif Nat.beq pc 285 then some (.iload_n 1, 0, 0) else none) else (bif Nat.blt pc 289 then (bif Nat.beq pc 286 then some (.if_icmp .lt 7, 293, 0) else none) else (bif Nat.beq pc 289 then some (.iconst 1, 0, 1) else none)))))) else (bif Nat.blt pc 312 then (bif Nat.blt pc 302 then (bif Nat.blt pc 297 then (bif Nat.blt pc 293 then (bif Nat.beq pc 290 then some (.goto 4, 294, 0) else none) else (bif Nat.blt pc 294 then (bif Nat.beq pc 293 then some (.iconst 0, 0, 0) else none) else (bif Nat.beq pc 294 then some (.putfield 53, 0, 0) else none))) else (bif Nat.blt pc 298 then (bif Nat.beq pc 297 then some (.aload_n 0, 0, 0) else none) else (bif Nat.blt pc 299 then (bif Nat.beq pc 298 then some (.dup, 0, 0) else none) else (bif Nat.beq pc 299 then some (.getfield 57, 0, 0) else none)))) else (bif Nat.blt pc 308 then (bif Nat.blt pc 303 then (bif Nat.beq pc 302 then some (.aload_n 0, 0, 0) else none) else (bif Nat.blt pc 306 then (bif Nat.beq pc 303 then some (.getfield 7, 0, 0) else none) else (bif Nat.beq pc 306 then some (.bipush 8, 0, 8) else none))) else (bif Nat.blt pc 310 then (bif Nat.beq pc 308 then some (.iload 6, 0, 0) else none) else (bif Nat.blt pc 311 then (bif Nat.beq pc 310 then some (.iadd, 0, 0) else none) else (bif Nat.beq pc 311 then some (.iaload, 0, 0) else none))))) else (bif Nat.blt pc 322 then (bif Nat.blt pc 318 then (bif Nat.blt pc 313 then (bif Nat.beq pc 312 then some (.aload_n 0, 0, 0) else none) else (bif Nat.blt pc 316 then (bif Nat.beq pc 313 then some (.getfield 22, 0, 0) else none) else (bif Nat.beq pc 316 then some (.iload 6, 0, 0) else none))) else (bif Nat.blt pc 319 then (bif Nat.beq pc 318 then some (.iaload, 0, 0) else none) else (bif Nat.blt pc 320 then (bif Nat.beq pc 319 then some (.imul, 0, 0) else none) else (bif Nat.beq pc 320 then some (.bipush 10, 0, 10) else none)))) else (bif Nat.blt pc 327 then (bif Nat.blt pc 323 then (bif Nat.beq pc 322 then some (.idiv, 0, 0) else none) else (bif Nat.blt pc 324 then (bif Nat.beq pc 323 then some (.iadd, 0, 0) else none) else (bif Nat.beq pc 324 then some (.putfield 57, 0, 0) else none))) else (bif Nat.blt pc 330 then (bif Nat.beq pc 327 then some (.iinc 6 1, 0, 1) else none) else (bif Nat.blt pc 333 then (bif Nat.beq pc 330 then some (.goto (-96), 234, 0) else none) else (bif Nat.beq pc 333 then some (.return_, 0, 0) else none))))))))
def z_c78 (pc : Nat) : Option (Instr × Nat × Int32) := bif Nat.blt pc 12 then (bif Nat.blt pc 6 then (bif Nat.blt pc 1 then (bif Nat.beq pc 0 then some (.aload_n 0, 0, 0) else none) else (bif Nat.blt pc 4 then (bif Nat.beq pc 1 then some (.getfield 7, 0, 0) else none) else (bif Nat.beq pc 4 then some (.bipush 34, 0, 34) else none))) else (bif Nat.blt pc 7 then (bif Nat.beq pc 6 then some (.iaload, 0, 0) else none) else (bif Nat.blt pc 9 then (bif Nat.beq pc 7 then some (.bipush 48, 0, 48) else none) else (bif Nat.beq pc 9 then some (.if_icmp .ne 8, 17, 0) else none)))) else (bif Nat.blt pc 18 then (bif Nat.blt pc 14 then (bif Nat.beq pc 12 then some (.bipush 47, 0, 47) else none) else (bif Nat.blt pc 17 then (bif Nat.beq pc 14 then some (.goto 10, 24, 0) else none) else (bif Nat.beq pc 17 then some (.aload_n 0, 0, 0) else none))) else (bif Nat.blt pc 23 then (bif Nat.blt pc 21 then (bif Nat.beq pc 18 then some (.getfield 7, 0, 0) else none) else (bif Nat.beq pc 21 then some (.bipush 34, 0, 34) else none)) else (bif Nat.blt pc 24 then (bif Nat.beq pc 23 then some (.iaload, 0, 0) else none) else (bif Nat.beq pc 24 then some (.ireturn, 0, 0) else none))))
def z_c79 (pc : Nat) : Option (Instr × Nat × Int32) := bif Nat.blt pc 6 then (bif Nat.blt pc 2 then (bif Nat.blt pc 1 then (bif Nat.beq pc 0 then some (.aload_n 0, 0, 0) else none) else (bif Nat.beq pc 1 then some (.aload_n 0, 0, 0) else none)) else (bif Nat.blt pc 3 then (bif Nat.beq pc 2 then some (.aload_n 0, 0, 0) else none) else (bif Nat.beq pc 3 then some (.invokevirtual 60, 0, 0) else none))) else (bif Nat.blt pc 10 then (bif Nat.blt pc 9 then (bif Nat.beq pc 6 then some (.invokevirtual 64, 0, 0) else none) else (bif Nat.beq pc 9 then some (.aload_n 0, 0, 0) else none)) else (bif Nat.blt pc 13 then (bif Nat.beq pc 10 then some (.invokevirtual 67, 0, 0) else none) else (bif Nat.blt pc 16 then (bif Nat.beq pc 13 then some (.invokevirtual 70, 0, 0) else none) else (bif Nat.beq pc 16 then some (.return_, 0, 0) else none))))
def z_c80 (pc : Nat) : Option (Instr × Nat × Int32) := bif Nat.blt pc 11 then (bif Nat.blt pc 5 then (bif Nat.blt pc 2 then (bif Nat.blt pc 1 then (bif Nat.beq pc 0 then some (.iload_n 0, 0, 0) else none) else (bif Nat.beq pc 1 then some (.iconst 1, 0, 1) else none)) else (bif Nat.blt pc 3 then (bif Nat.beq pc 2 then some (.iand, 0, 0) else none) else (bif Nat.blt pc 4 then (bif Nat.beq pc 3 then some (.iload_n 0, 0, 0) else none) else (bif Nat.beq pc 4 then some (.iconst 1, 0, 1) else none)))) else (bif Nat.blt pc 8 then (bif Nat.blt pc 6 then (bif Nat.beq pc 5 then some (.ishr, 0, 0) else none) else (bif Nat.blt pc 7 then (bif Nat.beq pc 6 then some (.iconst 1, 0, 1) else none) else (bif Nat.beq pc 7 then some (.iand, 0, 0) else none))) else (bif Nat.blt pc 9 then (bif Nat.beq pc 8 then some (.iadd, 0, 0) else none) else (bif Nat.blt pc 10 then (bif Nat.beq pc 9 then some (.iload_n 0, 0, 0) else none) else (bif Nat.beq pc 10 then some (.iconst 2, 0, 2) else none))))) else (bif Nat.blt pc 16 then (bif Nat.blt pc 13 then (bif Nat.blt pc 12 then (bif Nat.beq pc 11 then some (.ishr, 0, 0) else none) else (bif Nat.beq pc 12 then some (.iconst 1, 0, 1) else none)) else (bif Nat.blt pc 14 then (bif Nat.beq pc 13 then some (.iand, 0, 0) else none) else (bif Nat.blt pc 15 then (bif Nat.beq pc 14 then some (.iadd, 0, 0) else none) else (bif Nat.beq pc 15 then some (.iload_n 0, 0, 0) else none)))) else (bif Nat.blt pc 19 then (bif Nat.blt pc 17 then (bif Nat.beq pc 16 then some (.iconst 3, 0, 3) else none) else (bif Nat.blt pc 18 then (bif Nat.beq pc 17 then some (.ishr, 0, 0) else none) else (bif Nat.beq pc 18 then some (.iconst 1, 0, 1) else none))) else (bif Nat.blt pc 20 then (bif Nat.beq pc 19 then some (.iand, 0, 0) else none) else (bif Nat.blt pc 21 then (bif Nat.beq pc 20 then some (.iadd, 0, 0) else none) else (bif Nat.beq pc 21 then some (.ireturn, 0, 0) else none)))))
def z_c81 (pc : Nat) : Option (Instr × Nat × Int32) := bif Nat.blt pc 182 then (bif Nat.blt pc 94 then (bif Nat.blt pc 42 then (bif Nat.blt pc 21 then (bif Nat.blt pc 11 then (bif Nat.blt pc 3 then (bif Nat.blt pc 1 then (bif Nat.beq pc 0 then some (.iconst 0, 0, 0) else none) else (bif Nat.blt pc 2 then (bif Nat.beq pc 1 then some (.istore_n 1, 0, 0) else none) else (bif Nat.beq pc 2 then some (.iload_n 1, 0, 0) else none))) else (bif Nat.blt pc 7 then (bif Nat.blt pc 4 then (bif Nat.beq pc 3 then some (.iconst 4, 0, 4) else none) else (bif Nat.beq pc 4 then some (.if_icmp .ge 61, 65, 0) else none)) else (bif Nat.blt pc 8 then (bif Nat.beq pc 7 then some (.aload_n 0, 0, 0) else none) else (bif Nat.beq pc 8 then some (.getfield 7, 0, 0) else none)))) else (bif Nat.blt pc 15 then (bif Nat.blt pc 13 then (bif Nat.beq pc 11 then some (.bipush 16, 0, 16) else none) else (bif Nat.blt pc 14 then (bif Nat.beq pc 13 then some (.iload_n 1, 0, 0) else none) else (bif Nat.beq pc 14 then some (.iadd, 0, 0) else none))) else (bif Nat.blt pc 17 then (bif Nat.blt pc 16 then (bif Nat.beq pc 15 then some (.iaload, 0, 0) else none) else (bif Nat.beq pc 16 then some (.iconst 1, 0, 1) else none)) else (bif Nat.blt pc 20 then (bif Nat.beq pc 17 then some (.if_icmp .ne 42, 59, 0) else none) else (bif Nat.beq pc 20 then some (.aload_n 0, 0, 0) else none))))) else (bif Nat.blt pc 31 then (bif Nat.blt pc 27 then (bif Nat.blt pc 24 then (bif Nat.beq pc 21 then some (.getfield 7, 0, 0) else none) else (bif Nat.blt pc 26 then (bif Nat.beq pc 24 then some (.bipush 20, 0, 20) else none) else (bif Nat.beq pc 26 then some (.iload_n 1, 0, 0) else none))) else (bif Nat.blt pc 29 then (bif Nat.blt pc 28 then (bif Nat.beq pc 27 then some (.iadd, 0, 0) else none) else (bif Nat.beq pc 28 then some (.dup2, 0, 0) else none)) else (bif Nat.blt pc 30 then (bif Nat.beq pc 29 then some (.iaload, 0, 0) else none) else (bif Nat.beq pc 30 then some (.iconst 1, 0, 1) else none)))) else (bif Nat.blt pc 37 then (bif Nat.blt pc 33 then (bif Nat.blt pc 32 then (bif Nat.beq pc 31 then some (.isub, 0, 0) else none) else (bif Nat.beq pc 32 then some (.iastore, 0, 0) else none)) else (bif Nat.blt pc 34 then (bif Nat.beq pc 33 then some (.aload_n 0, 0, 0) else none) else (bif Nat.beq pc 34 then some (.getfield 7, 0, 0) else none))) else (bif Nat.blt pc 40 then (bif Nat.blt pc 39 then (bif Nat.beq pc 37 then some (.bipush 16, 0, 16) else none) else (bif Nat.beq pc 39 then some (.iload_n 1, 0, 0) else none)) else (bif Nat.blt pc 41 then (bif Nat.beq pc 40 then some (.iadd, 0, 0) else none) else (bif Nat.beq pc 41 then some (.aload_n 0, 0, 0) else none)))))) else (bif Nat.blt pc 67 then (bif Nat.blt pc 54 then (bif Nat.blt pc 48 then (bif Nat.blt pc 45 then (bif Nat.beq pc 42 then some (.getfield 7, 0, 0) else none) else (bif Nat.blt pc 47 then (bif Nat.beq pc 45 then some (.bipush 20, 0, 20) else none) else (bif Nat.beq pc 47 then some (.iload_n 1, 0, 0) else none))) else (bif Nat.blt pc 50 then (bif Nat.blt pc 49 then (bif Nat.beq pc 48 then some (.iadd, 0, 0) else none) else (bif Nat.beq pc 49 then some (.iaload, 0, 0) else none)) else (bif Nat.blt pc 53 then (bif Nat.beq pc 50 then some (.ifCond .ne 7, 57, 0) else none) else (bif Nat.beq pc 53 then some (.iconst 2, 0, 2) else none)))) else (bif Nat.blt pc 59 then (bif Nat.blt pc 57 then (bif Nat.beq pc 54 then some (.goto 4, 58, 0) else none) else (bif Nat.blt pc 58 then (bif Nat.beq pc 57 then some (.iconst 1, 0, 1) else none) else (bif Nat.beq pc 58 then some (.iastore, 0, 0) else none))) else (bif Nat.blt pc 65 then (bif Nat.blt pc 62 then (bif Nat.beq pc 59 then some (.iinc 1 1, 0, 1) else none) else (bif Nat.beq pc 62 then some (.goto (-60), 2, 0) else none)) else (bif Nat.blt pc 66 then (bif Nat.beq pc 65 then some (.aload_n 0, 0, 0) else none) else (bif Nat.beq pc 66 then some (.aload_n 0, 0, 0) else none))))) else (bif Nat.blt pc 81 then (bif Nat.blt pc 73 then (bif Nat.blt pc 70 then (bif Nat.beq pc 67 then some (.getfield 7, 0, 0) else none) else (bif Nat.blt pc 72 then (bif Nat.beq pc 70 then some (.bipush 34, 0, 34) else none) else (bif Nat.beq pc 72 then some (.iaload, 0, 0) else none))) else (bif Nat.blt pc 77 then (bif Nat.blt pc 76 then (bif Nat.beq pc 73 then some (.invokevirtual 64, 0, 0) else none) else (bif Nat.beq pc 76 then some (.istore_n 1, 0, 0) else none)) else (bif Nat.blt pc 78 then (bif Nat.beq pc 77 then some (.aload_n 0, 0, 0) else none) else (bif Nat.beq pc 78 then some (.invokevirtual 67, 0, 0) else none)))) else (bif Nat.blt pc 85 then (bif Nat.blt pc 83 then (bif Nat.blt pc 82 then (bif Nat.beq pc 81 then some (.istore_n 2, 0, 0) else none) else (bif Nat.beq pc 82 then some (.aload_n 0, 0, 0) else none)) else (bif Nat.blt pc 84 then (bif Nat.beq pc 83 then some (.iload_n 1, 0, 0) else none) else (bif Nat.beq pc 84 then some (.iload_n 2, 0, 0) else none))) else (bif Nat.blt pc 89 then (bif Nat.blt pc 88 then (bif Nat.beq pc 85 then some (.invokevirtual 70, 0, 0) else none) else (bif Nat.beq pc 88 then some (.aload_n 0, 0, 0) else none)) else (bif Nat.blt pc 92 then (bif Nat.beq pc 89 then some (.getfield 7, 0, 0) else none) else (bif Nat.beq pc 92 then some (.bipush 38, 0, 38) else none))))))) else (bif Nat.blt pc 140 then (bif Nat.blt pc 117 then (bif Nat.blt pc 107 then (bif Nat.blt pc 97 then (bif Nat.blt pc 95 then (bif Nat.beq pc 94 then some (.dup2, 0, 0) else none) else (bif Nat.blt pc 96 then (bif Nat.beq pc 95 then some (.iaload, 0, 0) else none) else (bif Nat.beq pc 96 then some (.aload_n 0, 0, 0) else none))) else (bif Nat.blt pc 103 then (bif Nat.blt pc 100 then (bif Nat.beq pc 97 then some (.getfield 47, 0, 0) else none) else (bif Nat.beq pc 100 then some (.ifCond .le 7, 107, 0) else none)) else (bif Nat.blt pc 104 then (bif Nat.beq pc 103 then some (.iconst 1, 0, 1) else none) else (bif Nat.beq pc 104 then some (.goto 4, 108, 0) else none)))) else (bif Nat.blt pc 110 then (bif Nat.blt pc 108 then (bif Nat.beq pc 107 then some (.iconst 0, 0, 0) else none) else (bif Nat.blt pc 109 then (bif Nat.beq pc 108 then some (.iadd, 0, 0) else none) else (bif Nat.beq pc 109 then some (.iastore, 0, 0) else none))) else (bif Nat.blt pc 114 then (bif Nat.blt pc 111 then (bif Nat.beq pc 110 then some (.aload_n 0, 0, 0) else none) else (bif Nat.beq pc 111 then some (.getfield 7, 0, 0) else none)) else (bif Nat.blt pc 116 then (bif Nat.beq pc 114 then some (.bipush 39, 0, 39) else none) else (bif Nat.beq pc 116 then some (.dup2, 0, 0) else none))))) else (bif Nat.blt pc 130 then (bif Nat.blt pc 122 then (bif Nat.blt pc 118 then (bif Nat.beq pc 117 then some (.iaload, 0, 0) else none) else (bif Nat.blt pc 119 then (bif Nat.beq pc 118 then some (.aload_n 0, 0, 0) else none) else (bif Nat.beq pc 119 then some (.getfield 53, 0, 0) else none))) else (bif Nat.blt pc 126 then (bif Nat.blt pc 125 then (bif Nat.beq pc 122 then some (.ifCond .eq 7, 129, 0) else none) else (bif Nat.beq pc 125 then some (.iconst 0, 0, 0) else none)) else (bif Nat.blt pc 129 then (bif Nat.beq pc 126 then some (.goto 4, 130, 0) else none) else (bif Nat.beq pc 129 then some (.iconst 1, 0, 1) else none)))) else (bif Nat.blt pc 134 then (bif Nat.blt pc 132 then (bif Nat.blt pc 131 then (bif Nat.beq pc 130 then some (.iadd, 0, 0) else none) else (bif Nat.beq pc 131 then some (.iastore, 0, 0) else none)) else (bif Nat.blt pc 133 then (bif Nat.beq pc 132 then some (.iconst 0, 0, 0) else none) else (bif Nat.beq pc 133 then some (.istore_n 3, 0, 0) else none))) else (bif Nat.blt pc 136 then (bif Nat.blt pc 135 then (bif Nat.beq pc 134 then some (.iload_n 3, 0, 0) else none) else (bif Nat.beq pc 135 then some (.iconst 4, 0, 4) else none)) else (bif Nat.blt pc 139 then (bif Nat.beq pc 136 then some (.if_icmp .ge 65, 201, 0) else none) else (bif Nat.beq pc 139 then some (.aload_n 0, 0, 0) else none)))))) else (bif Nat.blt pc 163 then (bif Nat.blt pc 150 then (bif Nat.blt pc 146 then (bif Nat.blt pc 143 then (bif Nat.beq pc 140 then some (.getfield 7, 0, 0) else none) else (bif Nat.blt pc 145 then (bif Nat.beq pc 143 then some (.bipush 24, 0, 24) else none) else (bif Nat.beq pc 145 then some (.iload_n 3, 0, 0) else none))) else (bif Nat.blt pc 148 then (bif Nat.blt pc 147 then (bif Nat.beq pc 146 then some (.iadd, 0, 0) else none) else (bif Nat.beq pc 147 then some (.dup2, 0, 0) else none)) else (bif Nat.blt pc 149 then (bif Nat.beq pc 148 then some (.iaload, 0, 0) else none) else (bif Nat.beq pc 149 then some (.aload_n 0, 0, 0) else none)))) else (bif Nat.blt pc 157 then (bif Nat.blt pc 155 then (bif Nat.blt pc 153 then (bif Nat.beq pc 150 then some (.getfield 7, 0, 0) else none) else (bif Nat.beq pc 153 then some (.bipush 8, 0, 8) else none)) else (bif Nat.blt pc 156 then (bif Nat.beq pc 155 then some (.iload_n 3, 0, 0) else none) else (bif Nat.beq pc 156 then some (.iadd, 0, 0) else none))) else (bif Nat.blt pc 159 then (bif Nat.blt pc 158 then (bif Nat.beq pc 157 then some (.iaload, 0, 0) else none) else (bif Nat.beq pc 158 then some (.aload_n 0, 0, 0) else none)) else (bif Nat.blt pc 162 then (bif Nat.beq pc 159 then some (.getfield 22, 0, 0) else none) else (bif Nat.beq pc 162 then some (.iload_n 3, 0, 0) else none))))) else (bif Nat.blt pc 171 then (bif Nat.blt pc 167 then (bif Nat.blt pc 164 then (bif Nat.beq pc 163 then some (.iaload, 0, 0) else none) else (bif Nat.blt pc 165 then (bif Nat.beq pc 164 then some (.imul, 0, 0) else none) else (bif Nat.beq pc 165 then some (.bipush 10, 0, 10) else none))) else (bif Nat.blt pc 169 then (bif Nat.blt pc 168 then (bif Nat.beq pc 167 then some (.idiv, 0, 0) else none) else (bif Nat.beq pc 168 then some (.iadd, 0, 0) else none)) else (bif Nat.blt pc 170 then (bif Nat.beq pc 169 then some (.iastore, 0, 0) else none) else (bif Nat.beq pc 170 then some (.aload_n 0, 0, 0) else none)))) else (bif Nat.blt pc 178 then (bif Nat.blt pc 176 then (bif Nat.blt pc 174 then (bif Nat.beq pc 171 then some (.getfield 7, 0, 0) else none) else (bif Nat.beq pc 174 then some (.bipush 28, 0, 28) else none)) else (bif Nat.blt pc 177 then (bif Nat.beq pc 176 then some (.iload_n 3, 0, 0) else none) else (bif Nat.beq pc 177 then some (.iadd, 0, 0) else none))) else (bif Nat.blt pc 180 then (bif Nat.blt pc 179 then (bif Nat.beq pc 178 then some (.dup2, 0, 0) else none) else (bif Nat.beq pc 179 then some (.iaload, 0, 0) else none)) else (bif Nat.blt pc 181 then (bif Nat.beq pc 180 then some (.iload_n 2, 0, 0) else none) else (bif Nat.beq pc 181 then some (.iload_n 3, 0, 0) else none)))))))) else (bif Nat.blt pc 277 then (bif Nat.blt pc 230 then (bif Nat.blt pc 211 then (bif Nat.blt pc 195 then (bif Nat.blt pc 189 then (bif Nat.blt pc 185 then (bif Nat.beq pc 182 then some (.invokestatic 36, 0, 0) else none) else (bif Nat.blt pc 188 then (bif Nat.beq pc 185 then some (.ifCond .eq 7, 192, 0) else none) else (bif Nat.beq pc 188 then some (.iconst 1, 0, 1) else none))) else (bif Nat.blt pc 193 then (bif Nat.blt pc 192 then (bif Nat.beq pc 189 then some (.goto 4, 193, 0) else none) else (bif Nat.beq pc 192 then some (.iconst 0, 0, 0) else none)) else (bif Nat.blt pc 194 then (bif Nat.beq pc 193 then some (.iadd, 0, 0) else none) else (bif Nat.beq pc 194 then some (.iastore, 0, 0) else none)))) else (bif Nat.blt pc 203 then (bif Nat.blt pc 198 then (bif Nat.beq pc 195 then some (.iinc 3 1, 0, 1) else none) else (bif Nat.blt pc 201 then (bif Nat.beq pc 198 then some (.goto (-64), 134, 0) else none) else (bif Nat.beq pc 201 then some (.bipush 88, 0, 88) else none))) else (bif Nat.blt pc 206 then (bif Nat.blt pc 205 then (bif Nat.beq pc 203 then some (.bipush 6, 0, 6) else none) else (bif Nat.beq pc 205 then some (.aload_n 0, 0, 0) else none)) else (bif Nat.blt pc 209 then (bif Nat.beq pc 206 then some (.getfield 7, 0, 0) else none) else (bif Nat.beq pc 209 then some (.bipush 34, 0, 34) else none))))) else (bif Nat.blt pc 220 then (bif Nat.blt pc 214 then (bif Nat.blt pc 212 then (bif Nat.beq pc 211 then some (.iaload, 0, 0) else none) else (bif Nat.blt pc 213 then (bif Nat.beq pc 212 then some (.imul, 0, 0) else none) else (bif Nat.beq pc 213 then some (.iadd, 0, 0) else none))) else (bif Nat.blt pc 216 then (bif Nat.blt pc 215 then (bif Nat.beq pc 214 then some (.istore_n 3, 0, 0) else none) else (bif Nat.beq pc 215 then some (.aload_n 0, 0, 0) else none)) else (bif Nat.blt pc 219 then (bif Nat.beq pc 216 then some (.getfield 7, 0, 0) else none) else (bif Nat.beq pc 219 then some (.iload_n 3, 0, 0) else none)))) else (bif Nat.blt pc 226 then (bif Nat.blt pc 222 then (bif Nat.blt pc 221 then (bif Nat.beq pc 220 then some (.iload_n 1, 0, 0) else none) else (bif Nat.beq pc 221 then some (.iastore, 0, 0) else none)) else (bif Nat.blt pc 223 then (bif Nat.beq pc 222 then some (.aload_n 0, 0, 0) else none) else (bif Nat.beq pc 223 then some (.getfield 7, 0, 0) else none))) else (bif Nat.blt pc 228 then (bif Nat.blt pc 227 then (bif Nat.beq pc 226 then some (.iload_n 3, 0, 0) else none) else (bif Nat.beq pc 227 then some (.iconst 1, 0, 1) else none)) else (bif Nat.blt pc 229 then (bif Nat.beq pc 228 then some (.iadd, 0, 0) else none) else (bif Nat.beq pc 229 then some (.aload_n 0, 0, 0) else none)))))) else (bif Nat.blt pc 252 then (bif Nat.blt pc 241 then (bif Nat.blt pc 235 then (bif Nat.blt pc 233 then (bif Nat.beq pc 230 then some (.getfield 47, 0, 0) else none) else (bif Nat.blt pc 234 then (bif Nat.beq pc 233 then some (.iastore, 0, 0) else none) else (bif Nat.beq pc 234 then some (.aload_n 0, 0, 0) else none))) else (bif Nat.blt pc 239 then (bif Nat.blt pc 238 then (bif Nat.beq pc 235 then some (.getfield 7, 0, 0) else none) else (bif Nat.beq pc 238 then some (.iload_n 3, 0, 0) else none)) else (bif Nat.blt pc 240 then (bif Nat.beq pc 239 then some (.iconst 2, 0, 2) else none) else (bif Nat.beq pc 240 then some (.iadd, 0, 0) else none)))) else (bif Nat.blt pc 246 then (bif Nat.blt pc 242 then (bif Nat.beq pc 241 then some (.aload_n 0, 0, 0) else none) else (bif Nat.blt pc 245 then (bif Nat.beq pc 242 then some (.getfield 40, 0, 0) else none) else (bif Nat.beq pc 245 then some (.iastore, 0, 0) else none))) else (bif Nat.blt pc 250 then (bif Nat.blt pc 247 then (bif Nat.beq pc 246 then some (.aload_n 0, 0, 0) else none) else (bif Nat.beq pc 247 then some (.getfield 7, 0, 0) else none)) else (bif Nat.blt pc 251 then (bif Nat.beq pc 250 then some (.iload_n 3, 0, 0) else none) else (bif Nat.beq pc 251 then some (.iconst 3, 0, 3) else none))))) else (bif Nat.blt pc 263 then (bif Nat.blt pc 257 then (bif Nat.blt pc 253 then (bif Nat.beq pc 252 then some (.iadd, 0, 0) else none) else (bif Nat.blt pc 254 then (bif Nat.beq pc 253 then some (.aload_n 0, 0, 0) else none) else (bif Nat.beq pc 254 then some (.getfield 50, 0, 0) else none))) else (bif Nat.blt pc 259 then (bif Nat.blt pc 258 then (bif Nat.beq pc 257 then some (.iastore, 0, 0) else none) else (bif Nat.beq pc 258 then some (.aload_n 0, 0, 0) else none)) else (bif Nat.blt pc 262 then (bif Nat.beq pc 259 then some (.getfield 7, 0, 0) else none) else (bif Nat.beq pc 262 then some (.iload_n 3, 0, 0) else none)))) else (bif Nat.blt pc 269 then (bif Nat.blt pc 265 then (bif Nat.blt pc 264 then (bif Nat.beq pc 263 then some (.iconst 4, 0, 4) else none) else (bif Nat.beq pc 264 then some (.iadd, 0, 0) else none)) else (bif Nat.blt pc 266 then (bif Nat.beq pc 265 then some (.aload_n 0, 0, 0) else none) else (bif Nat.beq pc 266 then some (.getfield 53, 0, 0) else none))) else (bif Nat.blt pc 273 then (bif Nat.blt pc 272 then (bif Nat.beq pc 269 then some (.ifCond .eq 7, 276, 0) else none) else (bif Nat.beq pc 272 then some (.iconst 1, 0, 1) else none)) else (bif Nat.blt pc 276 then (bif Nat.beq pc 273 then some (.goto 4, 277, 0) else none) else (bif Nat.beq pc 276 then some (.iconst 0, 0, 0) else none))))))) else (bif Nat.blt pc 325 then (bif Nat.blt pc 296 then (bif Nat.blt pc 286 then (bif Nat.blt pc 282 then (bif Nat.blt pc 278 then (bif Nat.beq pc 277 then some (.iastore, 0, 0) else none) else (bif Nat.blt pc 279 then (bif Nat.beq pc 278 then some (.aload_n 0, 0, 0) else none) else (bif Nat.beq pc 279 then some (.getfield 7, 0, 0) else none))) else (bif Nat.blt pc 284 then (bif Nat.blt pc 283 then (bif Nat.beq pc 282 then some (.iload_n 3, 0, 0) else none) else (bif Nat.beq pc 283 then some (.iconst 5, 0, 5) else none)) else (bif Nat.blt pc 285 then (bif Nat.beq pc 284 then some (.iadd, 0, 0) else none) else (bif Nat.beq pc 285 then some (.iload_n 2, 0, 0) else none)))) else (bif Nat.blt pc 291 then (bif Nat.blt pc 287 then (bif Nat.beq pc 286 then some (.iastore, 0, 0) else none) else (bif Nat.blt pc 288 then (bif Nat.beq pc 287 then some (.aload_n 0, 0, 0) else none) else (bif Nat.beq pc 288 then some (.getfield 7, 0, 0) else none))) else (bif Nat.blt pc 294 then (bif Nat.blt pc 293 then (bif Nat.beq pc 291 then some (.bipush 35, 0, 35) else none) else (bif Nat.beq pc 293 then some (.dup2, 0, 0) else none)) else (bif Nat.blt pc 295 then (bif Nat.beq pc 294 then some (.iaload, 0, 0) else none) else (bif Nat.beq pc 295 then some (.aload_n 0, 0, 0) else none))))) else (bif Nat.blt pc 310 then (bif Nat.blt pc 302 then (bif Nat.blt pc 299 then (bif Nat.beq pc 296 then some (.getfield 7, 0, 0) else none) else (bif Nat.blt pc 301 then (bif Nat.beq pc 299 then some (.bipush 37, 0, 37) else none) else (bif Nat.beq pc 301 then some (.iaload, 0, 0) else none))) else (bif Nat.blt pc 306 then (bif Nat.blt pc 303 then (bif Nat.beq pc 302 then some (.iconst 1, 0, 1) else none) else (bif Nat.beq pc 303 then some (.if_icmp .ne 7, 310, 0) else none)) else (bif Nat.blt pc 307 then (bif Nat.beq pc 306 then some (.iconst 1, 0, 1) else none) else (bif Nat.beq pc 307 then some (.goto 18, 325, 0) else none)))) else (bif Nat.blt pc 317 then (bif Nat.blt pc 314 then (bif Nat.blt pc 311 then (bif Nat.beq pc 310 then some (.aload_n 0, 0, 0) else none) else (bif Nat.beq pc 311 then some (.getfield 7, 0, 0) else none)) else (bif Nat.blt pc 316 then (bif Nat.beq pc 314 then some (.bipush 35, 0, 35) else none) else (bif Nat.beq pc 316 then some (.iaload, 0, 0) else none))) else (bif Nat.blt pc 321 then (bif Nat.blt pc 320 then (bif Nat.beq pc 317 then some (.ifCond .le 7, 324, 0) else none) else (bif Nat.beq pc 320 then some (.iconst (-1), 0, (-1)) else none)) else (bif Nat.blt pc 324 then (bif Nat.beq pc 321 then some (.goto 4, 325, 0) else none) else (bif Nat.beq pc 324 then some (.iconst 0, 0, 0) else none)))))) else (bif Nat.blt pc 351 then (bif Nat.blt pc 337 then (bif Nat.blt pc 328 then (bif Nat.blt pc 326 then (bif Nat.beq pc 325 then some (.iadd, 0, 0) else none) else (bif Nat.blt pc 327 then (bif Nat.beq pc 326 then some (.iastore, 0, 0) else none) else (bif Nat.beq pc 327 then some (.aload_n 0, 0, 0) else none))) else (bif Nat.blt pc 333 then (bif Nat.blt pc 331 then (bif Nat.beq pc 328 then some (.getfield 7, 0, 0) else none) else (bif Nat.beq pc 331 then some (.bipush 36, 0, 36) else none)) else (bif Nat.blt pc 334 then (bif Nat.beq pc 333 then some (.aload_n 0, 0, 0) else none) else (bif Nat.beq pc 334 then some (.getfield 7, 0, 0) else none)))) else (bif Nat.blt pc 344 then (bif Nat.blt pc 340 then (bif Nat.blt pc 339 then (bif Nat.beq pc 337 then some (.bipush 35, 0, 35) else none) else (bif Nat.beq pc 339 then some (.iaload, 0, 0) else none)) else (bif Nat.blt pc 341 then (bif Nat.beq pc 340 then some (.aload_n 0, 0, 0) else none) else (bif Nat.beq pc 341 then some (.getfield 7, 0, 0) else none))) else (bif Nat.blt pc 347 then (bif Nat.blt pc 346 then (bif Nat.beq pc 344 then some (.bipush 33, 0, 33) else none) else (bif Nat.beq pc 346 then some (.iaload, 0, 0) else none)) else (bif Nat.blt pc 350 then (bif Nat.beq pc 347 then some (.if_icmp .le 7, 354, 0) else none) else (bif Nat.beq pc 350 then some (.iconst 1, 0, 1) else none))))) else (bif Nat.blt pc 363 then (bif Nat.blt pc 358 then (bif Nat.blt pc 354 then (bif Nat.beq pc 351 then some (.goto 10, 361, 0) else none) else (bif Nat.blt pc 355 then (bif Nat.beq pc 354 then some (.aload_n 0, 0, 0) else none) else (bif Nat.beq pc 355 then some (.getfield 7, 0, 0) else none))) else (bif Nat.blt pc 361 then (bif Nat.blt pc 360 then (bif Nat.beq pc 358 then some (.bipush 36, 0, 36) else none) else (bif Nat.beq pc 360 then some (.iaload, 0, 0) else none)) else (bif Nat.blt pc 362 then (bif Nat.beq pc 361 then some (.iastore, 0, 0) else none) else (bif Nat.beq pc 362 then some (.aload_n 0, 0, 0) else none)))) else (bif Nat.blt pc 370 then (bif Nat.blt pc 368 then (bif Nat.blt pc 366 then (bif Nat.beq pc 363 then some (.getfield 7, 0, 0) else none) else (bif Nat.beq pc 366 then some (.bipush 34, 0, 34) else none)) else (bif Nat.blt pc 369 then (bif Nat.beq pc 368 then some (.dup2, 0, 0) else none) else (bif Nat.beq pc 369 then some (.iaload, 0, 0) else none))) else (bif Nat.blt pc 372 then (bif Nat.blt pc 371 then (bif Nat.beq pc 370 then some (.iconst 1, 0, 1) else none) else (bif Nat.beq pc 371 then some (.iadd, 0, 0) else none)) else (bif Nat.blt pc 373 then (bif Nat.beq pc 372 then some (.iastore, 0, 0) else none) else (bif Nat.beq pc 373 then some (.return_, 0, 0) else none))))))))
def z_c82 (pc : Nat) : Option (Instr × Nat × Int32) := bif Nat.blt pc 17 then (bif Nat.blt pc 8 then (bif Nat.blt pc 4 then (bif Nat.blt pc 1 then (bif Nat.beq pc 0 then some (.iload_n 1, 0, 0) else none) else (bif Nat.beq pc 1 then some (.invokestatic 74, 0, 0) else none)) else (bif Nat.blt pc 7 then (bif Nat.beq pc 4 then some (.ifCond .ne 7, 11, 0) else none) else (bif Nat.beq pc 7 then some (.iconst 1, 0, 1) else none))) else (bif Nat.blt pc 12 then (bif Nat.blt pc 11 then (bif Nat.beq pc 8 then some (.goto 20, 28, 0) else none) else (bif Nat.beq pc 11 then some (.aload_n 0, 0, 0) else none)) else (bif Nat.blt pc 15 then (bif Nat.beq pc 12 then some (.getfield 7, 0, 0) else none) else (bif Nat.beq pc 15 then some (.bipush 16, 0, 16) else none)))) else (bif Nat.blt pc 23 then (bif Nat.blt pc 19 then (bif Nat.blt pc 18 then (bif Nat.beq pc 17 then some (.iload_n 1, 0, 0) else none) else (bif Nat.beq pc 18 then some (.iadd, 0, 0) else none)) else (bif Nat.blt pc 20 then (bif Nat.beq pc 19 then some (.iaload, 0, 0) else none) else (bif Nat.beq pc 20 then some (.ifCond .eq 7, 27, 0) else none))) else (bif Nat.blt pc 27 then (bif Nat.blt pc 24 then (bif Nat.beq pc 23 then some (.iconst 2, 0, 2) else none) else (bif Nat.beq pc 24 then some (.goto 4, 28, 0) else none)) else (bif Nat.blt pc 28 then (bif Nat.beq pc 27 then some (.iconst 0, 0, 0) else none) else (bif Nat.beq pc 28 then some (.ireturn, 0, 0) else none))))
def z_c83 (pc : Nat) : Option (Instr × Nat × Int32) := bif Nat.blt pc 26 then (bif Nat.blt pc 14 then (bif Nat.blt pc 7 then (bif Nat.blt pc 4 then (bif Nat.blt pc 1 then (bif Nat.beq pc 0 then some (.aload_n 0, 0, 0) else none) else (bif Nat.beq pc 1 then some (.getfield 7, 0, 0) else none)) else (bif Nat.blt pc 6 then (bif Nat.beq pc 4 then some (.bipush 20, 0, 20) else none) else (bif Nat.beq pc 6 then some (.iload_n 1, 0, 0) else none))) else (bif Nat.blt pc 9 then (bif Nat.blt pc 8 then (bif Nat.beq pc 7 then some (.iadd, 0, 0) else none) else (bif Nat.beq pc 8 then some (.aload_n 0, 0, 0) else none)) else (bif Nat.blt pc 12 then (bif Nat.beq pc 9 then some (.getfield 7, 0, 0) else none) else (bif Nat.beq pc 12 then some (.bipush 12, 0, 12) else none)))) else (bif Nat.blt pc 18 then (bif Nat.blt pc 16 then (bif Nat.blt pc 15 then (bif Nat.beq pc 14 then some (.iload_n 1, 0, 0) else none) else (bif Nat.beq pc 15 then some (.iadd, 0, 0) else none)) else (bif Nat.blt pc 17 then (bif Nat.beq pc 16 then some (.iaload, 0, 0) else none) else (bif Nat.beq pc 17 then some (.iastore, 0, 0) else none))) else (bif Nat.blt pc 22 then (bif Nat.blt pc 19 then (bif Nat.beq pc 18 then some (.aload_n 0, 0, 0) else none) else (bif Nat.beq pc 19 then some (.getfield 7, 0, 0) else none)) else (bif Nat.blt pc 24 then (bif Nat.beq pc 22 then some (.bipush 16, 0, 16) else none) else (bif Nat.blt pc 25 then (bif Nat.beq pc 24 then some (.iload_n 1, 0, 0) else none) else (bif Nat.beq pc 25 then some (.iadd, 0, 0) else none)))))) else (bif Nat.blt pc 42 then (bif Nat.blt pc 33 then (bif Nat.blt pc 30 then (bif Nat.blt pc 27 then (bif Nat.beq pc 26 then some (.aload_n 0, 0, 0) else none) else (bif Nat.beq pc 27 then some (.getfield 7, 0, 0) else none)) else (bif Nat.blt pc 32 then (bif Nat.beq pc 30 then some (.bipush 12, 0, 12) else none) else (bif Nat.beq pc 32 then some (.iload_n 1, 0, 0) else none))) else (bif Nat.blt pc 35 then (bif Nat.blt pc 34 then (bif Nat.beq pc 33 then some (.iadd, 0, 0) else none) else (bif Nat.beq pc 34 then some (.iaload, 0, 0) else none)) else (bif Nat.blt pc 38 then (bif Nat.beq pc 35 then some (.ifCond .ne 7, 42, 0) else none) else (bif Nat.blt pc 39 then (bif Nat.beq pc 38 then some (.iconst 2, 0, 2) else none) else (bif Nat.beq pc 39 then some (.goto 4, 43, 0) else none))))) else (bif Nat.blt pc 48 then (bif Nat.blt pc 44 then (bif Nat.blt pc 43 then (bif Nat.beq pc 42 then some (.iconst 1, 0, 1) else none) else (bif Nat.beq pc 43 then some (.iastore, 0, 0) else none)) else (bif Nat.blt pc 45 then (bif Nat.beq pc 44 then some (.aload_n 0, 0, 0) else none) else (bif Nat.beq pc 45 then some (.getfield 7, 0, 0) else none))) else (bif Nat.blt pc 51 then (bif Nat.blt pc 50 then (bif Nat.beq pc 48 then some (.bipush 12, 0, 12) else none) else (bif Nat.beq pc 50 then some (.iload_n 1, 0, 0) else none)) else (bif Nat.blt pc 52 then (bif Nat.beq pc 51 then some (.iadd, 0, 0) else none) else (bif Nat.blt pc 53 then (bif Nat.beq pc 52 then some (.iaload, 0, 0) else none) else (bif Nat.beq pc 53 then some (.ireturn, 0, 0) else none))))))
def z_c84 (pc : Nat) : Option (Instr × Nat × Int32) := bif Nat.blt pc 18 then (bif Nat.blt pc 8 then (bif Nat.blt pc 4 then (bif Nat.blt pc 1 then (bif Nat.beq pc 0 then some (.iload_n 1, 0, 0) else none) else (bif Nat.beq pc 1 then some (.invokestatic 74, 0, 0) else none)) else (bif Nat.blt pc 7 then (bif Nat.beq pc 4 then some (.ifCond .ne 7, 11, 0) else none) else (bif Nat.beq pc 7 then some (.iconst 1, 0, 1) else none))) else (bif Nat.blt pc 12 then (bif Nat.blt pc 11 then (bif Nat.beq pc 8 then some (.goto 25, 33, 0) else none) else (bif Nat.beq pc 11 then some (.aload_n 0, 0, 0) else none)) else (bif Nat.blt pc 15 then (bif Nat.beq pc 12 then some (.getfield 7, 0, 0) else none) else (bif Nat.blt pc 17 then (bif Nat.beq pc 15 then some (.bipush 16, 0, 16) else none) else (bif Nat.beq pc 17 then some (.iload_n 1, 0, 0) else none))))) else (bif Nat.blt pc 25 then (bif Nat.blt pc 20 then (bif Nat.blt pc 19 then (bif Nat.beq pc 18 then some (.iadd, 0, 0) else none) else (bif Nat.beq pc 19 then some (.iaload, 0, 0) else none)) else (bif Nat.blt pc 21 then (bif Nat.beq pc 20 then some (.iconst 1, 0, 1) else none) else (bif Nat.blt pc 22 then (bif Nat.beq pc 21 then some (.iconst 2, 0, 2) else none) else (bif Nat.beq pc 22 then some (.invokestatic 29, 0, 0) else none)))) else (bif Nat.blt pc 29 then (bif Nat.blt pc 28 then (bif Nat.beq pc 25 then some (.ifCond .ne 7, 32, 0) else none) else (bif Nat.beq pc 28 then some (.iconst 2, 0, 2) else none)) else (bif Nat.blt pc 32 then (bif Nat.beq pc 29 then some (.goto 4, 33, 0) else none) else (bif Nat.blt pc 33 then (bif Nat.beq pc 32 then some (.iconst 0, 0, 0) else none) else (bif Nat.beq pc 33 then some (.ireturn, 0, 0) else none)))))
def z_c85 (pc : Nat) : Option (Instr × Nat × Int32) := bif Nat.blt pc 14 then (bif Nat.blt pc 7 then (bif Nat.blt pc 4 then (bif Nat.blt pc 1 then (bif Nat.beq pc 0 then some (.aload_n 0, 0, 0) else none) else (bif Nat.beq pc 1 then some (.getfield 7, 0, 0) else none)) else (bif Nat.blt pc 6 then (bif Nat.beq pc 4 then some (.bipush 16, 0, 16) else none) else (bif Nat.beq pc 6 then some (.iload_n 1, 0, 0) else none))) else (bif Nat.blt pc 9 then (bif Nat.blt pc 8 then (bif Nat.beq pc 7 then some (.iadd, 0, 0) else none) else (bif Nat.beq pc 8 then some (.iconst 0, 0, 0) else none)) else (bif Nat.blt pc 10 then (bif Nat.beq pc 9 then some (.iastore, 0, 0) else none) else (bif Nat.blt pc 11 then (bif Nat.beq pc 10 then some (.aload_n 0, 0, 0) else none) else (bif Nat.beq pc 11 then some (.getfield 7, 0, 0) else none))))) else (bif Nat.blt pc 19 then (bif Nat.blt pc 17 then (bif Nat.blt pc 16 then (bif Nat.beq pc 14 then some (.bipush 20, 0, 20) else none) else (bif Nat.beq pc 16 then some (.iload_n 1, 0, 0) else none)) else (bif Nat.blt pc 18 then (bif Nat.beq pc 17 then some (.iadd, 0, 0) else none) else (bif Nat.beq pc 18 then some (.iconst 0, 0, 0) else none))) else (bif Nat.blt pc 21 then (bif Nat.blt pc 20 then (bif Nat.beq pc 19 then some (.iastore, 0, 0) else none) else (bif Nat.beq pc 20 then some (.aload_n 0, 0, 0) else none)) else (bif Nat.blt pc 24 then (bif Nat.beq pc 21 then some (.invokevirtual 67, 0, 0) else none) else (bif Nat.blt pc 27 then (bif Nat.beq pc 24 then some (.invokestatic 78, 0, 0) else none) else (bif Nat.beq pc 27 then some (.ireturn, 0, 0) else none)))))
def z_c86 (pc : Nat) : Option (Instr × Nat × Int32) := bif Nat.blt pc 13 then (bif Nat.blt pc 6 then (bif Nat.blt pc 1 then (bif Nat.beq pc 0 then some (.aload_n 0, 0, 0) else none) else (bif Nat.blt pc 4 then (bif Nat.beq pc 1 then some (.getfield 7, 0, 0) else none) else (bif Nat.beq pc 4 then some (.bipush 37, 0, 37) else none))) else (bif Nat.blt pc 8 then (bif Nat.blt pc 7 then (bif Nat.beq pc 6 then some (.iconst 1, 0, 1) else none) else (bif Nat.beq pc 7 then some (.aload_n 0, 0, 0) else none)) else (bif Nat.blt pc 11 then (bif Nat.beq pc 8 then some (.getfield 7, 0, 0) else none) else (bif Nat.beq pc 11 then some (.bipush 37, 0, 37) else none)))) else (bif Nat.blt pc 17 then (bif Nat.blt pc 15 then (bif Nat.blt pc 14 then (bif Nat.beq pc 13 then some (.iaload, 0, 0) else none) else (bif Nat.beq pc 14 then some (.isub, 0, 0) else none)) else (bif Nat.blt pc 16 then (bif Nat.beq pc 15 then some (.iastore, 0, 0) else none) else (bif Nat.beq pc 16 then some (.aload_n 0, 0, 0) else none))) else (bif Nat.blt pc 22 then (bif Nat.blt pc 20 then (bif Nat.beq pc 17 then some (.getfield 7, 0, 0) else none) else (bif Nat.beq pc 20 then some (.bipush 37, 0, 37) else none)) else (bif Nat.blt pc 23 then (bif Nat.beq pc 22 then some (.iaload, 0, 0) else none) else (bif Nat.beq pc 23 then some (.ireturn, 0, 0) else none))))
def z_c87 (pc : Nat) : Option (Instr × Nat × Int32) := bif Nat.blt pc 18 then (bif Nat.blt pc 7 then (bif Nat.blt pc 2 then (bif Nat.blt pc 1 then (bif Nat.beq pc 0 then some (.iload_n 1, 0, 0) else none) else (bif Nat.beq pc 1 then some (.iconst 1, 0, 1) else none)) else (bif Nat.blt pc 4 then (bif Nat.beq pc 2 then some (.bipush 48, 0, 48) else none) else (bif Nat.beq pc 4 then some (.invokestatic 29, 0, 0) else none))) else (bif Nat.blt pc 11 then (bif Nat.blt pc 10 then (bif Nat.beq pc 7 then some (.ifCond .ne 7, 14, 0) else none) else (bif Nat.beq pc 10 then some (.iconst 1, 0, 1) else none)) else (bif Nat.blt pc 14 then (bif Nat.beq pc 11 then some (.goto 22, 33, 0) else none) else (bif Nat.blt pc 15 then (bif Nat.beq pc 14 then some (.aload_n 0, 0, 0) else none) else (bif Nat.beq pc 15 then some (.getfield 7, 0, 0) else none))))) else (bif Nat.blt pc 25 then (bif Nat.blt pc 21 then (bif Nat.blt pc 20 then (bif Nat.beq pc 18 then some (.bipush 34, 0, 34) else none) else (bif Nat.beq pc 20 then some (.iaload, 0, 0) else none)) else (bif Nat.blt pc 22 then (bif Nat.beq pc 21 then some (.iload_n 1, 0, 0) else none) else (bif Nat.blt pc 23 then (bif Nat.beq pc 22 then some (.iadd, 0, 0) else none) else (bif Nat.beq pc 23 then some (.bipush 48, 0, 48) else none)))) else (bif Nat.blt pc 29 then (bif Nat.blt pc 28 then (bif Nat.beq pc 25 then some (.if_icmp .le 7, 32, 0) else none) else (bif Nat.beq pc 28 then some (.iconst 2, 0, 2) else none)) else (bif Nat.blt pc 32 then (bif Nat.beq pc 29 then some (.goto 4, 33, 0) else none) else (bif Nat.blt pc 33 then (bif Nat.beq pc 32 then some (.iconst 0, 0, 0) else none) else (bif Nat.beq pc 33 then some (.ireturn, 0, 0) else none)))))
def z_c88 (pc : Nat) : Option (Instr × Nat × Int32) := bif Nat.blt pc 15 then (bif Nat.blt pc 8 then (bif Nat.blt pc 4 then (bif Nat.blt pc 1 then (bif Nat.beq pc 0 then some (.aload_n 0, 0, 0) else none) else (bif Nat.beq pc 1 then some (.getfield 7, 0, 0) else none)) else (bif Nat.blt pc 6 then (bif Nat.beq pc 4 then some (.bipush 38, 0, 38) else none) else (bif Nat.blt pc 7 then (bif Nat.beq pc 6 then some (.iaload, 0, 0) else none) else (bif Nat.beq pc 7 then some (.istore_n 2, 0, 0) else none)))) else (bif Nat.blt pc 10 then (bif Nat.blt pc 9 then (bif Nat.beq pc 8 then some (.iconst 0, 0, 0) else none) else (bif Nat.beq pc 9 then some (.istore_n 3, 0, 0) else none)) else (bif Nat.blt pc 11 then (bif Nat.beq pc 10 then some (.iload_n 3, 0, 0) else none) else (bif Nat.blt pc 12 then (bif Nat.beq pc 11 then some (.iload_n 1, 0, 0) else none) else (bif Nat.beq pc 12 then some (.if_icmp .ge 13, 25, 0) else none))))) else (bif Nat.blt pc 26 then (bif Nat.blt pc 19 then (bif Nat.blt pc 16 then (bif Nat.beq pc 15 then some (.aload_n 0, 0, 0) else none) else (bif Nat.beq pc 16 then some (.invokevirtual 81, 0, 0) else none)) else (bif Nat.blt pc 22 then (bif Nat.beq pc 19 then some (.iinc 3 1, 0, 1) else none) else (bif Nat.blt pc 25 then (bif Nat.beq pc 22 then some (.goto (-12), 10, 0) else none) else (bif Nat.beq pc 25 then some (.aload_n 0, 0, 0) else none)))) else (bif Nat.blt pc 32 then (bif Nat.blt pc 29 then (bif Nat.beq pc 26 then some (.getfield 7, 0, 0) else none) else (bif Nat.blt pc 31 then (bif Nat.beq pc 29 then some (.bipush 38, 0, 38) else none) else (bif Nat.beq pc 31 then some (.iaload, 0, 0) else none))) else (bif Nat.blt pc 33 then (bif Nat.beq pc 32 then some (.iload_n 2, 0, 0) else none) else (bif Nat.blt pc 34 then (bif Nat.beq pc 33 then some (.isub, 0, 0) else none) else (bif Nat.beq pc 34 then some (.ireturn, 0, 0) else none)))))
def z_c89 (pc : Nat) : Option (Instr × Nat × Int32) := bif Nat.blt pc 12 then (bif Nat.blt pc 4 then (bif Nat.blt pc 1 then (bif Nat.beq pc 0 then some (.iload_n 1, 0, 0) else none) else (bif Nat.blt pc 2 then (bif Nat.beq pc 1 then some (.iconst 0, 0, 0) else none) else (bif Nat.beq pc 2 then some (.bipush 47, 0, 47) else none))) else (bif Nat.blt pc 10 then (bif Nat.blt pc 7 then (bif Nat.beq pc 4 then some (.invokestatic 29, 0, 0) else none) else (bif Nat.beq pc 7 then some (.ifCond .eq 18, 25, 0) else none)) else (bif Nat.blt pc 11 then (bif Nat.beq pc 10 then some (.iload_n 2, 0, 0) else none) else (bif Nat.beq pc 11 then some (.iconst 0, 0, 0) else none)))) else (bif Nat.blt pc 21 then (bif Nat.blt pc 15 then (bif Nat.beq pc 12 then some (.sipush 1500, 0, 1500) else none) else (bif Nat.blt pc 18 then (bif Nat.beq pc 15 then some (.invokestatic 29, 0, 0) else none) else (bif Nat.beq pc 18 then some (.ifCond .eq 7, 25, 0) else none))) else (bif Nat.blt pc 25 then (bif Nat.blt pc 22 then (bif Nat.beq pc 21 then some (.iconst 0, 0, 0) else none) else (bif Nat.beq pc 22 then some (.goto 4, 26, 0) else none)) else (bif Nat.blt pc 26 then (bif Nat.beq pc 25 then some (.iconst 1, 0, 1) else none) else (bif Nat.beq pc 26 then some (.ireturn, 0, 0) else none))))
def z_c90 (pc : Nat) : Option (Instr × Nat × Int32) := bif Nat.blt pc 8 then (bif Nat.blt pc 5 then (bif Nat.blt pc 1 then (bif Nat.beq pc 0 then some (.aload_n 0, 0, 0) else none) else (bif Nat.blt pc 4 then (bif Nat.beq pc 1 then some (.getfield 7, 0, 0) else none) else (bif Nat.beq pc 4 then some (.iload_n 1, 0, 0) else none))) else (bif Nat.blt pc 6 then (bif Nat.beq pc 5 then some (.iaload, 0, 0) else none) else (bif Nat.blt pc 7 then (bif Nat.beq pc 6 then some (.istore_n 3, 0, 0) else none) else (bif Nat.beq pc 7 then some (.aload_n 0, 0, 0) else none)))) else (bif Nat.blt pc 13 then (bif Nat.blt pc 11 then (bif Nat.beq pc 8 then some (.getfield 7, 0, 0) else none) else (bif Nat.blt pc 12 then (bif Nat.beq pc 11 then some (.iload_n 1, 0, 0) else none) else (bif Nat.beq pc 12 then some (.iload_n 2, 0, 0) else none))) else (bif Nat.blt pc 14 then (bif Nat.beq pc 13 then some (.iastore, 0, 0) else none) else (bif Nat.blt pc 15 then (bif Nat.beq pc 14 then some (.iload_n 3, 0, 0) else none) else (bif Nat.beq pc 15 then some (.ireturn, 0, 0) else none))))
def z_c91 (pc : Nat) : Option (Instr × Nat × Int32) := bif Nat.blt pc 75 then (bif Nat.blt pc 41 then (bif Nat.blt pc 20 then (bif Nat.blt pc 8 then (bif Nat.blt pc 4 then (bif Nat.blt pc 1 then (bif Nat.beq pc 0 then some (.iload_n 1, 0, 0) else none) else (bif Nat.beq pc 1 then some (.invokestatic 74, 0, 0) else none)) else (bif Nat.blt pc 7 then (bif Nat.beq pc 4 then some (.ifCond .eq 49, 53, 0) else none) else (bif Nat.beq pc 7 then some (.iload_n 2, 0, 0) else none))) else (bif Nat.blt pc 13 then (bif Nat.blt pc 10 then (bif Nat.beq pc 8 then some (.bipush 50, 0, 50) else none) else (bif Nat.beq pc 10 then some (.sipush 500, 0, 500) else none)) else (bif Nat.blt pc 16 then (bif Nat.beq pc 13 then some (.invokestatic 29, 0, 0) else none) else (bif Nat.blt pc 19 then (bif Nat.beq pc 16 then some (.ifCond .eq 37, 53, 0) else none) else (bif Nat.beq pc 19 then some (.iload_n 3, 0, 0) else none))))) else (bif Nat.blt pc 30 then (bif Nat.blt pc 22 then (bif Nat.blt pc 21 then (bif Nat.beq pc 20 then some (.iconst 0, 0, 0) else none) else (bif Nat.beq pc 21 then some (.iload_n 2, 0, 0) else none)) else (bif Nat.blt pc 25 then (bif Nat.beq pc 22 then some (.invokestatic 29, 0, 0) else none) else (bif Nat.blt pc 28 then (bif Nat.beq pc 25 then some (.ifCond .eq 28, 53, 0) else none) else (bif Nat.beq pc 28 then some (.iload 4, 0, 0) else none)))) else (bif Nat.blt pc 33 then (bif Nat.blt pc 31 then (bif Nat.beq pc 30 then some (.iconst 1, 0, 1) else none) else (bif Nat.beq pc 31 then some (.bipush 99, 0, 99) else none)) else (bif Nat.blt pc 36 then (bif Nat.beq pc 33 then some (.invokestatic 29, 0, 0) else none) else (bif Nat.blt pc 39 then (bif Nat.beq pc 36 then some (.ifCond .eq 17, 53, 0) else none) else (bif Nat.beq pc 39 then some (.iload 5, 0, 0) else none)))))) else (bif Nat.blt pc 57 then (bif Nat.blt pc 49 then (bif Nat.blt pc 43 then (bif Nat.blt pc 42 then (bif Nat.beq pc 41 then some (.iconst 0, 0, 0) else none) else (bif Nat.beq pc 42 then some (.iconst 4, 0, 4) else none)) else (bif Nat.blt pc 46 then (bif Nat.beq pc 43 then some (.invokestatic 29, 0, 0) else none) else (bif Nat.beq pc 46 then some (.ifCond .eq 7, 53, 0) else none))) else (bif Nat.blt pc 53 then (bif Nat.blt pc 50 then (bif Nat.beq pc 49 then some (.iconst 1, 0, 1) else none) else (bif Nat.beq pc 50 then some (.goto 4, 54, 0) else none)) else (bif Nat.blt pc 54 then (bif Nat.beq pc 53 then some (.iconst 0, 0, 0) else none) else (bif Nat.blt pc 56 then (bif Nat.beq pc 54 then some (.istore 6, 0, 0) else none) else (bif Nat.beq pc 56 then some (.aload_n 0, 0, 0) else none))))) else (bif Nat.blt pc 67 then (bif Nat.blt pc 62 then (bif Nat.blt pc 59 then (bif Nat.beq pc 57 then some (.iload 6, 0, 0) else none) else (bif Nat.beq pc 59 then some (.ifCond .ne 7, 66, 0) else none)) else (bif Nat.blt pc 63 then (bif Nat.beq pc 62 then some (.iconst 1, 0, 1) else none) else (bif Nat.blt pc 66 then (bif Nat.beq pc 63 then some (.goto 20, 83, 0) else none) else (bif Nat.beq pc 66 then some (.aload_n 0, 0, 0) else none)))) else (bif Nat.blt pc 72 then (bif Nat.blt pc 70 then (bif Nat.beq pc 67 then some (.getfield 7, 0, 0) else none) else (bif Nat.beq pc 70 then some (.bipush 16, 0, 16) else none)) else (bif Nat.blt pc 73 then (bif Nat.beq pc 72 then some (.iload_n 1, 0, 0) else none) else (bif Nat.blt pc 74 then (bif Nat.beq pc 73 then some (.iadd, 0, 0) else none) else (bif Nat.beq pc 74 then some (.iaload, 0, 0) else none))))))) else (bif Nat.blt pc 108 then (bif Nat.blt pc 92 then (bif Nat.blt pc 83 then (bif Nat.blt pc 79 then (bif Nat.blt pc 78 then (bif Nat.beq pc 75 then some (.ifCond .eq 7, 82, 0) else none) else (bif Nat.beq pc 78 then some (.iconst 2, 0, 2) else none)) else (bif Nat.blt pc 82 then (bif Nat.beq pc 79 then some (.goto 4, 83, 0) else none) else (bif Nat.beq pc 82 then some (.iconst 0, 0, 0) else none))) else (bif Nat.blt pc 89 then (bif Nat.blt pc 86 then (bif Nat.beq pc 83 then some (.invokevirtual 84, 0, 0) else none) else (bif Nat.beq pc 86 then some (.ifCond .ne 5, 91, 0) else none)) else (bif Nat.blt pc 90 then (bif Nat.beq pc 89 then some (.iconst 0, 0, 0) else none) else (bif Nat.blt pc 91 then (bif Nat.beq pc 90 then some (.ireturn, 0, 0) else none) else (bif Nat.beq pc 91 then some (.aload_n 0, 0, 0) else none))))) else (bif Nat.blt pc 101 then (bif Nat.blt pc 96 then (bif Nat.blt pc 95 then (bif Nat.beq pc 92 then some (.invokevirtual 87, 0, 0) else none) else (bif Nat.beq pc 95 then some (.aload_n 0, 0, 0) else none)) else (bif Nat.blt pc 99 then (bif Nat.beq pc 96 then some (.getfield 7, 0, 0) else none) else (bif Nat.blt pc 100 then (bif Nat.beq pc 99 then some (.iconst 4, 0, 4) else none) else (bif Nat.beq pc 100 then some (.iload_n 1, 0, 0) else none)))) else (bif Nat.blt pc 103 then (bif Nat.blt pc 102 then (bif Nat.beq pc 101 then some (.iadd, 0, 0) else none) else (bif Nat.beq pc 102 then some (.iload_n 3, 0, 0) else none)) else (bif Nat.blt pc 104 then (bif Nat.beq pc 103 then some (.iastore, 0, 0) else none) else (bif Nat.blt pc 105 then (bif Nat.beq pc 104 then some (.aload_n 0, 0, 0) else none) else (bif Nat.beq pc 105 then some (.getfield 7, 0, 0) else none)))))) else (bif Nat.blt pc 122 then (bif Nat.blt pc 114 then (bif Nat.blt pc 111 then (bif Nat.blt pc 110 then (bif Nat.beq pc 108 then some (.bipush 8, 0, 8) else none) else (bif Nat.beq pc 110 then some (.iload_n 1, 0, 0) else none)) else (bif Nat.blt pc 112 then (bif Nat.beq pc 111 then some (.iadd, 0, 0) else none) else (bif Nat.beq pc 112 then some (.iload 4, 0, 0) else none))) else (bif Nat.blt pc 116 then (bif Nat.blt pc 115 then (bif Nat.beq pc 114 then some (.iastore, 0, 0) else none) else (bif Nat.beq pc 115 then some (.aload_n 0, 0, 0) else none)) else (bif Nat.blt pc 119 then (bif Nat.beq pc 116 then some (.getfield 7, 0, 0) else none) else (bif Nat.blt pc 121 then (bif Nat.beq pc 119 then some (.bipush 12, 0, 12) else none) else (bif Nat.beq pc 121 then some (.iload_n 1, 0, 0) else none))))) else (bif Nat.blt pc 128 then (bif Nat.blt pc 125 then (bif Nat.blt pc 123 then (bif Nat.beq pc 122 then some (.iadd, 0, 0) else none) else (bif Nat.beq pc 123 then some (.iload 5, 0, 0) else none)) else (bif Nat.blt pc 126 then (bif Nat.beq pc 125 then some (.iastore, 0, 0) else none) else (bif Nat.blt pc 127 then (bif Nat.beq pc 126 then some (.aload_n 0, 0, 0) else none) else (bif Nat.beq pc 127 then some (.iconst 0, 0, 0) else none)))) else (bif Nat.blt pc 130 then (bif Nat.blt pc 129 then (bif Nat.beq pc 128 then some (.iload_n 1, 0, 0) else none) else (bif Nat.beq pc 129 then some (.iadd, 0, 0) else none)) else (bif Nat.blt pc 131 then (bif Nat.beq pc 130 then some (.iload_n 2, 0, 0) else none) else (bif Nat.blt pc 134 then (bif Nat.beq pc 131 then some (.invokevirtual 90, 0, 0) else none) else (bif Nat.beq pc 134 then some (.ireturn, 0, 0) else none)))))))
def z_c92 (pc : Nat) : Option (Instr × Nat × Int32) := bif Nat.blt pc 13 then (bif Nat.blt pc 3 then (bif Nat.blt pc 1 then (bif Nat.beq pc 0 then some (.aload_n 0, 0, 0) else none) else (bif Nat.blt pc 2 then (bif Nat.beq pc 1 then some (.aload_n 0, 0, 0) else none) else (bif Nat.beq pc 2 then some (.iload_n 1, 0, 0) else none))) else (bif Nat.blt pc 9 then (bif Nat.blt pc 6 then (bif Nat.beq pc 3 then some (.invokevirtual 94, 0, 0) else none) else (bif Nat.beq pc 6 then some (.invokevirtual 84, 0, 0) else none)) else (bif Nat.blt pc 12 then (bif Nat.beq pc 9 then some (.ifCond .ne 5, 14, 0) else none) else (bif Nat.beq pc 12 then some (.iconst 0, 0, 0) else none)))) else (bif Nat.blt pc 18 then (bif Nat.blt pc 14 then (bif Nat.beq pc 13 then some (.ireturn, 0, 0) else none) else (bif Nat.blt pc 15 then (bif Nat.beq pc 14 then some (.aload_n 0, 0, 0) else none) else (bif Nat.beq pc 15 then some (.invokevirtual 87, 0, 0) else none))) else (bif Nat.blt pc 20 then (bif Nat.blt pc 19 then (bif Nat.beq pc 18 then some (.aload_n 0, 0, 0) else none) else (bif Nat.beq pc 19 then some (.iload_n 1, 0, 0) else none)) else (bif Nat.blt pc 23 then (bif Nat.beq pc 20 then some (.invokevirtual 97, 0, 0) else none) else (bif Nat.beq pc 23 then some (.ireturn, 0, 0) else none))))
def z_c93 (pc : Nat) : Option (Instr × Nat × Int32) := bif Nat.blt pc 13 then (bif Nat.blt pc 3 then (bif Nat.blt pc 1 then (bif Nat.beq pc 0 then some (.aload_n 0, 0, 0) else none) else (bif Nat.blt pc 2 then (bif Nat.beq pc 1 then some (.aload_n 0, 0, 0) else none) else (bif Nat.beq pc 2 then some (.iload_n 1, 0, 0) else none))) else (bif Nat.blt pc 9 then (bif Nat.blt pc 6 then (bif Nat.beq pc 3 then some (.invokevirtual 100, 0, 0) else none) else (bif Nat.beq pc 6 then some (.invokevirtual 84, 0, 0) else none)) else (bif Nat.blt pc 12 then (bif Nat.beq pc 9 then some (.ifCond .ne 5, 14, 0) else none) else (bif Nat.beq pc 12 then some (.iconst 0, 0, 0) else none)))) else (bif Nat.blt pc 18 then (bif Nat.blt pc 14 then (bif Nat.beq pc 13 then some (.ireturn, 0, 0) else none) else (bif Nat.blt pc 15 then (bif Nat.beq pc 14 then some (.aload_n 0, 0, 0) else none) else (bif Nat.beq pc 15 then some (.invokevirtual 87, 0, 0) else none))) else (bif Nat.blt pc 20 then (bif Nat.blt pc 19 then (bif Nat.beq pc 18 then some (.aload_n 0, 0, 0) else none) else (bif Nat.beq pc 19 then some (.iload_n 1, 0, 0) else none)) else (bif Nat.blt pc 23 then (bif Nat.beq pc 20 then some (.invokevirtual 103, 0, 0) else none) else (bif Nat.beq pc 23 then some (.ireturn, 0, 0) else none))))
def z_c94 (pc : Nat) : Option (Instr × Nat × Int32) := bif Nat.blt pc 42 then (bif Nat.blt pc 22 then (bif Nat.blt pc 12 then (bif Nat.blt pc 5 then (bif Nat.blt pc 1 then (bif Nat.beq pc 0 then some (.aload_n 0, 0, 0) else none) else (bif Nat.blt pc 2 then (bif Nat.beq pc 1 then some (.iload_n 1, 0, 0) else none) else (bif Nat.beq pc 2 then some (.invokestatic 74, 0, 0) else none))) else (bif Nat.blt pc 8 then (bif Nat.beq pc 5 then some (.ifCond .eq 7, 12, 0) else none) else (bif Nat.blt pc 9 then (bif Nat.beq pc 8 then some (.iconst 0, 0, 0) else none) else (bif Nat.beq pc 9 then some (.goto 4, 13, 0) else none)))) else (bif Nat.blt pc 19 then (bif Nat.blt pc 13 then (bif Nat.beq pc 12 then some (.iconst 1, 0, 1) else none) else (bif Nat.blt pc 16 then (bif Nat.beq pc 13 then some (.invokevirtual 84, 0, 0) else none) else (bif Nat.beq pc 16 then some (.ifCond .ne 5, 21, 0) else none))) else (bif Nat.blt pc 20 then (bif Nat.beq pc 19 then some (.iconst 0, 0, 0) else none) else (bif Nat.blt pc 21 then (bif Nat.beq pc 20 then some (.ireturn, 0, 0) else none) else (bif Nat.beq pc 21 then some (.aload_n 0, 0, 0) else none))))) else (bif Nat.blt pc 33 then (bif Nat.blt pc 29 then (bif Nat.blt pc 25 then (bif Nat.beq pc 22 then some (.invokevirtual 87, 0, 0) else none) else (bif Nat.blt pc 26 then (bif Nat.beq pc 25 then some (.aload_n 0, 0, 0) else none) else (bif Nat.beq pc 26 then some (.getfield 7, 0, 0) else none))) else (bif Nat.blt pc 31 then (bif Nat.beq pc 29 then some (.bipush 20, 0, 20) else none) else (bif Nat.blt pc 32 then (bif Nat.beq pc 31 then some (.iload_n 1, 0, 0) else none) else (bif Nat.beq pc 32 then some (.iadd, 0, 0) else none)))) else (bif Nat.blt pc 36 then (bif Nat.blt pc 34 then (bif Nat.beq pc 33 then some (.iconst 0, 0, 0) else none) else (bif Nat.blt pc 35 then (bif Nat.beq pc 34 then some (.iastore, 0, 0) else none) else (bif Nat.beq pc 35 then some (.aload_n 0, 0, 0) else none))) else (bif Nat.blt pc 39 then (bif Nat.beq pc 36 then some (.getfield 7, 0, 0) else none) else (bif Nat.blt pc 41 then (bif Nat.beq pc 39 then some (.bipush 16, 0, 16) else none) else (bif Nat.beq pc 41 then some (.iload_n 1, 0, 0) else none)))))) else (bif Nat.blt pc 61 then (bif Nat.blt pc 51 then (bif Nat.blt pc 47 then (bif Nat.blt pc 43 then (bif Nat.beq pc 42 then some (.iadd, 0, 0) else none) else (bif Nat.blt pc 44 then (bif Nat.beq pc 43 then some (.aload_n 0, 0, 0) else none) else (bif Nat.beq pc 44 then some (.getfield 7, 0, 0) else none))) else (bif Nat.blt pc 49 then (bif Nat.beq pc 47 then some (.bipush 16, 0, 16) else none) else (bif Nat.blt pc 50 then (bif Nat.beq pc 49 then some (.iload_n 1, 0, 0) else none) else (bif Nat.beq pc 50 then some (.iadd, 0, 0) else none)))) else (bif Nat.blt pc 56 then (bif Nat.blt pc 52 then (bif Nat.beq pc 51 then some (.iaload, 0, 0) else none) else (bif Nat.blt pc 53 then (bif Nat.beq pc 52 then some (.iconst 3, 0, 3) else none) else (bif Nat.beq pc 53 then some (.if_icmp .ne 7, 60, 0) else none))) else (bif Nat.blt pc 57 then (bif Nat.beq pc 56 then some (.iconst 0, 0, 0) else none) else (bif Nat.blt pc 60 then (bif Nat.beq pc 57 then some (.goto 4, 61, 0) else none) else (bif Nat.beq pc 60 then some (.iconst 3, 0, 3) else none))))) else (bif Nat.blt pc 70 then (bif Nat.blt pc 66 then (bif Nat.blt pc 62 then (bif Nat.beq pc 61 then some (.iastore, 0, 0) else none) else (bif Nat.blt pc 63 then (bif Nat.beq pc 62 then some (.aload_n 0, 0, 0) else none) else (bif Nat.beq pc 63 then some (.getfield 7, 0, 0) else none))) else (bif Nat.blt pc 68 then (bif Nat.beq pc 66 then some (.bipush 16, 0, 16) else none) else (bif Nat.blt pc 69 then (bif Nat.beq pc 68 then some (.iload_n 1, 0, 0) else none) else (bif Nat.beq pc 69 then some (.iadd, 0, 0) else none)))) else (bif Nat.blt pc 75 then (bif Nat.blt pc 71 then (bif Nat.beq pc 70 then some (.iaload, 0, 0) else none) else (bif Nat.blt pc 72 then (bif Nat.beq pc 71 then some (.iconst 3, 0, 3) else none) else (bif Nat.beq pc 72 then some (.if_icmp .ne 7, 79, 0) else none))) else (bif Nat.blt pc 79 then (bif Nat.blt pc 76 then (bif Nat.beq pc 75 then some (.iconst 1, 0, 1) else none) else (bif Nat.beq pc 76 then some (.goto 4, 80, 0) else none)) else (bif Nat.blt pc 80 then (bif Nat.beq pc 79 then some (.iconst 0, 0, 0) else none) else (bif Nat.beq pc 80 then some (.ireturn, 0, 0) else none))))))
def z_c95 (pc : Nat) : Option (Instr × Nat × Int32) := bif Nat.blt pc 6 then (bif Nat.blt pc 2 then (bif Nat.blt pc 1 then (bif Nat.beq pc 0 then some (.aload_n 0, 0, 0) else none) else (bif Nat.beq pc 1 then some (.iconst 0, 0, 0) else none)) else (bif Nat.blt pc 5 then (bif Nat.beq pc 2 then some (.putfield 25, 0, 0) else none) else (bif Nat.beq pc 5 then some (.aload_n 0, 0, 0) else none))) else (bif Nat.blt pc 10 then (bif Nat.blt pc 9 then (bif Nat.beq pc 6 then some (.invokevirtual 87, 0, 0) else none) else (bif Nat.beq pc 9 then some (.aload_n 0, 0, 0) else none)) else (bif Nat.blt pc 13 then (bif Nat.beq pc 10 then some (.invokevirtual 106, 0, 0) else none) else (bif Nat.beq pc 13 then some (.ireturn, 0, 0) else none)))
def z_c96 (pc : Nat) : Option (Instr × Nat × Int32) := bif Nat.blt pc 15 then (bif Nat.blt pc 4 then (bif Nat.blt pc 2 then (bif Nat.blt pc 1 then (bif Nat.beq pc 0 then some (.aload_n 0, 0, 0) else none) else (bif Nat.beq pc 1 then some (.aload_n 0, 0, 0) else none)) else (bif Nat.blt pc 3 then (bif Nat.beq pc 2 then some (.iload_n 1, 0, 0) else none) else (bif Nat.beq pc 3 then some (.iload_n 2, 0, 0) else none))) else (bif Nat.blt pc 10 then (bif Nat.blt pc 7 then (bif Nat.beq pc 4 then some (.invokevirtual 109, 0, 0) else none) else (bif Nat.beq pc 7 then some (.invokevirtual 84, 0, 0) else none)) else (bif Nat.blt pc 13 then (bif Nat.beq pc 10 then some (.ifCond .ne 5, 15, 0) else none) else (bif Nat.blt pc 14 then (bif Nat.beq pc 13 then some (.iconst 0, 0, 0) else none) else (bif Nat.beq pc 14 then some (.ireturn, 0, 0) else none))))) else (bif Nat.blt pc 22 then (bif Nat.blt pc 19 then (bif Nat.blt pc 16 then (bif Nat.beq pc 15 then some (.aload_n 0, 0, 0) else none) else (bif Nat.beq pc 16 then some (.invokevirtual 87, 0, 0) else none)) else (bif Nat.blt pc 20 then (bif Nat.beq pc 19 then some (.aload_n 0, 0, 0) else none) else (bif Nat.beq pc 20 then some (.bipush 40, 0, 40) else none))) else (bif Nat.blt pc 24 then (bif Nat.blt pc 23 then (bif Nat.beq pc 22 then some (.iload_n 1, 0, 0) else none) else (bif Nat.beq pc 23 then some (.iadd, 0, 0) else none)) else (bif Nat.blt pc 25 then (bif Nat.beq pc 24 then some (.iload_n 2, 0, 0) else none) else (bif Nat.blt pc 28 then (bif Nat.beq pc 25 then some (.invokevirtual 90, 0, 0) else none) else (bif Nat.beq pc 28 then some (.ireturn, 0, 0) else none)))))
def z_c97 (pc : Nat) : Option (Instr × Nat × Int32) := bif Nat.blt pc 13 then (bif Nat.blt pc 3 then (bif Nat.blt pc 1 then (bif Nat.beq pc 0 then some (.aload_n 0, 0, 0) else none) else (bif Nat.blt pc 2 then (bif Nat.beq pc 1 then some (.aload_n 0, 0, 0) else none) else (bif Nat.beq pc 2 then some (.iload_n 1, 0, 0) else none))) else (bif Nat.blt pc 9 then (bif Nat.blt pc 6 then (bif Nat.beq pc 3 then some (.invokevirtual 112, 0, 0) else none) else (bif Nat.beq pc 6 then some (.invokevirtual 84, 0, 0) else none)) else (bif Nat.blt pc 12 then (bif Nat.beq pc 9 then some (.ifCond .ne 5, 14, 0) else none) else (bif Nat.beq pc 12 then some (.iconst 0, 0, 0) else none)))) else (bif Nat.blt pc 18 then (bif Nat.blt pc 14 then (bif Nat.beq pc 13 then some (.ireturn, 0, 0) else none) else (bif Nat.blt pc 15 then (bif Nat.beq pc 14 then some (.aload_n 0, 0, 0) else none) else (bif Nat.beq pc 15 then some (.invokevirtual 87, 0, 0) else none))) else (bif Nat.blt pc 20 then (bif Nat.blt pc 19 then (bif Nat.beq pc 18 then some (.aload_n 0, 0, 0) else none) else (bif Nat.beq pc 19 then some (.iload_n 1, 0, 0) else none)) else (bif Nat.blt pc 23 then (bif Nat.beq pc 20 then some (.invokevirtual 115, 0, 0) else none) else (bif Nat.beq pc 23 then some (.ireturn, 0, 0) else none))))
def z_c98 (pc : Nat) : Option (Instr × Nat × Int32) := bif Nat.blt pc 31 then (bif Nat.blt pc 14 then (bif Nat.blt pc 4 then (bif Nat.blt pc 2 then (bif Nat.blt pc 1 then (bif Nat.beq pc 0 then some (.aload_n 0, 0, 0) else none) else (bif Nat.beq pc 1 then some (.iload_n 1, 0, 0) else none)) else (bif Nat.blt pc 3 then (bif Nat.beq pc 2 then some (.iconst 0, 0, 0) else none) else (bif Nat.beq pc 3 then some (.iconst 1, 0, 1) else none))) else (bif Nat.blt pc 10 then (bif Nat.blt pc 7 then (bif Nat.beq pc 4 then some (.invokestatic 29, 0, 0) else none) else (bif Nat.beq pc 7 then some (.ifCond .ne 7, 14, 0) else none)) else (bif Nat.blt pc 11 then (bif Nat.beq pc 10 then some (.iconst 1, 0, 1) else none) else (bif Nat.beq pc 11 then some (.goto 28, 39, 0) else none)))) else (bif Nat.blt pc 20 then (bif Nat.blt pc 16 then (bif Nat.blt pc 15 then (bif Nat.beq pc 14 then some (.iload_n 2, 0, 0) else none) else (bif Nat.beq pc 15 then some (.iconst 0, 0, 0) else none)) else (bif Nat.blt pc 17 then (bif Nat.beq pc 16 then some (.iload_n 1, 0, 0) else none) else (bif Nat.beq pc 17 then some (.ifCond .ne 9, 26, 0) else none))) else (bif Nat.blt pc 26 then (bif Nat.blt pc 23 then (bif Nat.beq pc 20 then some (.sipush 300, 0, 300) else none) else (bif Nat.beq pc 23 then some (.goto 5, 28, 0) else none)) else (bif Nat.blt pc 28 then (bif Nat.beq pc 26 then some (.bipush 48, 0, 48) else none) else (bif Nat.beq pc 28 then some (.invokestatic 29, 0, 0) else none))))) else (bif Nat.blt pc 47 then (bif Nat.blt pc 39 then (bif Nat.blt pc 35 then (bif Nat.blt pc 34 then (bif Nat.beq pc 31 then some (.ifCond .ne 7, 38, 0) else none) else (bif Nat.beq pc 34 then some (.iconst 2, 0, 2) else none)) else (bif Nat.blt pc 38 then (bif Nat.beq pc 35 then some (.goto 4, 39, 0) else none) else (bif Nat.beq pc 38 then some (.iconst 0, 0, 0) else none))) else (bif Nat.blt pc 45 then (bif Nat.blt pc 42 then (bif Nat.beq pc 39 then some (.invokevirtual 84, 0, 0) else none) else (bif Nat.beq pc 42 then some (.ifCond .ne 5, 47, 0) else none)) else (bif Nat.blt pc 46 then (bif Nat.beq pc 45 then some (.iconst 0, 0, 0) else none) else (bif Nat.beq pc 46 then some (.ireturn, 0, 0) else none)))) else (bif Nat.blt pc 54 then (bif Nat.blt pc 51 then (bif Nat.blt pc 48 then (bif Nat.beq pc 47 then some (.aload_n 0, 0, 0) else none) else (bif Nat.beq pc 48 then some (.invokevirtual 87, 0, 0) else none)) else (bif Nat.blt pc 52 then (bif Nat.beq pc 51 then some (.aload_n 0, 0, 0) else none) else (bif Nat.beq pc 52 then some (.bipush 32, 0, 32) else none))) else (bif Nat.blt pc 56 then (bif Nat.blt pc 55 then (bif Nat.beq pc 54 then some (.iload_n 1, 0, 0) else none) else (bif Nat.beq pc 55 then some (.iadd, 0, 0) else none)) else (bif Nat.blt pc 57 then (bif Nat.beq pc 56 then some (.iload_n 2, 0, 0) else none) else (bif Nat.blt pc 60 then (bif Nat.beq pc 57 then some (.invokevirtual 90, 0, 0) else none) else (bif Nat.beq pc 60 then some (.ireturn, 0, 0) else none))))))
def z_c99 (pc : Nat) : Option (Instr × Nat × Int32) := bif Nat.blt pc 36 then (bif Nat.blt pc 16 then (bif Nat.blt pc 6 then (bif Nat.blt pc 2 then (bif Nat.blt pc 1 then (bif Nat.beq pc 0 then some (.aload_n 0, 0, 0) else none) else (bif Nat.beq pc 1 then some (.iload_n 1, 0, 0) else none)) else (bif Nat.blt pc 4 then (bif Nat.beq pc 2 then some (.bipush 33, 0, 33) else none) else (bif Nat.beq pc 4 then some (.bipush 126, 0, 126) else none))) else (bif Nat.blt pc 12 then (bif Nat.blt pc 9 then (bif Nat.beq pc 6 then some (.invokestatic 29, 0, 0) else none) else (bif Nat.beq pc 9 then some (.ifCond .ne 7, 16, 0) else none)) else (bif Nat.blt pc 13 then (bif Nat.beq pc 12 then some (.iconst 1, 0, 1) else none) else (bif Nat.beq pc 13 then some (.goto 17, 30, 0) else none)))) else (bif Nat.blt pc 25 then (bif Nat.blt pc 20 then (bif Nat.blt pc 17 then (bif Nat.beq pc 16 then some (.aload_n 0, 0, 0) else none) else (bif Nat.beq pc 17 then some (.getfield 118, 0, 0) else none)) else (bif Nat.blt pc 22 then (bif Nat.beq pc 20 then some (.bipush 60, 0, 60) else none) else (bif Nat.beq pc 22 then some (.if_icmp .ne 7, 29, 0) else none))) else (bif Nat.blt pc 29 then (bif Nat.blt pc 26 then (bif Nat.beq pc 25 then some (.iconst 2, 0, 2) else none) else (bif Nat.beq pc 26 then some (.goto 4, 30, 0) else none)) else (bif Nat.blt pc 30 then (bif Nat.beq pc 29 then some (.iconst 0, 0, 0) else none) else (bif Nat.blt pc 33 then (bif Nat.beq pc 30 then some (.invokevirtual 84, 0, 0) else none) else (bif Nat.beq pc 33 then some (.ifCond .ne 5, 38, 0) else none)))))) else (bif Nat.blt pc 48 then (bif Nat.blt pc 42 then (bif Nat.blt pc 38 then (bif Nat.blt pc 37 then (bif Nat.beq pc 36 then some (.iconst 0, 0, 0) else none) else (bif Nat.beq pc 37 then some (.ireturn, 0, 0) else none)) else (bif Nat.blt pc 39 then (bif Nat.beq pc 38 then some (.aload_n 0, 0, 0) else none) else (bif Nat.beq pc 39 then some (.getfield 19, 0, 0) else none))) else (bif Nat.blt pc 46 then (bif Nat.blt pc 43 then (bif Nat.beq pc 42 then some (.aload_n 0, 0, 0) else none) else (bif Nat.beq pc 43 then some (.getfield 118, 0, 0) else none)) else (bif Nat.blt pc 47 then (bif Nat.beq pc 46 then some (.iload_n 1, 0, 0) else none) else (bif Nat.beq pc 47 then some (.iastore, 0, 0) else none)))) else (bif Nat.blt pc 54 then (bif Nat.blt pc 50 then (bif Nat.blt pc 49 then (bif Nat.beq pc 48 then some (.aload_n 0, 0, 0) else none) else (bif Nat.beq pc 49 then some (.dup, 0, 0) else none)) else (bif Nat.blt pc 53 then (bif Nat.beq pc 50 then some (.getfield 118, 0, 0) else none) else (bif Nat.beq pc 53 then some (.iconst 1, 0, 1) else none))) else (bif Nat.blt pc 58 then (bif Nat.blt pc 55 then (bif Nat.beq pc 54 then some (.iadd, 0, 0) else none) else (bif Nat.beq pc 55 then some (.putfield 118, 0, 0) else none)) else (bif Nat.blt pc 59 then (bif Nat.beq pc 58 then some (.aload_n 0, 0, 0) else none) else (bif Nat.blt pc 62 then (bif Nat.beq pc 59 then some (.getfield 118, 0, 0) else none) else (bif Nat.beq pc 62 then some (.ireturn, 0, 0) else none))))))
def z_c100 (pc : Nat) : Option (Instr × Nat × Int32) := bif Nat.blt pc 9 then (bif Nat.blt pc 2 then (bif Nat.blt pc 1 then (bif Nat.beq pc 0 then some (.aload_n 0, 0, 0) else none) else (bif Nat.beq pc 1 then some (.iconst 0, 0, 0) else none)) else (bif Nat.blt pc 5 then (bif Nat.beq pc 2 then some (.putfield 25, 0, 0) else none) else (bif Nat.blt pc 6 then (bif Nat.beq pc 5 then some (.aload_n 0, 0, 0) else none) else (bif Nat.beq pc 6 then some (.getfield 118, 0, 0) else none)))) else (bif Nat.blt pc 12 then (bif Nat.blt pc 10 then (bif Nat.beq pc 9 then some (.istore_n 1, 0, 0) else none) else (bif Nat.blt pc 11 then (bif Nat.beq pc 10 then some (.aload_n 0, 0, 0) else none) else (bif Nat.beq pc 11 then some (.iconst 0, 0, 0) else none))) else (bif Nat.blt pc 15 then (bif Nat.beq pc 12 then some (.putfield 118, 0, 0) else none) else (bif Nat.blt pc 16 then (bif Nat.beq pc 15 then some (.iload_n 1, 0, 0) else none) else (bif Nat.beq pc 16 then some (.ireturn, 0, 0) else none))))
def z_c101 (pc : Nat) : Option (Instr × Nat × Int32) := bif Nat.blt pc 35 then (bif Nat.blt pc 19 then (bif Nat.blt pc 8 then (bif Nat.blt pc 4 then (bif Nat.blt pc 1 then (bif Nat.beq pc 0 then some (.aload_n 0, 0, 0) else none) else (bif Nat.beq pc 1 then some (.getfield 121, 0, 0) else none)) else (bif Nat.blt pc 5 then (bif Nat.beq pc 4 then some (.aload_n 0, 0, 0) else none) else (bif Nat.beq pc 5 then some (.getfield 118, 0, 0) else none))) else (bif Nat.blt pc 12 then (bif Nat.blt pc 11 then (bif Nat.beq pc 8 then some (.if_icmp .ge 15, 23, 0) else none) else (bif Nat.beq pc 11 then some (.aload_n 0, 0, 0) else none)) else (bif Nat.blt pc 15 then (bif Nat.beq pc 12 then some (.getfield 19, 0, 0) else none) else (bif Nat.blt pc 16 then (bif Nat.beq pc 15 then some (.aload_n 0, 0, 0) else none) else (bif Nat.beq pc 16 then some (.getfield 121, 0, 0) else none))))) else (bif Nat.blt pc 26 then (bif Nat.blt pc 23 then (bif Nat.blt pc 20 then (bif Nat.beq pc 19 then some (.iaload, 0, 0) else none) else (bif Nat.beq pc 20 then some (.goto 4, 24, 0) else none)) else (bif Nat.blt pc 24 then (bif Nat.beq pc 23 then some (.iconst 0, 0, 0) else none) else (bif Nat.blt pc 25 then (bif Nat.beq pc 24 then some (.istore_n 3, 0, 0) else none) else (bif Nat.beq pc 25 then some (.aload_n 0, 0, 0) else none)))) else (bif Nat.blt pc 30 then (bif Nat.blt pc 27 then (bif Nat.beq pc 26 then some (.aload_n 0, 0, 0) else none) else (bif Nat.beq pc 27 then some (.getfield 124, 0, 0) else none)) else (bif Nat.blt pc 33 then (bif Nat.beq pc 30 then some (.ifCond .ne 12, 42, 0) else none) else (bif Nat.blt pc 34 then (bif Nat.beq pc 33 then some (.iload_n 3, 0, 0) else none) else (bif Nat.beq pc 34 then some (.iload_n 1, 0, 0) else none)))))) else (bif Nat.blt pc 55 then (bif Nat.blt pc 46 then (bif Nat.blt pc 39 then (bif Nat.blt pc 36 then (bif Nat.beq pc 35 then some (.iload_n 2, 0, 0) else none) else (bif Nat.beq pc 36 then some (.invokestatic 29, 0, 0) else none)) else (bif Nat.blt pc 42 then (bif Nat.beq pc 39 then some (.ifCond .ne 7, 46, 0) else none) else (bif Nat.blt pc 43 then (bif Nat.beq pc 42 then some (.iconst 1, 0, 1) else none) else (bif Nat.beq pc 43 then some (.goto 4, 47, 0) else none)))) else (bif Nat.blt pc 50 then (bif Nat.blt pc 47 then (bif Nat.beq pc 46 then some (.iconst 0, 0, 0) else none) else (bif Nat.beq pc 47 then some (.putfield 124, 0, 0) else none)) else (bif Nat.blt pc 51 then (bif Nat.beq pc 50 then some (.aload_n 0, 0, 0) else none) else (bif Nat.blt pc 52 then (bif Nat.beq pc 51 then some (.dup, 0, 0) else none) else (bif Nat.beq pc 52 then some (.getfield 121, 0, 0) else none))))) else (bif Nat.blt pc 66 then (bif Nat.blt pc 59 then (bif Nat.blt pc 56 then (bif Nat.beq pc 55 then some (.aload_n 0, 0, 0) else none) else (bif Nat.beq pc 56 then some (.getfield 124, 0, 0) else none)) else (bif Nat.blt pc 62 then (bif Nat.beq pc 59 then some (.ifCond .eq 7, 66, 0) else none) else (bif Nat.blt pc 63 then (bif Nat.beq pc 62 then some (.iconst 0, 0, 0) else none) else (bif Nat.beq pc 63 then some (.goto 4, 67, 0) else none)))) else (bif Nat.blt pc 68 then (bif Nat.blt pc 67 then (bif Nat.beq pc 66 then some (.iconst 1, 0, 1) else none) else (bif Nat.beq pc 67 then some (.iadd, 0, 0) else none)) else (bif Nat.blt pc 71 then (bif Nat.beq pc 68 then some (.putfield 121, 0, 0) else none) else (bif Nat.blt pc 72 then (bif Nat.beq pc 71 then some (.iload_n 3, 0, 0) else none) else (bif Nat.beq pc 72 then some (.ireturn, 0, 0) else none))))))
def z_c102 (pc : Nat) : Option (Instr × Nat × Int32) := bif Nat.blt pc 52 then (bif Nat.blt pc 22 then (bif Nat.blt pc 10 then (bif Nat.blt pc 4 then (bif Nat.blt pc 1 then (bif Nat.beq pc 0 then some (.aload_n 0, 0, 0) else none) else (bif Nat.blt pc 3 then (bif Nat.beq pc 1 then some (.bipush 48, 0, 48) else none) else (bif Nat.beq pc 3 then some (.iload_n 1, 0, 0) else none))) else (bif Nat.blt pc 5 then (bif Nat.beq pc 4 then some (.iadd, 0, 0) else none) else (bif Nat.blt pc 7 then (bif Nat.beq pc 5 then some (.bipush 57, 0, 57) else none) else (bif Nat.beq pc 7 then some (.invokevirtual 127, 0, 0) else none)))) else (bif Nat.blt pc 14 then (bif Nat.blt pc 12 then (bif Nat.beq pc 10 then some (.bipush 48, 0, 48) else none) else (bif Nat.blt pc 13 then (bif Nat.beq pc 12 then some (.isub, 0, 0) else none) else (bif Nat.beq pc 13 then some (.istore_n 3, 0, 0) else none))) else (bif Nat.blt pc 18 then (bif Nat.blt pc 15 then (bif Nat.beq pc 14 then some (.aload_n 0, 0, 0) else none) else (bif Nat.beq pc 15 then some (.getfield 124, 0, 0) else none)) else (bif Nat.blt pc 21 then (bif Nat.beq pc 18 then some (.ifCond .ne 78, 96, 0) else none) else (bif Nat.beq pc 21 then some (.iload_n 3, 0, 0) else none))))) else (bif Nat.blt pc 37 then (bif Nat.blt pc 29 then (bif Nat.blt pc 25 then (bif Nat.beq pc 22 then some (.ifCond .le 74, 96, 0) else none) else (bif Nat.blt pc 26 then (bif Nat.beq pc 25 then some (.aload_n 0, 0, 0) else none) else (bif Nat.beq pc 26 then some (.getfield 121, 0, 0) else none))) else (bif Nat.blt pc 33 then (bif Nat.blt pc 30 then (bif Nat.beq pc 29 then some (.aload_n 0, 0, 0) else none) else (bif Nat.beq pc 30 then some (.getfield 118, 0, 0) else none)) else (bif Nat.blt pc 36 then (bif Nat.beq pc 33 then some (.if_icmp .ge 63, 96, 0) else none) else (bif Nat.beq pc 36 then some (.aload_n 0, 0, 0) else none)))) else (bif Nat.blt pc 44 then (bif Nat.blt pc 40 then (bif Nat.beq pc 37 then some (.getfield 19, 0, 0) else none) else (bif Nat.blt pc 41 then (bif Nat.beq pc 40 then some (.aload_n 0, 0, 0) else none) else (bif Nat.beq pc 41 then some (.getfield 121, 0, 0) else none))) else (bif Nat.blt pc 47 then (bif Nat.blt pc 45 then (bif Nat.beq pc 44 then some (.iaload, 0, 0) else none) else (bif Nat.beq pc 45 then some (.bipush 48, 0, 48) else none)) else (bif Nat.blt pc 49 then (bif Nat.beq pc 47 then some (.bipush 57, 0, 57) else none) else (bif Nat.beq pc 49 then some (.invokestatic 29, 0, 0) else none)))))) else (bif Nat.blt pc 76 then (bif Nat.blt pc 64 then (bif Nat.blt pc 58 then (bif Nat.blt pc 55 then (bif Nat.beq pc 52 then some (.ifCond .eq 44, 96, 0) else none) else (bif Nat.blt pc 57 then (bif Nat.beq pc 55 then some (.bipush 10, 0, 10) else none) else (bif Nat.beq pc 57 then some (.iload_n 3, 0, 0) else none))) else (bif Nat.blt pc 60 then (bif Nat.blt pc 59 then (bif Nat.beq pc 58 then some (.imul, 0, 0) else none) else (bif Nat.beq pc 59 then some (.aload_n 0, 0, 0) else none)) else (bif Nat.blt pc 63 then (bif Nat.beq pc 60 then some (.getfield 19, 0, 0) else none) else (bif Nat.beq pc 63 then some (.aload_n 0, 0, 0) else none)))) else (bif Nat.blt pc 69 then (bif Nat.blt pc 67 then (bif Nat.beq pc 64 then some (.getfield 121, 0, 0) else none) else (bif Nat.blt pc 68 then (bif Nat.beq pc 67 then some (.iaload, 0, 0) else none) else (bif Nat.beq pc 68 then some (.iadd, 0, 0) else none))) else (bif Nat.blt pc 72 then (bif Nat.blt pc 71 then (bif Nat.beq pc 69 then some (.bipush 48, 0, 48) else none) else (bif Nat.beq pc 71 then some (.isub, 0, 0) else none)) else (bif Nat.blt pc 73 then (bif Nat.beq pc 72 then some (.iload_n 2, 0, 0) else none) else (bif Nat.beq pc 73 then some (.if_icmp .gt 23, 96, 0) else none))))) else (bif Nat.blt pc 88 then (bif Nat.blt pc 80 then (bif Nat.blt pc 78 then (bif Nat.beq pc 76 then some (.bipush 10, 0, 10) else none) else (bif Nat.blt pc 79 then (bif Nat.beq pc 78 then some (.iload_n 3, 0, 0) else none) else (bif Nat.beq pc 79 then some (.imul, 0, 0) else none))) else (bif Nat.blt pc 83 then (bif Nat.blt pc 81 then (bif Nat.beq pc 80 then some (.aload_n 0, 0, 0) else none) else (bif Nat.beq pc 81 then some (.bipush 48, 0, 48) else none)) else (bif Nat.blt pc 85 then (bif Nat.beq pc 83 then some (.bipush 57, 0, 57) else none) else (bif Nat.beq pc 85 then some (.invokevirtual 127, 0, 0) else none)))) else (bif Nat.blt pc 92 then (bif Nat.blt pc 89 then (bif Nat.beq pc 88 then some (.iadd, 0, 0) else none) else (bif Nat.blt pc 91 then (bif Nat.beq pc 89 then some (.bipush 48, 0, 48) else none) else (bif Nat.beq pc 91 then some (.isub, 0, 0) else none))) else (bif Nat.blt pc 96 then (bif Nat.blt pc 93 then (bif Nat.beq pc 92 then some (.istore_n 3, 0, 0) else none) else (bif Nat.beq pc 93 then some (.goto (-79), 14, 0) else none)) else (bif Nat.blt pc 97 then (bif Nat.beq pc 96 then some (.iload_n 3, 0, 0) else none) else (bif Nat.beq pc 97 then some (.ireturn, 0, 0) else none))))))
def z_c103 (pc : Nat) : Option (Instr × Nat × Int32) := bif Nat.blt pc 97 then (bif Nat.blt pc 48 then (bif Nat.blt pc 24 then (bif Nat.blt pc 12 then (bif Nat.blt pc 5 then (bif Nat.blt pc 1 then (bif Nat.beq pc 0 then some (.aload_n 0, 0, 0) else none) else (bif Nat.blt pc 4 then (bif Nat.beq pc 1 then some (.getfield 121, 0, 0) else none) else (bif Nat.beq pc 4 then some (.aload_n 0, 0, 0) else none))) else (bif Nat.blt pc 8 then (bif Nat.beq pc 5 then some (.getfield 118, 0, 0) else none) else (bif Nat.blt pc 11 then (bif Nat.beq pc 8 then some (.if_icmp .ge 15, 23, 0) else none) else (bif Nat.beq pc 11 then some (.aload_n 0, 0, 0) else none)))) else (bif Nat.blt pc 19 then (bif Nat.blt pc 15 then (bif Nat.beq pc 12 then some (.getfield 19, 0, 0) else none) else (bif Nat.blt pc 16 then (bif Nat.beq pc 15 then some (.aload_n 0, 0, 0) else none) else (bif Nat.beq pc 16 then some (.getfield 121, 0, 0) else none))) else (bif Nat.blt pc 20 then (bif Nat.beq pc 19 then some (.iaload, 0, 0) else none) else (bif Nat.blt pc 23 then (bif Nat.beq pc 20 then some (.goto 4, 24, 0) else none) else (bif Nat.beq pc 23 then some (.iconst 0, 0, 0) else none))))) else (bif Nat.blt pc 34 then (bif Nat.blt pc 27 then (bif Nat.blt pc 25 then (bif Nat.beq pc 24 then some (.istore_n 1, 0, 0) else none) else (bif Nat.blt pc 26 then (bif Nat.beq pc 25 then some (.aload_n 0, 0, 0) else none) else (bif Nat.beq pc 26 then some (.aload_n 0, 0, 0) else none))) else (bif Nat.blt pc 30 then (bif Nat.beq pc 27 then some (.getfield 124, 0, 0) else none) else (bif Nat.blt pc 33 then (bif Nat.beq pc 30 then some (.ifCond .ne 33, 63, 0) else none) else (bif Nat.beq pc 33 then some (.iload_n 1, 0, 0) else none)))) else (bif Nat.blt pc 40 then (bif Nat.blt pc 36 then (bif Nat.beq pc 34 then some (.bipush 43, 0, 43) else none) else (bif Nat.blt pc 39 then (bif Nat.beq pc 36 then some (.if_icmp .eq 31, 67, 0) else none) else (bif Nat.beq pc 39 then some (.iload_n 1, 0, 0) else none))) else (bif Nat.blt pc 45 then (bif Nat.blt pc 42 then (bif Nat.beq pc 40 then some (.bipush 45, 0, 45) else none) else (bif Nat.beq pc 42 then some (.if_icmp .eq 25, 67, 0) else none)) else (bif Nat.blt pc 46 then (bif Nat.beq pc 45 then some (.iload_n 1, 0, 0) else none) else (bif Nat.beq pc 46 then some (.bipush 115, 0, 115) else none)))))) else (bif Nat.blt pc 72 then (bif Nat.blt pc 60 then (bif Nat.blt pc 54 then (bif Nat.blt pc 51 then (bif Nat.beq pc 48 then some (.if_icmp .eq 19, 67, 0) else none) else (bif Nat.blt pc 52 then (bif Nat.beq pc 51 then some (.iload_n 1, 0, 0) else none) else (bif Nat.beq pc 52 then some (.bipush 104, 0, 104) else none))) else (bif Nat.blt pc 57 then (bif Nat.beq pc 54 then some (.if_icmp .eq 13, 67, 0) else none) else (bif Nat.blt pc 58 then (bif Nat.beq pc 57 then some (.iload_n 1, 0, 0) else none) else (bif Nat.beq pc 58 then some (.bipush 102, 0, 102) else none)))) else (bif Nat.blt pc 67 then (bif Nat.blt pc 63 then (bif Nat.beq pc 60 then some (.if_icmp .eq 7, 67, 0) else none) else (bif Nat.blt pc 64 then (bif Nat.beq pc 63 then some (.iconst 1, 0, 1) else none) else (bif Nat.beq pc 64 then some (.goto 4, 68, 0) else none))) else (bif Nat.blt pc 68 then (bif Nat.beq pc 67 then some (.iconst 0, 0, 0) else none) else (bif Nat.blt pc 71 then (bif Nat.beq pc 68 then some (.putfield 124, 0, 0) else none) else (bif Nat.beq pc 71 then some (.aload_n 0, 0, 0) else none))))) else (bif Nat.blt pc 84 then (bif Nat.blt pc 77 then (bif Nat.blt pc 73 then (bif Nat.beq pc 72 then some (.dup, 0, 0) else none) else (bif Nat.blt pc 76 then (bif Nat.beq pc 73 then some (.getfield 121, 0, 0) else none) else (bif Nat.beq pc 76 then some (.aload_n 0, 0, 0) else none))) else (bif Nat.blt pc 80 then (bif Nat.beq pc 77 then some (.getfield 124, 0, 0) else none) else (bif Nat.blt pc 83 then (bif Nat.beq pc 80 then some (.ifCond .eq 7, 87, 0) else none) else (bif Nat.beq pc 83 then some (.iconst 0, 0, 0) else none)))) else (bif Nat.blt pc 89 then (bif Nat.blt pc 87 then (bif Nat.beq pc 84 then some (.goto 4, 88, 0) else none) else (bif Nat.blt pc 88 then (bif Nat.beq pc 87 then some (.iconst 1, 0, 1) else none) else (bif Nat.beq pc 88 then some (.iadd, 0, 0) else none))) else (bif Nat.blt pc 93 then (bif Nat.blt pc 92 then (bif Nat.beq pc 89 then some (.putfield 121, 0, 0) else none) else (bif Nat.beq pc 92 then some (.aload_n 0, 0, 0) else none)) else (bif Nat.blt pc 94 then (bif Nat.beq pc 93 then some (.iload_n 1, 0, 0) else none) else (bif Nat.beq pc 94 then some (.putfield 130, 0, 0) else none))))))) else (bif Nat.blt pc 145 then (bif Nat.blt pc 118 then (bif Nat.blt pc 108 then (bif Nat.blt pc 101 then (bif Nat.blt pc 98 then (bif Nat.beq pc 97 then some (.aload_n 0, 0, 0) else none) else (bif Nat.blt pc 99 then (bif Nat.beq pc 98 then some (.iload_n 1, 0, 0) else none) else (bif Nat.beq pc 99 then some (.bipush 115, 0, 115) else none))) else (bif Nat.blt pc 104 then (bif Nat.beq pc 101 then some (.if_icmp .ne 7, 108, 0) else none) else (bif Nat.blt pc 105 then (bif Nat.beq pc 104 then some (.iconst 0, 0, 0) else none) else (bif Nat.beq pc 105 then some (.goto 46, 151, 0) else none)))) else (bif Nat.blt pc 114 then (bif Nat.blt pc 109 then (bif Nat.beq pc 108 then some (.iload_n 1, 0, 0) else none) else (bif Nat.blt pc 111 then (bif Nat.beq pc 109 then some (.bipush 104, 0, 104) else none) else (bif Nat.beq pc 111 then some (.if_icmp .ne 13, 124, 0) else none))) else (bif Nat.blt pc 115 then (bif Nat.beq pc 114 then some (.aload_n 0, 0, 0) else none) else (bif Nat.blt pc 116 then (bif Nat.beq pc 115 then some (.iconst 1, 0, 1) else none) else (bif Nat.beq pc 116 then some (.bipush 48, 0, 48) else none))))) else (bif Nat.blt pc 131 then (bif Nat.blt pc 125 then (bif Nat.blt pc 121 then (bif Nat.beq pc 118 then some (.invokevirtual 133, 0, 0) else none) else (bif Nat.blt pc 124 then (bif Nat.beq pc 121 then some (.goto 30, 151, 0) else none) else (bif Nat.beq pc 124 then some (.iload_n 1, 0, 0) else none))) else (bif Nat.blt pc 127 then (bif Nat.beq pc 125 then some (.bipush 102, 0, 102) else none) else (bif Nat.blt pc 130 then (bif Nat.beq pc 127 then some (.if_icmp .ne 13, 140, 0) else none) else (bif Nat.beq pc 130 then some (.aload_n 0, 0, 0) else none)))) else (bif Nat.blt pc 137 then (bif Nat.blt pc 132 then (bif Nat.beq pc 131 then some (.iconst 0, 0, 0) else none) else (bif Nat.blt pc 134 then (bif Nat.beq pc 132 then some (.bipush 47, 0, 47) else none) else (bif Nat.beq pc 134 then some (.invokevirtual 133, 0, 0) else none))) else (bif Nat.blt pc 141 then (bif Nat.blt pc 140 then (bif Nat.beq pc 137 then some (.goto 14, 151, 0) else none) else (bif Nat.beq pc 140 then some (.aload_n 0, 0, 0) else none)) else (bif Nat.blt pc 143 then (bif Nat.beq pc 141 then some (.bipush 48, 0, 48) else none) else (bif Nat.beq pc 143 then some (.bipush 51, 0, 51) else none)))))) else (bif Nat.blt pc 172 then (bif Nat.blt pc 157 then (bif Nat.blt pc 151 then (bif Nat.blt pc 148 then (bif Nat.beq pc 145 then some (.invokevirtual 127, 0, 0) else none) else (bif Nat.blt pc 150 then (bif Nat.beq pc 148 then some (.bipush 48, 0, 48) else none) else (bif Nat.beq pc 150 then some (.isub, 0, 0) else none))) else (bif Nat.blt pc 154 then (bif Nat.beq pc 151 then some (.putfield 136, 0, 0) else none) else (bif Nat.blt pc 155 then (bif Nat.beq pc 154 then some (.iload_n 1, 0, 0) else none) else (bif Nat.beq pc 155 then some (.bipush 102, 0, 102) else none)))) else (bif Nat.blt pc 163 then (bif Nat.blt pc 160 then (bif Nat.beq pc 157 then some (.if_icmp .ne 14, 171, 0) else none) else (bif Nat.blt pc 161 then (bif Nat.beq pc 160 then some (.aload_n 0, 0, 0) else none) else (bif Nat.beq pc 161 then some (.bipush 61, 0, 61) else none))) else (bif Nat.blt pc 168 then (bif Nat.blt pc 165 then (bif Nat.beq pc 163 then some (.bipush 61, 0, 61) else none) else (bif Nat.beq pc 165 then some (.invokevirtual 127, 0, 0) else none)) else (bif Nat.blt pc 171 then (bif Nat.beq pc 168 then some (.goto 4, 172, 0) else none) else (bif Nat.beq pc 171 then some (.iconst 0, 0, 0) else none))))) else (bif Nat.blt pc 181 then (bif Nat.blt pc 175 then (bif Nat.blt pc 173 then (bif Nat.beq pc 172 then some (.istore_n 2, 0, 0) else none) else (bif Nat.blt pc 174 then (bif Nat.beq pc 173 then some (.aload_n 0, 0, 0) else none) else (bif Nat.beq pc 174 then some (.iload_n 1, 0, 0) else none))) else (bif Nat.blt pc 177 then (bif Nat.beq pc 175 then some (.bipush 102, 0, 102) else none) else (bif Nat.blt pc 180 then (bif Nat.beq pc 177 then some (.if_icmp .ne 14, 191, 0) else none) else (bif Nat.beq pc 180 then some (.aload_n 0, 0, 0) else none)))) else (bif Nat.blt pc 188 then (bif Nat.blt pc 182 then (bif Nat.beq pc 181 then some (.iconst 0, 0, 0) else none) else (bif Nat.blt pc 185 then (bif Nat.beq pc 182 then some (.sipush 1500, 0, 1500) else none) else (bif Nat.beq pc 185 then some (.invokevirtual 133, 0, 0) else none))) else (bif Nat.blt pc 192 then (bif Nat.blt pc 191 then (bif Nat.beq pc 188 then some (.goto 4, 192, 0) else none) else (bif Nat.beq pc 191 then some (.iconst 0, 0, 0) else none)) else (bif Nat.blt pc 195 then (bif Nat.beq pc 192 then some (.putfield 139, 0, 0) else none) else (bif Nat.beq pc 195 then some (.return_, 0, 0) else none)))))))
def z_c104 (pc : Nat) : Option (Instr × Nat × Int32) := bif Nat.blt pc 86 then (bif Nat.blt pc 42 then (bif Nat.blt pc 19 then (bif Nat.blt pc 8 then (bif Nat.blt pc 4 then (bif Nat.blt pc 1 then (bif Nat.beq pc 0 then some (.aload_n 0, 0, 0) else none) else (bif Nat.beq pc 1 then some (.getfield 130, 0, 0) else none)) else (bif Nat.blt pc 5 then (bif Nat.beq pc 4 then some (.istore_n 1, 0, 0) else none) else (bif Nat.blt pc 6 then (bif Nat.beq pc 5 then some (.iload_n 1, 0, 0) else none) else (bif Nat.beq pc 6 then some (.bipush 43, 0, 43) else none)))) else (bif Nat.blt pc 12 then (bif Nat.blt pc 11 then (bif Nat.beq pc 8 then some (.if_icmp .ne 14, 22, 0) else none) else (bif Nat.beq pc 11 then some (.aload_n 0, 0, 0) else none)) else (bif Nat.blt pc 13 then (bif Nat.beq pc 12 then some (.aload_n 0, 0, 0) else none) else (bif Nat.blt pc 16 then (bif Nat.beq pc 13 then some (.getfield 136, 0, 0) else none) else (bif Nat.beq pc 16 then some (.invokevirtual 94, 0, 0) else none))))) else (bif Nat.blt pc 29 then (bif Nat.blt pc 23 then (bif Nat.blt pc 22 then (bif Nat.beq pc 19 then some (.goto 59, 78, 0) else none) else (bif Nat.beq pc 22 then some (.iload_n 1, 0, 0) else none)) else (bif Nat.blt pc 25 then (bif Nat.beq pc 23 then some (.bipush 45, 0, 45) else none) else (bif Nat.blt pc 28 then (bif Nat.beq pc 25 then some (.if_icmp .ne 14, 39, 0) else none) else (bif Nat.beq pc 28 then some (.aload_n 0, 0, 0) else none)))) else (bif Nat.blt pc 36 then (bif Nat.blt pc 30 then (bif Nat.beq pc 29 then some (.aload_n 0, 0, 0) else none) else (bif Nat.blt pc 33 then (bif Nat.beq pc 30 then some (.getfield 136, 0, 0) else none) else (bif Nat.beq pc 33 then some (.invokevirtual 100, 0, 0) else none))) else (bif Nat.blt pc 39 then (bif Nat.beq pc 36 then some (.goto 42, 78, 0) else none) else (bif Nat.blt pc 40 then (bif Nat.beq pc 39 then some (.iload_n 1, 0, 0) else none) else (bif Nat.beq pc 40 then some (.bipush 104, 0, 104) else none)))))) else (bif Nat.blt pc 64 then (bif Nat.blt pc 53 then (bif Nat.blt pc 46 then (bif Nat.blt pc 45 then (bif Nat.beq pc 42 then some (.if_icmp .ne 14, 56, 0) else none) else (bif Nat.beq pc 45 then some (.aload_n 0, 0, 0) else none)) else (bif Nat.blt pc 47 then (bif Nat.beq pc 46 then some (.aload_n 0, 0, 0) else none) else (bif Nat.blt pc 50 then (bif Nat.beq pc 47 then some (.getfield 136, 0, 0) else none) else (bif Nat.beq pc 50 then some (.invokevirtual 112, 0, 0) else none)))) else (bif Nat.blt pc 59 then (bif Nat.blt pc 56 then (bif Nat.beq pc 53 then some (.goto 25, 78, 0) else none) else (bif Nat.blt pc 57 then (bif Nat.beq pc 56 then some (.iload_n 1, 0, 0) else none) else (bif Nat.beq pc 57 then some (.bipush 102, 0, 102) else none))) else (bif Nat.blt pc 62 then (bif Nat.beq pc 59 then some (.if_icmp .ne 18, 77, 0) else none) else (bif Nat.blt pc 63 then (bif Nat.beq pc 62 then some (.aload_n 0, 0, 0) else none) else (bif Nat.beq pc 63 then some (.aload_n 0, 0, 0) else none))))) else (bif Nat.blt pc 77 then (bif Nat.blt pc 68 then (bif Nat.blt pc 67 then (bif Nat.beq pc 64 then some (.getfield 136, 0, 0) else none) else (bif Nat.beq pc 67 then some (.aload_n 0, 0, 0) else none)) else (bif Nat.blt pc 71 then (bif Nat.beq pc 68 then some (.getfield 139, 0, 0) else none) else (bif Nat.blt pc 74 then (bif Nat.beq pc 71 then some (.invokevirtual 109, 0, 0) else none) else (bif Nat.beq pc 74 then some (.goto 4, 78, 0) else none)))) else (bif Nat.blt pc 80 then (bif Nat.blt pc 78 then (bif Nat.beq pc 77 then some (.iconst 0, 0, 0) else none) else (bif Nat.blt pc 79 then (bif Nat.beq pc 78 then some (.istore_n 2, 0, 0) else none) else (bif Nat.beq pc 79 then some (.iload_n 2, 0, 0) else none))) else (bif Nat.blt pc 83 then (bif Nat.beq pc 80 then some (.ifCond .ne 83, 163, 0) else none) else (bif Nat.blt pc 84 then (bif Nat.beq pc 83 then some (.iload_n 1, 0, 0) else none) else (bif Nat.beq pc 84 then some (.bipush 43, 0, 43) else none))))))) else (bif Nat.blt pc 131 then (bif Nat.blt pc 107 then (bif Nat.blt pc 97 then (bif Nat.blt pc 90 then (bif Nat.blt pc 89 then (bif Nat.beq pc 86 then some (.if_icmp .ne 14, 100, 0) else none) else (bif Nat.beq pc 89 then some (.aload_n 0, 0, 0) else none)) else (bif Nat.blt pc 91 then (bif Nat.beq pc 90 then some (.aload_n 0, 0, 0) else none) else (bif Nat.blt pc 94 then (bif Nat.beq pc 91 then some (.getfield 136, 0, 0) else none) else (bif Nat.beq pc 94 then some (.invokevirtual 97, 0, 0) else none)))) else (bif Nat.blt pc 101 then (bif Nat.blt pc 100 then (bif Nat.beq pc 97 then some (.goto 65, 162, 0) else none) else (bif Nat.beq pc 100 then some (.iload_n 1, 0, 0) else none)) else (bif Nat.blt pc 103 then (bif Nat.beq pc 101 then some (.bipush 45, 0, 45) else none) else (bif Nat.blt pc 106 then (bif Nat.beq pc 103 then some (.if_icmp .ne 14, 117, 0) else none) else (bif Nat.beq pc 106 then some (.aload_n 0, 0, 0) else none))))) else (bif Nat.blt pc 118 then (bif Nat.blt pc 111 then (bif Nat.blt pc 108 then (bif Nat.beq pc 107 then some (.aload_n 0, 0, 0) else none) else (bif Nat.beq pc 108 then some (.getfield 136, 0, 0) else none)) else (bif Nat.blt pc 114 then (bif Nat.beq pc 111 then some (.invokevirtual 103, 0, 0) else none) else (bif Nat.blt pc 117 then (bif Nat.beq pc 114 then some (.goto 48, 162, 0) else none) else (bif Nat.beq pc 117 then some (.iload_n 1, 0, 0) else none)))) else (bif Nat.blt pc 124 then (bif Nat.blt pc 120 then (bif Nat.beq pc 118 then some (.bipush 104, 0, 104) else none) else (bif Nat.blt pc 123 then (bif Nat.beq pc 120 then some (.if_icmp .ne 14, 134, 0) else none) else (bif Nat.beq pc 123 then some (.aload_n 0, 0, 0) else none))) else (bif Nat.blt pc 125 then (bif Nat.beq pc 124 then some (.aload_n 0, 0, 0) else none) else (bif Nat.blt pc 128 then (bif Nat.beq pc 125 then some (.getfield 136, 0, 0) else none) else (bif Nat.beq pc 128 then some (.invokevirtual 115, 0, 0) else none)))))) else (bif Nat.blt pc 152 then (bif Nat.blt pc 141 then (bif Nat.blt pc 135 then (bif Nat.blt pc 134 then (bif Nat.beq pc 131 then some (.goto 31, 162, 0) else none) else (bif Nat.beq pc 134 then some (.iload_n 1, 0, 0) else none)) else (bif Nat.blt pc 137 then (bif Nat.beq pc 135 then some (.bipush 102, 0, 102) else none) else (bif Nat.blt pc 140 then (bif Nat.beq pc 137 then some (.if_icmp .ne 21, 158, 0) else none) else (bif Nat.beq pc 140 then some (.aload_n 0, 0, 0) else none)))) else (bif Nat.blt pc 147 then (bif Nat.blt pc 143 then (bif Nat.beq pc 141 then some (.bipush 40, 0, 40) else none) else (bif Nat.blt pc 144 then (bif Nat.beq pc 143 then some (.aload_n 0, 0, 0) else none) else (bif Nat.beq pc 144 then some (.getfield 136, 0, 0) else none))) else (bif Nat.blt pc 148 then (bif Nat.beq pc 147 then some (.iadd, 0, 0) else none) else (bif Nat.blt pc 149 then (bif Nat.beq pc 148 then some (.aload_n 0, 0, 0) else none) else (bif Nat.beq pc 149 then some (.getfield 139, 0, 0) else none))))) else (bif Nat.blt pc 163 then (bif Nat.blt pc 158 then (bif Nat.blt pc 155 then (bif Nat.beq pc 152 then some (.invokevirtual 90, 0, 0) else none) else (bif Nat.beq pc 155 then some (.goto 7, 162, 0) else none)) else (bif Nat.blt pc 159 then (bif Nat.beq pc 158 then some (.aload_n 0, 0, 0) else none) else (bif Nat.blt pc 162 then (bif Nat.beq pc 159 then some (.invokevirtual 106, 0, 0) else none) else (bif Nat.beq pc 162 then some (.istore_n 3, 0, 0) else none)))) else (bif Nat.blt pc 168 then (bif Nat.blt pc 164 then (bif Nat.beq pc 163 then some (.iload_n 2, 0, 0) else none) else (bif Nat.blt pc 167 then (bif Nat.beq pc 164 then some (.ifCond .ne 7, 171, 0) else none) else (bif Nat.beq pc 167 then some (.iconst 1, 0, 1) else none))) else (bif Nat.blt pc 171 then (bif Nat.beq pc 168 then some (.goto 4, 172, 0) else none) else (bif Nat.blt pc 172 then (bif Nat.beq pc 171 then some (.iconst 0, 0, 0) else none) else (bif Nat.beq pc 172 then some (.ireturn, 0, 0) else none)))))))
def z_c105 (pc : Nat) : Option (Instr × Nat × Int32) := bif Nat.blt pc 54 then (bif Nat.blt pc 26 then (bif Nat.blt pc 12 then (bif Nat.blt pc 6 then (bif Nat.blt pc 2 then (bif Nat.blt pc 1 then (bif Nat.beq pc 0 then some (.aload_n 0, 0, 0) else none) else (bif Nat.beq pc 1 then some (.iconst 0, 0, 0) else none)) else (bif Nat.blt pc 5 then (bif Nat.beq pc 2 then some (.putfield 121, 0, 0) else none) else (bif Nat.beq pc 5 then some (.aload_n 0, 0, 0) else none))) else (bif Nat.blt pc 10 then (bif Nat.blt pc 7 then (bif Nat.beq pc 6 then some (.iconst 0, 0, 0) else none) else (bif Nat.beq pc 7 then some (.putfield 124, 0, 0) else none)) else (bif Nat.blt pc 11 then (bif Nat.beq pc 10 then some (.iconst 0, 0, 0) else none) else (bif Nat.beq pc 11 then some (.istore_n 2, 0, 0) else none)))) else (bif Nat.blt pc 18 then (bif Nat.blt pc 14 then (bif Nat.blt pc 13 then (bif Nat.beq pc 12 then some (.iconst 1, 0, 1) else none) else (bif Nat.beq pc 13 then some (.istore_n 3, 0, 0) else none)) else (bif Nat.blt pc 15 then (bif Nat.beq pc 14 then some (.iload_n 3, 0, 0) else none) else (bif Nat.beq pc 15 then some (.ifCond .eq 101, 116, 0) else none))) else (bif Nat.blt pc 22 then (bif Nat.blt pc 19 then (bif Nat.beq pc 18 then some (.aload_n 0, 0, 0) else none) else (bif Nat.beq pc 19 then some (.invokevirtual 142, 0, 0) else none)) else (bif Nat.blt pc 23 then (bif Nat.beq pc 22 then some (.iload_n 1, 0, 0) else none) else (bif Nat.beq pc 23 then some (.ifCond .eq 14, 37, 0) else none))))) else (bif Nat.blt pc 41 then (bif Nat.blt pc 34 then (bif Nat.blt pc 30 then (bif Nat.blt pc 27 then (bif Nat.beq pc 26 then some (.aload_n 0, 0, 0) else none) else (bif Nat.beq pc 27 then some (.invokevirtual 145, 0, 0) else none)) else (bif Nat.blt pc 33 then (bif Nat.beq pc 30 then some (.ifCond .eq 7, 37, 0) else none) else (bif Nat.beq pc 33 then some (.iconst 1, 0, 1) else none))) else (bif Nat.blt pc 38 then (bif Nat.blt pc 37 then (bif Nat.beq pc 34 then some (.goto 4, 38, 0) else none) else (bif Nat.beq pc 37 then some (.iconst 0, 0, 0) else none)) else (bif Nat.blt pc 40 then (bif Nat.beq pc 38 then some (.istore 4, 0, 0) else none) else (bif Nat.beq pc 40 then some (.iload_n 2, 0, 0) else none)))) else (bif Nat.blt pc 50 then (bif Nat.blt pc 46 then (bif Nat.blt pc 43 then (bif Nat.beq pc 41 then some (.iload 4, 0, 0) else none) else (bif Nat.beq pc 43 then some (.ifCond .eq 7, 50, 0) else none)) else (bif Nat.blt pc 47 then (bif Nat.beq pc 46 then some (.iconst 1, 0, 1) else none) else (bif Nat.beq pc 47 then some (.goto 4, 51, 0) else none))) else (bif Nat.blt pc 52 then (bif Nat.blt pc 51 then (bif Nat.beq pc 50 then some (.iconst 0, 0, 0) else none) else (bif Nat.beq pc 51 then some (.iadd, 0, 0) else none)) else (bif Nat.blt pc 53 then (bif Nat.beq pc 52 then some (.istore_n 2, 0, 0) else none) else (bif Nat.beq pc 53 then some (.aload_n 0, 0, 0) else none)))))) else (bif Nat.blt pc 87 then (bif Nat.blt pc 73 then (bif Nat.blt pc 65 then (bif Nat.blt pc 60 then (bif Nat.blt pc 57 then (bif Nat.beq pc 54 then some (.getfield 124, 0, 0) else none) else (bif Nat.beq pc 57 then some (.ifCond .ne 27, 84, 0) else none)) else (bif Nat.blt pc 62 then (bif Nat.beq pc 60 then some (.iload 4, 0, 0) else none) else (bif Nat.beq pc 62 then some (.ifCond .ne 7, 69, 0) else none))) else (bif Nat.blt pc 69 then (bif Nat.blt pc 66 then (bif Nat.beq pc 65 then some (.iload_n 1, 0, 0) else none) else (bif Nat.beq pc 66 then some (.ifCond .ne 18, 84, 0) else none)) else (bif Nat.blt pc 70 then (bif Nat.beq pc 69 then some (.aload_n 0, 0, 0) else none) else (bif Nat.beq pc 70 then some (.getfield 121, 0, 0) else none)))) else (bif Nat.blt pc 81 then (bif Nat.blt pc 77 then (bif Nat.blt pc 74 then (bif Nat.beq pc 73 then some (.aload_n 0, 0, 0) else none) else (bif Nat.beq pc 74 then some (.getfield 118, 0, 0) else none)) else (bif Nat.blt pc 80 then (bif Nat.beq pc 77 then some (.if_icmp .ge 7, 84, 0) else none) else (bif Nat.beq pc 80 then some (.iconst 1, 0, 1) else none))) else (bif Nat.blt pc 85 then (bif Nat.blt pc 84 then (bif Nat.beq pc 81 then some (.goto 4, 85, 0) else none) else (bif Nat.beq pc 84 then some (.iconst 0, 0, 0) else none)) else (bif Nat.blt pc 86 then (bif Nat.beq pc 85 then some (.istore_n 3, 0, 0) else none) else (bif Nat.beq pc 86 then some (.iload_n 3, 0, 0) else none))))) else (bif Nat.blt pc 104 then (bif Nat.blt pc 95 then (bif Nat.blt pc 91 then (bif Nat.blt pc 90 then (bif Nat.beq pc 87 then some (.ifCond .eq 26, 113, 0) else none) else (bif Nat.beq pc 90 then some (.aload_n 0, 0, 0) else none)) else (bif Nat.blt pc 93 then (bif Nat.beq pc 91 then some (.bipush 59, 0, 59) else none) else (bif Nat.beq pc 93 then some (.bipush 59, 0, 59) else none))) else (bif Nat.blt pc 100 then (bif Nat.blt pc 98 then (bif Nat.beq pc 95 then some (.invokevirtual 127, 0, 0) else none) else (bif Nat.beq pc 98 then some (.istore 5, 0, 0) else none)) else (bif Nat.blt pc 101 then (bif Nat.beq pc 100 then some (.aload_n 0, 0, 0) else none) else (bif Nat.beq pc 101 then some (.getfield 124, 0, 0) else none)))) else (bif Nat.blt pc 112 then (bif Nat.blt pc 108 then (bif Nat.blt pc 107 then (bif Nat.beq pc 104 then some (.ifCond .ne 7, 111, 0) else none) else (bif Nat.beq pc 107 then some (.iconst 1, 0, 1) else none)) else (bif Nat.blt pc 111 then (bif Nat.beq pc 108 then some (.goto 4, 112, 0) else none) else (bif Nat.beq pc 111 then some (.iconst 0, 0, 0) else none))) else (bif Nat.blt pc 116 then (bif Nat.blt pc 113 then (bif Nat.beq pc 112 then some (.istore_n 3, 0, 0) else none) else (bif Nat.beq pc 113 then some (.goto (-99), 14, 0) else none)) else (bif Nat.blt pc 117 then (bif Nat.beq pc 116 then some (.iload_n 2, 0, 0) else none) else (bif Nat.beq pc 117 then some (.ireturn, 0, 0) else none))))))
def z_c106 (pc : Nat) : Option (Instr × Nat × Int32) := bif Nat.blt pc 12 then (bif Nat.blt pc 6 then (bif Nat.blt pc 2 then (bif Nat.blt pc 1 then (bif Nat.beq pc 0 then some (.aload_n 0, 0, 0) else none) else (bif Nat.beq pc 1 then some (.iconst 0, 0, 0) else none)) else (bif Nat.blt pc 5 then (bif Nat.beq pc 2 then some (.putfield 25, 0, 0) else none) else (bif Nat.beq pc 5 then some (.aload_n 0, 0, 0) else none))) else (bif Nat.blt pc 10 then (bif Nat.blt pc 7 then (bif Nat.beq pc 6 then some (.iconst 0, 0, 0) else none) else (bif Nat.beq pc 7 then some (.invokevirtual 149, 0, 0) else none)) else (bif Nat.blt pc 11 then (bif Nat.beq pc 10 then some (.istore_n 1, 0, 0) else none) else (bif Nat.beq pc 11 then some (.aload_n 0, 0, 0) else none)))) else (bif Nat.blt pc 22 then (bif Nat.blt pc 18 then (bif Nat.blt pc 15 then (bif Nat.beq pc 12 then some (.getfield 124, 0, 0) else none) else (bif Nat.beq pc 15 then some (.ifCond .eq 10, 25, 0) else none)) else (bif Nat.blt pc 19 then (bif Nat.beq pc 18 then some (.aload_n 0, 0, 0) else none) else (bif Nat.beq pc 19 then some (.getfield 121, 0, 0) else none))) else (bif Nat.blt pc 26 then (bif Nat.blt pc 25 then (bif Nat.beq pc 22 then some (.goto 7, 29, 0) else none) else (bif Nat.beq pc 25 then some (.aload_n 0, 0, 0) else none)) else (bif Nat.blt pc 29 then (bif Nat.beq pc 26 then some (.getfield 118, 0, 0) else none) else (bif Nat.beq pc 29 then some (.ireturn, 0, 0) else none))))
def z_c107 (pc : Nat) : Option (Instr × Nat × Int32) := bif Nat.blt pc 25 then (bif Nat.blt pc 8 then (bif Nat.blt pc 5 then (bif Nat.blt pc 1 then (bif Nat.beq pc 0 then some (.aload_n 0, 0, 0) else none) else (bif Nat.blt pc 2 then (bif Nat.beq pc 1 then some (.iconst 0, 0, 0) else none) else (bif Nat.beq pc 2 then some (.invokevirtual 149, 0, 0) else none))) else (bif Nat.blt pc 6 then (bif Nat.beq pc 5 then some (.istore_n 1, 0, 0) else none) else (bif Nat.blt pc 7 then (bif Nat.beq pc 6 then some (.aload_n 0, 0, 0) else none) else (bif Nat.beq pc 7 then some (.aload_n 0, 0, 0) else none)))) else (bif Nat.blt pc 15 then (bif Nat.blt pc 11 then (bif Nat.beq pc 8 then some (.getfield 124, 0, 0) else none) else (bif Nat.blt pc 14 then (bif Nat.beq pc 11 then some (.ifCond .eq 7, 18, 0) else none) else (bif Nat.beq pc 14 then some (.iconst 1, 0, 1) else none))) else (bif Nat.blt pc 19 then (bif Nat.blt pc 18 then (bif Nat.beq pc 15 then some (.goto 4, 19, 0) else none) else (bif Nat.beq pc 18 then some (.iconst 0, 0, 0) else none)) else (bif Nat.blt pc 22 then (bif Nat.beq pc 19 then some (.invokevirtual 84, 0, 0) else none) else (bif Nat.beq pc 22 then some (.ifCond .ne 5, 27, 0) else none))))) else (bif Nat.blt pc 33 then (bif Nat.blt pc 28 then (bif Nat.blt pc 26 then (bif Nat.beq pc 25 then some (.iconst 0, 0, 0) else none) else (bif Nat.blt pc 27 then (bif Nat.beq pc 26 then some (.ireturn, 0, 0) else none) else (bif Nat.beq pc 27 then some (.aload_n 0, 0, 0) else none))) else (bif Nat.blt pc 31 then (bif Nat.beq pc 28 then some (.invokevirtual 87, 0, 0) else none) else (bif Nat.blt pc 32 then (bif Nat.beq pc 31 then some (.aload_n 0, 0, 0) else none) else (bif Nat.beq pc 32 then some (.iconst 1, 0, 1) else none)))) else (bif Nat.blt pc 38 then (bif Nat.blt pc 36 then (bif Nat.beq pc 33 then some (.invokevirtual 149, 0, 0) else none) else (bif Nat.blt pc 37 then (bif Nat.beq pc 36 then some (.istore_n 2, 0, 0) else none) else (bif Nat.beq pc 37 then some (.aload_n 0, 0, 0) else none))) else (bif Nat.blt pc 42 then (bif Nat.blt pc 39 then (bif Nat.beq pc 38 then some (.iconst 0, 0, 0) else none) else (bif Nat.beq pc 39 then some (.putfield 118, 0, 0) else none)) else (bif Nat.blt pc 43 then (bif Nat.beq pc 42 then some (.iload_n 2, 0, 0) else none) else (bif Nat.beq pc 43 then some (.ireturn, 0, 0) else none)))))
def z_c108 (pc : Nat) : Option (Instr × Nat × Int32) := bif Nat.blt pc 34 then (bif Nat.blt pc 20 then (bif Nat.blt pc 9 then (bif Nat.blt pc 2 then (bif Nat.blt pc 1 then (bif Nat.beq pc 0 then some (.aload_n 0, 0, 0) else none) else (bif Nat.beq pc 1 then some (.aload_n 0, 0, 0) else none)) else (bif Nat.blt pc 5 then (bif Nat.beq pc 2 then some (.getfield 33, 0, 0) else none) else (bif Nat.blt pc 8 then (bif Nat.beq pc 5 then some (.ifCond .le 7, 12, 0) else none) else (bif Nat.beq pc 8 then some (.iconst 0, 0, 0) else none)))) else (bif Nat.blt pc 13 then (bif Nat.blt pc 12 then (bif Nat.beq pc 9 then some (.goto 4, 13, 0) else none) else (bif Nat.beq pc 12 then some (.iconst 1, 0, 1) else none)) else (bif Nat.blt pc 16 then (bif Nat.beq pc 13 then some (.invokevirtual 84, 0, 0) else none) else (bif Nat.blt pc 19 then (bif Nat.beq pc 16 then some (.ifCond .ne 5, 21, 0) else none) else (bif Nat.beq pc 19 then some (.iconst 0, 0, 0) else none))))) else (bif Nat.blt pc 27 then (bif Nat.blt pc 22 then (bif Nat.blt pc 21 then (bif Nat.beq pc 20 then some (.ireturn, 0, 0) else none) else (bif Nat.beq pc 21 then some (.aload_n 0, 0, 0) else none)) else (bif Nat.blt pc 23 then (bif Nat.beq pc 22 then some (.dup, 0, 0) else none) else (bif Nat.blt pc 26 then (bif Nat.beq pc 23 then some (.getfield 33, 0, 0) else none) else (bif Nat.beq pc 26 then some (.iconst 1, 0, 1) else none)))) else (bif Nat.blt pc 31 then (bif Nat.blt pc 28 then (bif Nat.beq pc 27 then some (.isub, 0, 0) else none) else (bif Nat.beq pc 28 then some (.putfield 33, 0, 0) else none)) else (bif Nat.blt pc 32 then (bif Nat.beq pc 31 then some (.iconst 0, 0, 0) else none) else (bif Nat.blt pc 33 then (bif Nat.beq pc 32 then some (.istore_n 1, 0, 0) else none) else (bif Nat.beq pc 33 then some (.iload_n 1, 0, 0) else none)))))) else (bif Nat.blt pc 56 then (bif Nat.blt pc 45 then (bif Nat.blt pc 40 then (bif Nat.blt pc 37 then (bif Nat.beq pc 34 then some (.sipush 376, 0, 376) else none) else (bif Nat.beq pc 37 then some (.if_icmp .ge 30, 67, 0) else none)) else (bif Nat.blt pc 41 then (bif Nat.beq pc 40 then some (.aload_n 0, 0, 0) else none) else (bif Nat.blt pc 44 then (bif Nat.beq pc 41 then some (.getfield 7, 0, 0) else none) else (bif Nat.beq pc 44 then some (.iload_n 1, 0, 0) else none)))) else (bif Nat.blt pc 49 then (bif Nat.blt pc 46 then (bif Nat.beq pc 45 then some (.aload_n 0, 0, 0) else none) else (bif Nat.beq pc 46 then some (.getfield 16, 0, 0) else none)) else (bif Nat.blt pc 52 then (bif Nat.beq pc 49 then some (.sipush 376, 0, 376) else none) else (bif Nat.blt pc 53 then (bif Nat.beq pc 52 then some (.aload_n 0, 0, 0) else none) else (bif Nat.beq pc 53 then some (.getfield 33, 0, 0) else none))))) else (bif Nat.blt pc 61 then (bif Nat.blt pc 58 then (bif Nat.blt pc 57 then (bif Nat.beq pc 56 then some (.imul, 0, 0) else none) else (bif Nat.beq pc 57 then some (.iload_n 1, 0, 0) else none)) else (bif Nat.blt pc 59 then (bif Nat.beq pc 58 then some (.iadd, 0, 0) else none) else (bif Nat.blt pc 60 then (bif Nat.beq pc 59 then some (.iaload, 0, 0) else none) else (bif Nat.beq pc 60 then some (.iastore, 0, 0) else none)))) else (bif Nat.blt pc 67 then (bif Nat.blt pc 64 then (bif Nat.beq pc 61 then some (.iinc 1 1, 0, 1) else none) else (bif Nat.beq pc 64 then some (.goto (-31), 33, 0) else none)) else (bif Nat.blt pc 68 then (bif Nat.beq pc 67 then some (.aload_n 0, 0, 0) else none) else (bif Nat.blt pc 71 then (bif Nat.beq pc 68 then some (.getfield 33, 0, 0) else none) else (bif Nat.beq pc 71 then some (.ireturn, 0, 0) else none))))))
def z_c109 (pc : Nat) : Option (Instr × Nat × Int32) := bif Nat.blt pc 28 then (bif Nat.blt pc 15 then (bif Nat.blt pc 7 then (bif Nat.blt pc 3 then (bif Nat.blt pc 1 then (bif Nat.beq pc 0 then some (.iload_n 2, 0, 0) else none) else (bif Nat.beq pc 1 then some (.bipush 6, 0, 6) else none)) else (bif Nat.blt pc 6 then (bif Nat.beq pc 3 then some (.if_icmp .ne 14, 17, 0) else none) else (bif Nat.beq pc 6 then some (.aload_n 0, 0, 0) else none))) else (bif Nat.blt pc 11 then (bif Nat.blt pc 10 then (bif Nat.beq pc 7 then some (.invokevirtual 153, 0, 0) else none) else (bif Nat.beq pc 10 then some (.aload_n 0, 0, 0) else none)) else (bif Nat.blt pc 14 then (bif Nat.beq pc 11 then some (.getfield 22, 0, 0) else none) else (bif Nat.beq pc 14 then some (.iload_n 1, 0, 0) else none)))) else (bif Nat.blt pc 21 then (bif Nat.blt pc 17 then (bif Nat.blt pc 16 then (bif Nat.beq pc 15 then some (.iaload, 0, 0) else none) else (bif Nat.beq pc 16 then some (.ireturn, 0, 0) else none)) else (bif Nat.blt pc 18 then (bif Nat.beq pc 17 then some (.aload_n 0, 0, 0) else none) else (bif Nat.beq pc 18 then some (.getfield 7, 0, 0) else none))) else (bif Nat.blt pc 24 then (bif Nat.blt pc 22 then (bif Nat.beq pc 21 then some (.iload_n 2, 0, 0) else none) else (bif Nat.beq pc 22 then some (.bipush 6, 0, 6) else none)) else (bif Nat.blt pc 27 then (bif Nat.beq pc 24 then some (.if_icmp .ge 11, 35, 0) else none) else (bif Nat.beq pc 27 then some (.iconst 0, 0, 0) else none))))) else (bif Nat.blt pc 39 then (bif Nat.blt pc 32 then (bif Nat.blt pc 30 then (bif Nat.blt pc 29 then (bif Nat.beq pc 28 then some (.iconst 4, 0, 4) else none) else (bif Nat.beq pc 29 then some (.iload_n 2, 0, 0) else none)) else (bif Nat.blt pc 31 then (bif Nat.beq pc 30 then some (.imul, 0, 0) else none) else (bif Nat.beq pc 31 then some (.iadd, 0, 0) else none))) else (bif Nat.blt pc 37 then (bif Nat.blt pc 35 then (bif Nat.beq pc 32 then some (.goto 12, 44, 0) else none) else (bif Nat.beq pc 35 then some (.bipush 24, 0, 24) else none)) else (bif Nat.blt pc 38 then (bif Nat.beq pc 37 then some (.iconst 4, 0, 4) else none) else (bif Nat.beq pc 38 then some (.iload_n 2, 0, 0) else none)))) else (bif Nat.blt pc 44 then (bif Nat.blt pc 42 then (bif Nat.blt pc 41 then (bif Nat.beq pc 39 then some (.bipush 7, 0, 7) else none) else (bif Nat.beq pc 41 then some (.isub, 0, 0) else none)) else (bif Nat.blt pc 43 then (bif Nat.beq pc 42 then some (.imul, 0, 0) else none) else (bif Nat.beq pc 43 then some (.iadd, 0, 0) else none))) else (bif Nat.blt pc 46 then (bif Nat.blt pc 45 then (bif Nat.beq pc 44 then some (.iload_n 1, 0, 0) else none) else (bif Nat.beq pc 45 then some (.iadd, 0, 0) else none)) else (bif Nat.blt pc 47 then (bif Nat.beq pc 46 then some (.iaload, 0, 0) else none) else (bif Nat.beq pc 47 then some (.ireturn, 0, 0) else none)))))
def z_c110 (pc : Nat) : Option (Instr × Nat × Int32) := bif Nat.blt pc 19 then (bif Nat.blt pc 9 then (bif Nat.blt pc 2 then (bif Nat.blt pc 1 then (bif Nat.beq pc 0 then some (.aload_n 0, 0, 0) else none) else (bif Nat.beq pc 1 then some (.iload_n 1, 0, 0) else none)) else (bif Nat.blt pc 5 then (bif Nat.beq pc 2 then some (.invokestatic 74, 0, 0) else none) else (bif Nat.blt pc 8 then (bif Nat.beq pc 5 then some (.ifCond .eq 17, 22, 0) else none) else (bif Nat.beq pc 8 then some (.iload_n 2, 0, 0) else none)))) else (bif Nat.blt pc 12 then (bif Nat.blt pc 10 then (bif Nat.beq pc 9 then some (.iconst 0, 0, 0) else none) else (bif Nat.beq pc 10 then some (.bipush 8, 0, 8) else none)) else (bif Nat.blt pc 15 then (bif Nat.beq pc 12 then some (.invokestatic 29, 0, 0) else none) else (bif Nat.blt pc 18 then (bif Nat.beq pc 15 then some (.ifCond .eq 7, 22, 0) else none) else (bif Nat.beq pc 18 then some (.iconst 0, 0, 0) else none))))) else (bif Nat.blt pc 30 then (bif Nat.blt pc 23 then (bif Nat.blt pc 22 then (bif Nat.beq pc 19 then some (.goto 4, 23, 0) else none) else (bif Nat.beq pc 22 then some (.iconst 1, 0, 1) else none)) else (bif Nat.blt pc 26 then (bif Nat.beq pc 23 then some (.invokevirtual 84, 0, 0) else none) else (bif Nat.blt pc 29 then (bif Nat.beq pc 26 then some (.ifCond .eq 12, 38, 0) else none) else (bif Nat.beq pc 29 then some (.aload_n 0, 0, 0) else none)))) else (bif Nat.blt pc 35 then (bif Nat.blt pc 31 then (bif Nat.beq pc 30 then some (.iload_n 1, 0, 0) else none) else (bif Nat.blt pc 32 then (bif Nat.beq pc 31 then some (.iload_n 2, 0, 0) else none) else (bif Nat.beq pc 32 then some (.invokevirtual 156, 0, 0) else none))) else (bif Nat.blt pc 38 then (bif Nat.beq pc 35 then some (.goto 4, 39, 0) else none) else (bif Nat.blt pc 39 then (bif Nat.beq pc 38 then some (.iconst 0, 0, 0) else none) else (bif Nat.beq pc 39 then some (.ireturn, 0, 0) else none)))))
def z_c111 (pc : Nat) : Option (Instr × Nat × Int32) := bif Nat.blt pc 27 then (bif Nat.blt pc 12 then (bif Nat.blt pc 5 then (bif Nat.blt pc 1 then (bif Nat.beq pc 0 then some (.iload_n 2, 0, 0) else none) else (bif Nat.blt pc 4 then (bif Nat.beq pc 1 then some (.ifCond .ne 15, 16, 0) else none) else (bif Nat.beq pc 4 then some (.aload_n 0, 0, 0) else none))) else (bif Nat.blt pc 10 then (bif Nat.blt pc 8 then (bif Nat.beq pc 5 then some (.getfield 7, 0, 0) else none) else (bif Nat.beq pc 8 then some (.bipush 40, 0, 40) else none)) else (bif Nat.blt pc 11 then (bif Nat.beq pc 10 then some (.iload_n 1, 0, 0) else none) else (bif Nat.beq pc 11 then some (.iadd, 0, 0) else none)))) else (bif Nat.blt pc 18 then (bif Nat.blt pc 16 then (bif Nat.blt pc 13 then (bif Nat.beq pc 12 then some (.iaload, 0, 0) else none) else (bif Nat.beq pc 13 then some (.goto 34, 47, 0) else none)) else (bif Nat.blt pc 17 then (bif Nat.beq pc 16 then some (.iload_n 1, 0, 0) else none) else (bif Nat.beq pc 17 then some (.aload_n 0, 0, 0) else none))) else (bif Nat.blt pc 23 then (bif Nat.blt pc 21 then (bif Nat.beq pc 18 then some (.getfield 7, 0, 0) else none) else (bif Nat.beq pc 21 then some (.bipush 34, 0, 34) else none)) else (bif Nat.blt pc 24 then (bif Nat.beq pc 23 then some (.iaload, 0, 0) else none) else (bif Nat.beq pc 24 then some (.if_icmp .ge 22, 46, 0) else none))))) else (bif Nat.blt pc 38 then (bif Nat.blt pc 33 then (bif Nat.blt pc 28 then (bif Nat.beq pc 27 then some (.aload_n 0, 0, 0) else none) else (bif Nat.blt pc 31 then (bif Nat.beq pc 28 then some (.getfield 7, 0, 0) else none) else (bif Nat.beq pc 31 then some (.bipush 88, 0, 88) else none))) else (bif Nat.blt pc 36 then (bif Nat.blt pc 35 then (bif Nat.beq pc 33 then some (.bipush 6, 0, 6) else none) else (bif Nat.beq pc 35 then some (.iload_n 1, 0, 0) else none)) else (bif Nat.blt pc 37 then (bif Nat.beq pc 36 then some (.imul, 0, 0) else none) else (bif Nat.beq pc 37 then some (.iadd, 0, 0) else none)))) else (bif Nat.blt pc 42 then (bif Nat.blt pc 40 then (bif Nat.blt pc 39 then (bif Nat.beq pc 38 then some (.iload_n 2, 0, 0) else none) else (bif Nat.beq pc 39 then some (.iadd, 0, 0) else none)) else (bif Nat.blt pc 41 then (bif Nat.beq pc 40 then some (.iconst 1, 0, 1) else none) else (bif Nat.beq pc 41 then some (.isub, 0, 0) else none))) else (bif Nat.blt pc 46 then (bif Nat.blt pc 43 then (bif Nat.beq pc 42 then some (.iaload, 0, 0) else none) else (bif Nat.beq pc 43 then some (.goto 4, 47, 0) else none)) else (bif Nat.blt pc 47 then (bif Nat.beq pc 46 then some (.iconst (-1), 0, (-1)) else none) else (bif Nat.beq pc 47 then some (.ireturn, 0, 0) else none)))))
def z_c112 (pc : Nat) : Option (Instr × Nat × Int32) := bif Nat.blt pc 21 then (bif Nat.blt pc 8 then (bif Nat.blt pc 2 then (bif Nat.blt pc 1 then (bif Nat.beq pc 0 then some (.aload_n 0, 0, 0) else none) else (bif Nat.beq pc 1 then some (.iload_n 1, 0, 0) else none)) else (bif Nat.blt pc 3 then (bif Nat.beq pc 2 then some (.iconst 0, 0, 0) else none) else (bif Nat.blt pc 5 then (bif Nat.beq pc 3 then some (.bipush 47, 0, 47) else none) else (bif Nat.beq pc 5 then some (.invokestatic 29, 0, 0) else none)))) else (bif Nat.blt pc 13 then (bif Nat.blt pc 11 then (bif Nat.beq pc 8 then some (.ifCond .eq 17, 25, 0) else none) else (bif Nat.blt pc 12 then (bif Nat.beq pc 11 then some (.iload_n 2, 0, 0) else none) else (bif Nat.beq pc 12 then some (.iconst 0, 0, 0) else none))) else (bif Nat.blt pc 15 then (bif Nat.beq pc 13 then some (.bipush 6, 0, 6) else none) else (bif Nat.blt pc 18 then (bif Nat.beq pc 15 then some (.invokestatic 29, 0, 0) else none) else (bif Nat.beq pc 18 then some (.ifCond .eq 7, 25, 0) else none))))) else (bif Nat.blt pc 33 then (bif Nat.blt pc 26 then (bif Nat.blt pc 22 then (bif Nat.beq pc 21 then some (.iconst 0, 0, 0) else none) else (bif Nat.blt pc 25 then (bif Nat.beq pc 22 then some (.goto 4, 26, 0) else none) else (bif Nat.beq pc 25 then some (.iconst 1, 0, 1) else none))) else (bif Nat.blt pc 29 then (bif Nat.beq pc 26 then some (.invokevirtual 84, 0, 0) else none) else (bif Nat.blt pc 32 then (bif Nat.beq pc 29 then some (.ifCond .eq 12, 41, 0) else none) else (bif Nat.beq pc 32 then some (.aload_n 0, 0, 0) else none)))) else (bif Nat.blt pc 38 then (bif Nat.blt pc 34 then (bif Nat.beq pc 33 then some (.iload_n 1, 0, 0) else none) else (bif Nat.blt pc 35 then (bif Nat.beq pc 34 then some (.iload_n 2, 0, 0) else none) else (bif Nat.beq pc 35 then some (.invokevirtual 159, 0, 0) else none))) else (bif Nat.blt pc 41 then (bif Nat.beq pc 38 then some (.goto 4, 42, 0) else none) else (bif Nat.blt pc 42 then (bif Nat.beq pc 41 then some (.iconst 0, 0, 0) else none) else (bif Nat.beq pc 42 then some (.ireturn, 0, 0) else none)))))
def z_c113 (pc : Nat) : Option (Instr × Nat × Int32) := bif Nat.blt pc 16 then (bif Nat.blt pc 8 then (bif Nat.blt pc 4 then (bif Nat.blt pc 1 then (bif Nat.beq pc 0 then some (.aload_n 0, 0, 0) else none) else (bif Nat.beq pc 1 then some (.getfield 7, 0, 0) else none)) else (bif Nat.blt pc 6 then (bif Nat.beq pc 4 then some (.bipush 24, 0, 24) else none) else (bif Nat.blt pc 7 then (bif Nat.beq pc 6 then some (.iaload, 0, 0) else none) else (bif Nat.beq pc 7 then some (.aload_n 0, 0, 0) else none)))) else (bif Nat.blt pc 13 then (bif Nat.blt pc 11 then (bif Nat.beq pc 8 then some (.getfield 7, 0, 0) else none) else (bif Nat.beq pc 11 then some (.bipush 25, 0, 25) else none)) else (bif Nat.blt pc 14 then (bif Nat.beq pc 13 then some (.iaload, 0, 0) else none) else (bif Nat.blt pc 15 then (bif Nat.beq pc 14 then some (.iadd, 0, 0) else none) else (bif Nat.beq pc 15 then some (.aload_n 0, 0, 0) else none))))) else (bif Nat.blt pc 24 then (bif Nat.blt pc 21 then (bif Nat.blt pc 19 then (bif Nat.beq pc 16 then some (.getfield 7, 0, 0) else none) else (bif Nat.beq pc 19 then some (.bipush 26, 0, 26) else none)) else (bif Nat.blt pc 22 then (bif Nat.beq pc 21 then some (.iaload, 0, 0) else none) else (bif Nat.blt pc 23 then (bif Nat.beq pc 22 then some (.iadd, 0, 0) else none) else (bif Nat.beq pc 23 then some (.aload_n 0, 0, 0) else none)))) else (bif Nat.blt pc 29 then (bif Nat.blt pc 27 then (bif Nat.beq pc 24 then some (.getfield 7, 0, 0) else none) else (bif Nat.beq pc 27 then some (.bipush 27, 0, 27) else none)) else (bif Nat.blt pc 30 then (bif Nat.beq pc 29 then some (.iaload, 0, 0) else none) else (bif Nat.blt pc 31 then (bif Nat.beq pc 30 then some (.iadd, 0, 0) else none) else (bif Nat.beq pc 31 then some (.ireturn, 0, 0) else none)))))
def z_c114 (pc : Nat) : Option (Instr × Nat × Int32) := bif Nat.blt pc 17 then (bif Nat.blt pc 6 then (bif Nat.blt pc 3 then (bif Nat.blt pc 1 then (bif Nat.beq pc 0 then some (.iconst 0, 0, 0) else none) else (bif Nat.blt pc 2 then (bif Nat.beq pc 1 then some (.istore_n 1, 0, 0) else none) else (bif Nat.beq pc 2 then some (.iconst 0, 0, 0) else none))) else (bif Nat.blt pc 4 then (bif Nat.beq pc 3 then some (.istore_n 2, 0, 0) else none) else (bif Nat.blt pc 5 then (bif Nat.beq pc 4 then some (.iload_n 2, 0, 0) else none) else (bif Nat.beq pc 5 then some (.iconst 4, 0, 4) else none)))) else (bif Nat.blt pc 11 then (bif Nat.blt pc 9 then (bif Nat.beq pc 6 then some (.if_icmp .ge 30, 36, 0) else none) else (bif Nat.blt pc 10 then (bif Nat.beq pc 9 then some (.iload_n 1, 0, 0) else none) else (bif Nat.beq pc 10 then some (.aload_n 0, 0, 0) else none))) else (bif Nat.blt pc 14 then (bif Nat.beq pc 11 then some (.getfield 7, 0, 0) else none) else (bif Nat.blt pc 16 then (bif Nat.beq pc 14 then some (.bipush 16, 0, 16) else none) else (bif Nat.beq pc 16 then some (.iload_n 2, 0, 0) else none))))) else (bif Nat.blt pc 27 then (bif Nat.blt pc 20 then (bif Nat.blt pc 18 then (bif Nat.beq pc 17 then some (.iadd, 0, 0) else none) else (bif Nat.blt pc 19 then (bif Nat.beq pc 18 then some (.iaload, 0, 0) else none) else (bif Nat.beq pc 19 then some (.iconst 1, 0, 1) else none))) else (bif Nat.blt pc 23 then (bif Nat.beq pc 20 then some (.if_icmp .ne 7, 27, 0) else none) else (bif Nat.blt pc 24 then (bif Nat.beq pc 23 then some (.iconst 1, 0, 1) else none) else (bif Nat.beq pc 24 then some (.goto 4, 28, 0) else none)))) else (bif Nat.blt pc 30 then (bif Nat.blt pc 28 then (bif Nat.beq pc 27 then some (.iconst 0, 0, 0) else none) else (bif Nat.blt pc 29 then (bif Nat.beq pc 28 then some (.iadd, 0, 0) else none) else (bif Nat.beq pc 29 then some (.istore_n 1, 0, 0) else none))) else (bif Nat.blt pc 36 then (bif Nat.blt pc 33 then (bif Nat.beq pc 30 then some (.iinc 2 1, 0, 1) else none) else (bif Nat.beq pc 33 then some (.goto (-29), 4, 0) else none)) else (bif Nat.blt pc 37 then (bif Nat.beq pc 36 then some (.iload_n 1, 0, 0) else none) else (bif Nat.beq pc 37 then some (.ireturn, 0, 0) else none)))))
def z_c115 (pc : Nat) : Option (Instr × Nat × Int32) := bif Nat.blt pc 115 then (bif Nat.blt pc 92 then (bif Nat.blt pc 80 then (bif Nat.blt pc 5 then (bif Nat.blt pc 1 then (bif Nat.beq pc 0 then some (.aload_n 0, 0, 0) else none) else (bif Nat.blt pc 4 then (bif Nat.beq pc 1 then some (.invokevirtual 153, 0, 0) else none) else (bif Nat.beq pc 4 then some (.iload_n 1, 0, 0) else none))) else (bif Nat.blt pc 76 then (bif Nat.beq pc 5 then some (.tableswitch 147 0 13 #[71, 79, 87, 92, 101, 106, 111, 116, 129, 129, 129, 129, 129, 142], 0, 0) else none) else (bif Nat.blt pc 77 then (bif Nat.beq pc 76 then some (.aload_n 0, 0, 0) else none) else (bif Nat.beq pc 77 then some (.getfield 7, 0, 0) else none)))) else (bif Nat.blt pc 84 then (bif Nat.blt pc 82 then (bif Nat.beq pc 80 then some (.bipush 34, 0, 34) else none) else (bif Nat.blt pc 83 then (bif Nat.beq pc 82 then some (.iaload, 0, 0) else none) else (bif Nat.beq pc 83 then some (.ireturn, 0, 0) else none))) else (bif Nat.blt pc 88 then (bif Nat.blt pc 85 then (bif Nat.beq pc 84 then some (.aload_n 0, 0, 0) else none) else (bif Nat.beq pc 85 then some (.invokevirtual 67, 0, 0) else none)) else (bif Nat.blt pc 91 then (bif Nat.beq pc 88 then some (.invokestatic 78, 0, 0) else none) else (bif Nat.beq pc 91 then some (.ireturn, 0, 0) else none))))) else (bif Nat.blt pc 102 then (bif Nat.blt pc 97 then (bif Nat.blt pc 93 then (bif Nat.beq pc 92 then some (.aload_n 0, 0, 0) else none) else (bif Nat.blt pc 96 then (bif Nat.beq pc 93 then some (.invokevirtual 162, 0, 0) else none) else (bif Nat.beq pc 96 then some (.ireturn, 0, 0) else none))) else (bif Nat.blt pc 98 then (bif Nat.beq pc 97 then some (.aload_n 0, 0, 0) else none) else (bif Nat.blt pc 99 then (bif Nat.beq pc 98 then some (.aload_n 0, 0, 0) else none) else (bif Nat.beq pc 99 then some (.invokevirtual 60, 0, 0) else none)))) else (bif Nat.blt pc 107 then (bif Nat.blt pc 105 then (bif Nat.beq pc 102 then some (.invokevirtual 64, 0, 0) else none) else (bif Nat.blt pc 106 then (bif Nat.beq pc 105 then some (.ireturn, 0, 0) else none) else (bif Nat.beq pc 106 then some (.aload_n 0, 0, 0) else none))) else (bif Nat.blt pc 111 then (bif Nat.blt pc 110 then (bif Nat.beq pc 107 then some (.getfield 47, 0, 0) else none) else (bif Nat.beq pc 110 then some (.ireturn, 0, 0) else none)) else (bif Nat.blt pc 112 then (bif Nat.beq pc 111 then some (.aload_n 0, 0, 0) else none) else (bif Nat.beq pc 112 then some (.getfield 40, 0, 0) else none)))))) else (bif Nat.blt pc 138 then (bif Nat.blt pc 125 then (bif Nat.blt pc 120 then (bif Nat.blt pc 116 then (bif Nat.beq pc 115 then some (.ireturn, 0, 0) else none) else (bif Nat.blt pc 117 then (bif Nat.beq pc 116 then some (.aload_n 0, 0, 0) else none) else (bif Nat.beq pc 117 then some (.getfield 50, 0, 0) else none))) else (bif Nat.blt pc 121 then (bif Nat.beq pc 120 then some (.ireturn, 0, 0) else none) else (bif Nat.blt pc 122 then (bif Nat.beq pc 121 then some (.aload_n 0, 0, 0) else none) else (bif Nat.beq pc 122 then some (.getfield 53, 0, 0) else none)))) else (bif Nat.blt pc 132 then (bif Nat.blt pc 128 then (bif Nat.beq pc 125 then some (.ifCond .eq 7, 132, 0) else none) else (bif Nat.blt pc 129 then (bif Nat.beq pc 128 then some (.iconst 1, 0, 1) else none) else (bif Nat.beq pc 129 then some (.goto 4, 133, 0) else none))) else (bif Nat.blt pc 134 then (bif Nat.blt pc 133 then (bif Nat.beq pc 132 then some (.iconst 0, 0, 0) else none) else (bif Nat.beq pc 133 then some (.ireturn, 0, 0) else none)) else (bif Nat.blt pc 135 then (bif Nat.beq pc 134 then some (.aload_n 0, 0, 0) else none) else (bif Nat.beq pc 135 then some (.getfield 7, 0, 0) else none))))) else (bif Nat.blt pc 146 then (bif Nat.blt pc 142 then (bif Nat.blt pc 140 then (bif Nat.beq pc 138 then some (.bipush 35, 0, 35) else none) else (bif Nat.blt pc 141 then (bif Nat.beq pc 140 then some (.iload_n 1, 0, 0) else none) else (bif Nat.beq pc 141 then some (.iadd, 0, 0) else none))) else (bif Nat.blt pc 144 then (bif Nat.beq pc 142 then some (.bipush 8, 0, 8) else none) else (bif Nat.blt pc 145 then (bif Nat.beq pc 144 then some (.isub, 0, 0) else none) else (bif Nat.beq pc 145 then some (.iaload, 0, 0) else none)))) else (bif Nat.blt pc 151 then (bif Nat.blt pc 147 then (bif Nat.beq pc 146 then some (.ireturn, 0, 0) else none) else (bif Nat.blt pc 148 then (bif Nat.beq pc 147 then some (.aload_n 0, 0, 0) else none) else (bif Nat.beq pc 148 then some (.invokevirtual 165, 0, 0) else none))) else (bif Nat.blt pc 153 then (bif Nat.blt pc 152 then (bif Nat.beq pc 151 then some (.ireturn, 0, 0) else none) else (bif Nat.beq pc 152 then some (.aload_n 0, 0, 0) else none)) else (bif Nat.blt pc 156 then (bif Nat.beq pc 153 then some (.getfield 33, 0, 0) else none) else (bif Nat.beq pc 156 then some (.ireturn, 0, 0) else none))))))
def z_c116 (pc : Nat) : Option (Instr × Nat × Int32) := bif Nat.blt pc 15 then (bif Nat.blt pc 5 then (bif Nat.blt pc 2 then (bif Nat.blt pc 1 then (bif Nat.beq pc 0 then some (.aload_n 0, 0, 0) else none) else (bif Nat.beq pc 1 then some (.iload_n 1, 0, 0) else none)) else (bif Nat.blt pc 3 then (bif Nat.beq pc 2 then some (.iconst 0, 0, 0) else none) else (bif Nat.beq pc 3 then some (.bipush 14, 0, 14) else none))) else (bif Nat.blt pc 11 then (bif Nat.blt pc 8 then (bif Nat.beq pc 5 then some (.invokestatic 29, 0, 0) else none) else (bif Nat.beq pc 8 then some (.ifCond .eq 7, 15, 0) else none)) else (bif Nat.blt pc 12 then (bif Nat.beq pc 11 then some (.iconst 0, 0, 0) else none) else (bif Nat.beq pc 12 then some (.goto 4, 16, 0) else none)))) else (bif Nat.blt pc 23 then (bif Nat.blt pc 19 then (bif Nat.blt pc 16 then (bif Nat.beq pc 15 then some (.iconst 1, 0, 1) else none) else (bif Nat.beq pc 16 then some (.invokevirtual 84, 0, 0) else none)) else (bif Nat.blt pc 22 then (bif Nat.beq pc 19 then some (.ifCond .eq 11, 30, 0) else none) else (bif Nat.beq pc 22 then some (.aload_n 0, 0, 0) else none))) else (bif Nat.blt pc 27 then (bif Nat.blt pc 24 then (bif Nat.beq pc 23 then some (.iload_n 1, 0, 0) else none) else (bif Nat.beq pc 24 then some (.invokevirtual 168, 0, 0) else none)) else (bif Nat.blt pc 30 then (bif Nat.beq pc 27 then some (.goto 4, 31, 0) else none) else (bif Nat.blt pc 31 then (bif Nat.beq pc 30 then some (.iconst 0, 0, 0) else none) else (bif Nat.beq pc 31 then some (.ireturn, 0, 0) else none)))))
def z_c117 (pc : Nat) : Option (Instr × Nat × Int32) := bif Nat.blt pc 18 then (bif Nat.blt pc 7 then (bif Nat.blt pc 2 then (bif Nat.blt pc 1 then (bif Nat.beq pc 0 then some (.aload_n 0, 0, 0) else none) else (bif Nat.beq pc 1 then some (.iload_n 1, 0, 0) else none)) else (bif Nat.blt pc 3 then (bif Nat.beq pc 2 then some (.iconst 0, 0, 0) else none) else (bif Nat.blt pc 4 then (bif Nat.beq pc 3 then some (.iconst 1, 0, 1) else none) else (bif Nat.beq pc 4 then some (.invokestatic 29, 0, 0) else none)))) else (bif Nat.blt pc 11 then (bif Nat.blt pc 10 then (bif Nat.beq pc 7 then some (.ifCond .eq 7, 14, 0) else none) else (bif Nat.beq pc 10 then some (.iconst 0, 0, 0) else none)) else (bif Nat.blt pc 14 then (bif Nat.beq pc 11 then some (.goto 4, 15, 0) else none) else (bif Nat.blt pc 15 then (bif Nat.beq pc 14 then some (.iconst 1, 0, 1) else none) else (bif Nat.beq pc 15 then some (.invokevirtual 84, 0, 0) else none))))) else (bif Nat.blt pc 28 then (bif Nat.blt pc 22 then (bif Nat.blt pc 21 then (bif Nat.beq pc 18 then some (.ifCond .eq 15, 33, 0) else none) else (bif Nat.beq pc 21 then some (.aload_n 0, 0, 0) else none)) else (bif Nat.blt pc 25 then (bif Nat.beq pc 22 then some (.getfield 7, 0, 0) else none) else (bif Nat.blt pc 27 then (bif Nat.beq pc 25 then some (.bipush 32, 0, 32) else none) else (bif Nat.beq pc 27 then some (.iload_n 1, 0, 0) else none)))) else (bif Nat.blt pc 30 then (bif Nat.blt pc 29 then (bif Nat.beq pc 28 then some (.iadd, 0, 0) else none) else (bif Nat.beq pc 29 then some (.iaload, 0, 0) else none)) else (bif Nat.blt pc 33 then (bif Nat.beq pc 30 then some (.goto 4, 34, 0) else none) else (bif Nat.blt pc 34 then (bif Nat.beq pc 33 then some (.iconst 0, 0, 0) else none) else (bif Nat.beq pc 34 then some (.ireturn, 0, 0) else none)))))
def z_c118 (pc : Nat) : Option (Instr × Nat × Int32) := bif Nat.blt pc 15 then (bif Nat.blt pc 6 then (bif Nat.blt pc 2 then (bif Nat.blt pc 1 then (bif Nat.beq pc 0 then some (.aload_n 0, 0, 0) else none) else (bif Nat.beq pc 1 then some (.aload_n 0, 0, 0) else none)) else (bif Nat.blt pc 3 then (bif Nat.beq pc 2 then some (.aload_n 0, 0, 0) else none) else (bif Nat.beq pc 3 then some (.invokevirtual 60, 0, 0) else none))) else (bif Nat.blt pc 10 then (bif Nat.blt pc 9 then (bif Nat.beq pc 6 then some (.invokevirtual 64, 0, 0) else none) else (bif Nat.beq pc 9 then some (.aload_n 0, 0, 0) else none)) else (bif Nat.blt pc 13 then (bif Nat.beq pc 10 then some (.invokevirtual 67, 0, 0) else none) else (bif Nat.beq pc 13 then some (.bipush 15, 0, 15) else none)))) else (bif Nat.blt pc 19 then (bif Nat.blt pc 17 then (bif Nat.blt pc 16 then (bif Nat.beq pc 15 then some (.iconst 1, 0, 1) else none) else (bif Nat.beq pc 16 then some (.iload_n 1, 0, 0) else none)) else (bif Nat.blt pc 18 then (bif Nat.beq pc 17 then some (.ishl, 0, 0) else none) else (bif Nat.beq pc 18 then some (.isub, 0, 0) else none))) else (bif Nat.blt pc 23 then (bif Nat.blt pc 20 then (bif Nat.beq pc 19 then some (.iand, 0, 0) else none) else (bif Nat.beq pc 20 then some (.invokevirtual 70, 0, 0) else none)) else (bif Nat.blt pc 24 then (bif Nat.beq pc 23 then some (.aload_n 0, 0, 0) else none) else (bif Nat.blt pc 27 then (bif Nat.beq pc 24 then some (.getfield 47, 0, 0) else none) else (bif Nat.beq pc 27 then some (.ireturn, 0, 0) else none)))))
def z_c119 (pc : Nat) : Option (Instr × Nat × Int32) := bif Nat.blt pc 13 then (bif Nat.blt pc 5 then (bif Nat.blt pc 1 then (bif Nat.beq pc 0 then some (.aload_n 0, 0, 0) else none) else (bif Nat.blt pc 2 then (bif Nat.beq pc 1 then some (.iload_n 1, 0, 0) else none) else (bif Nat.beq pc 2 then some (.invokestatic 74, 0, 0) else none))) else (bif Nat.blt pc 9 then (bif Nat.blt pc 8 then (bif Nat.beq pc 5 then some (.ifCond .eq 7, 12, 0) else none) else (bif Nat.beq pc 8 then some (.iconst 0, 0, 0) else none)) else (bif Nat.blt pc 12 then (bif Nat.beq pc 9 then some (.goto 4, 13, 0) else none) else (bif Nat.beq pc 12 then some (.iconst 1, 0, 1) else none)))) else (bif Nat.blt pc 21 then (bif Nat.blt pc 19 then (bif Nat.blt pc 16 then (bif Nat.beq pc 13 then some (.invokevirtual 84, 0, 0) else none) else (bif Nat.beq pc 16 then some (.ifCond .eq 11, 27, 0) else none)) else (bif Nat.blt pc 20 then (bif Nat.beq pc 19 then some (.aload_n 0, 0, 0) else none) else (bif Nat.beq pc 20 then some (.iload_n 1, 0, 0) else none))) else (bif Nat.blt pc 27 then (bif Nat.blt pc 24 then (bif Nat.beq pc 21 then some (.invokevirtual 171, 0, 0) else none) else (bif Nat.beq pc 24 then some (.goto 4, 28, 0) else none)) else (bif Nat.blt pc 28 then (bif Nat.beq pc 27 then some (.iconst 0, 0, 0) else none) else (bif Nat.beq pc 28 then some (.ireturn, 0, 0) else none))))
def z_c120 (pc : Nat) : Option (Instr × Nat × Int32) := bif Nat.blt pc 80 then (bif Nat.blt pc 39 then (bif Nat.blt pc 16 then (bif Nat.blt pc 6 then (bif Nat.blt pc 2 then (bif Nat.blt pc 1 then (bif Nat.beq pc 0 then some (.iconst (-1), 0, (-1)) else none) else (bif Nat.beq pc 1 then some (.istore_n 3, 0, 0) else none)) else (bif Nat.blt pc 3 then (bif Nat.beq pc 2 then some (.iconst 0, 0, 0) else none) else (bif Nat.blt pc 5 then (bif Nat.beq pc 3 then some (.istore 4, 0, 0) else none) else (bif Nat.beq pc 5 then some (.iconst 0, 0, 0) else none)))) else (bif Nat.blt pc 10 then (bif Nat.blt pc 8 then (bif Nat.beq pc 6 then some (.istore 5, 0, 0) else none) else (bif Nat.beq pc 8 then some (.iload 5, 0, 0) else none)) else (bif Nat.blt pc 12 then (bif Nat.beq pc 10 then some (.bipush 16, 0, 16) else none) else (bif Nat.blt pc 15 then (bif Nat.beq pc 12 then some (.if_icmp .ge 135, 147, 0) else none) else (bif Nat.beq pc 15 then some (.iconst 1, 0, 1) else none))))) else (bif Nat.blt pc 24 then (bif Nat.blt pc 19 then (bif Nat.blt pc 18 then (bif Nat.beq pc 16 then some (.istore 6, 0, 0) else none) else (bif Nat.beq pc 18 then some (.iconst 0, 0, 0) else none)) else (bif Nat.blt pc 21 then (bif Nat.beq pc 19 then some (.istore 7, 0, 0) else none) else (bif Nat.blt pc 23 then (bif Nat.beq pc 21 then some (.iload 7, 0, 0) else none) else (bif Nat.beq pc 23 then some (.iconst 4, 0, 4) else none)))) else (bif Nat.blt pc 32 then (bif Nat.blt pc 27 then (bif Nat.beq pc 24 then some (.if_icmp .ge 45, 69, 0) else none) else (bif Nat.blt pc 29 then (bif Nat.beq pc 27 then some (.iload 6, 0, 0) else none) else (bif Nat.beq pc 29 then some (.ifCond .eq 31, 60, 0) else none))) else (bif Nat.blt pc 34 then (bif Nat.beq pc 32 then some (.iload 5, 0, 0) else none) else (bif Nat.blt pc 36 then (bif Nat.beq pc 34 then some (.iload 7, 0, 0) else none) else (bif Nat.beq pc 36 then some (.invokestatic 36, 0, 0) else none)))))) else (bif Nat.blt pc 57 then (bif Nat.blt pc 50 then (bif Nat.blt pc 43 then (bif Nat.blt pc 42 then (bif Nat.beq pc 39 then some (.ifCond .eq 17, 56, 0) else none) else (bif Nat.beq pc 42 then some (.aload_n 0, 0, 0) else none)) else (bif Nat.blt pc 46 then (bif Nat.beq pc 43 then some (.getfield 7, 0, 0) else none) else (bif Nat.blt pc 48 then (bif Nat.beq pc 46 then some (.bipush 16, 0, 16) else none) else (bif Nat.beq pc 48 then some (.iload 7, 0, 0) else none)))) else (bif Nat.blt pc 52 then (bif Nat.blt pc 51 then (bif Nat.beq pc 50 then some (.iadd, 0, 0) else none) else (bif Nat.beq pc 51 then some (.iaload, 0, 0) else none)) else (bif Nat.blt pc 53 then (bif Nat.beq pc 52 then some (.iconst 3, 0, 3) else none) else (bif Nat.blt pc 56 then (bif Nat.beq pc 53 then some (.if_icmp .eq 7, 60, 0) else none) else (bif Nat.beq pc 56 then some (.iconst 1, 0, 1) else none))))) else (bif Nat.blt pc 69 then (bif Nat.blt pc 61 then (bif Nat.blt pc 60 then (bif Nat.beq pc 57 then some (.goto 4, 61, 0) else none) else (bif Nat.beq pc 60 then some (.iconst 0, 0, 0) else none)) else (bif Nat.blt pc 63 then (bif Nat.beq pc 61 then some (.istore 6, 0, 0) else none) else (bif Nat.blt pc 66 then (bif Nat.beq pc 63 then some (.iinc 7 1, 0, 1) else none) else (bif Nat.beq pc 66 then some (.goto (-45), 21, 0) else none)))) else (bif Nat.blt pc 72 then (bif Nat.blt pc 70 then (bif Nat.beq pc 69 then some (.aload_n 0, 0, 0) else none) else (bif Nat.blt pc 71 then (bif Nat.beq pc 70 then some (.aload_n 0, 0, 0) else none) else (bif Nat.beq pc 71 then some (.iload_n 1, 0, 0) else none))) else (bif Nat.blt pc 75 then (bif Nat.beq pc 72 then some (.invokevirtual 64, 0, 0) else none) else (bif Nat.blt pc 77 then (bif Nat.beq pc 75 then some (.iload 5, 0, 0) else none) else (bif Nat.beq pc 77 then some (.invokevirtual 70, 0, 0) else none))))))) else (bif Nat.blt pc 124 then (bif Nat.blt pc 101 then (bif Nat.blt pc 92 then (bif Nat.blt pc 85 then (bif Nat.blt pc 82 then (bif Nat.beq pc 80 then some (.iload 6, 0, 0) else none) else (bif Nat.beq pc 82 then some (.ifCond .eq 28, 110, 0) else none)) else (bif Nat.blt pc 86 then (bif Nat.beq pc 85 then some (.aload_n 0, 0, 0) else none) else (bif Nat.blt pc 89 then (bif Nat.beq pc 86 then some (.getfield 53, 0, 0) else none) else (bif Nat.beq pc 89 then some (.ifCond .eq 21, 110, 0) else none)))) else (bif Nat.blt pc 94 then (bif Nat.blt pc 93 then (bif Nat.beq pc 92 then some (.iload_n 3, 0, 0) else none) else (bif Nat.beq pc 93 then some (.iconst (-1), 0, (-1)) else none)) else (bif Nat.blt pc 97 then (bif Nat.beq pc 94 then some (.if_icmp .eq 12, 106, 0) else none) else (bif Nat.blt pc 98 then (bif Nat.beq pc 97 then some (.aload_n 0, 0, 0) else none) else (bif Nat.beq pc 98 then some (.getfield 57, 0, 0) else none))))) else (bif Nat.blt pc 111 then (bif Nat.blt pc 106 then (bif Nat.blt pc 103 then (bif Nat.beq pc 101 then some (.iload 4, 0, 0) else none) else (bif Nat.beq pc 103 then some (.if_icmp .ge 7, 110, 0) else none)) else (bif Nat.blt pc 107 then (bif Nat.beq pc 106 then some (.iconst 1, 0, 1) else none) else (bif Nat.blt pc 110 then (bif Nat.beq pc 107 then some (.goto 4, 111, 0) else none) else (bif Nat.beq pc 110 then some (.iconst 0, 0, 0) else none)))) else (bif Nat.blt pc 118 then (bif Nat.blt pc 113 then (bif Nat.beq pc 111 then some (.istore 7, 0, 0) else none) else (bif Nat.blt pc 115 then (bif Nat.beq pc 113 then some (.iload 7, 0, 0) else none) else (bif Nat.beq pc 115 then some (.ifCond .eq 8, 123, 0) else none))) else (bif Nat.blt pc 120 then (bif Nat.beq pc 118 then some (.iload 5, 0, 0) else none) else (bif Nat.blt pc 123 then (bif Nat.beq pc 120 then some (.goto 4, 124, 0) else none) else (bif Nat.beq pc 123 then some (.iload_n 3, 0, 0) else none)))))) else (bif Nat.blt pc 147 then (bif Nat.blt pc 134 then (bif Nat.blt pc 127 then (bif Nat.blt pc 125 then (bif Nat.beq pc 124 then some (.istore_n 3, 0, 0) else none) else (bif Nat.beq pc 125 then some (.iload 7, 0, 0) else none)) else (bif Nat.blt pc 130 then (bif Nat.beq pc 127 then some (.ifCond .eq 10, 137, 0) else none) else (bif Nat.blt pc 131 then (bif Nat.beq pc 130 then some (.aload_n 0, 0, 0) else none) else (bif Nat.beq pc 131 then some (.getfield 57, 0, 0) else none)))) else (bif Nat.blt pc 139 then (bif Nat.blt pc 137 then (bif Nat.beq pc 134 then some (.goto 5, 139, 0) else none) else (bif Nat.beq pc 137 then some (.iload 4, 0, 0) else none)) else (bif Nat.blt pc 141 then (bif Nat.beq pc 139 then some (.istore 4, 0, 0) else none) else (bif Nat.blt pc 144 then (bif Nat.beq pc 141 then some (.iinc 5 1, 0, 1) else none) else (bif Nat.beq pc 144 then some (.goto (-136), 8, 0) else none))))) else (bif Nat.blt pc 156 then (bif Nat.blt pc 149 then (bif Nat.blt pc 148 then (bif Nat.beq pc 147 then some (.iload_n 3, 0, 0) else none) else (bif Nat.beq pc 148 then some (.iconst (-1), 0, (-1)) else none)) else (bif Nat.blt pc 152 then (bif Nat.beq pc 149 then some (.if_icmp .ne 7, 156, 0) else none) else (bif Nat.blt pc 153 then (bif Nat.beq pc 152 then some (.iconst (-1), 0, (-1)) else none) else (bif Nat.beq pc 153 then some (.goto 13, 166, 0) else none)))) else (bif Nat.blt pc 161 then (bif Nat.blt pc 157 then (bif Nat.beq pc 156 then some (.iload_n 2, 0, 0) else none) else (bif Nat.blt pc 160 then (bif Nat.beq pc 157 then some (.ifCond .ne 7, 164, 0) else none) else (bif Nat.beq pc 160 then some (.iload_n 3, 0, 0) else none))) else (bif Nat.blt pc 164 then (bif Nat.beq pc 161 then some (.goto 5, 166, 0) else none) else (bif Nat.blt pc 166 then (bif Nat.beq pc 164 then some (.iload 4, 0, 0) else none) else (bif Nat.beq pc 166 then some (.ireturn, 0, 0) else none)))))))
def z_c121 (pc : Nat) : Option (Instr × Nat × Int32) := bif Nat.blt pc 20 then (bif Nat.blt pc 8 then (bif Nat.blt pc 2 then (bif Nat.blt pc 1 then (bif Nat.beq pc 0 then some (.aload_n 0, 0, 0) else none) else (bif Nat.beq pc 1 then some (.iload_n 1, 0, 0) else none)) else (bif Nat.blt pc 3 then (bif Nat.beq pc 2 then some (.iconst 0, 0, 0) else none) else (bif Nat.blt pc 5 then (bif Nat.beq pc 3 then some (.bipush 47, 0, 47) else none) else (bif Nat.beq pc 5 then some (.invokestatic 29, 0, 0) else none)))) else (bif Nat.blt pc 13 then (bif Nat.blt pc 11 then (bif Nat.beq pc 8 then some (.ifCond .eq 16, 24, 0) else none) else (bif Nat.blt pc 12 then (bif Nat.beq pc 11 then some (.iload_n 2, 0, 0) else none) else (bif Nat.beq pc 12 then some (.iconst 0, 0, 0) else none))) else (bif Nat.blt pc 14 then (bif Nat.beq pc 13 then some (.iconst 1, 0, 1) else none) else (bif Nat.blt pc 17 then (bif Nat.beq pc 14 then some (.invokestatic 29, 0, 0) else none) else (bif Nat.beq pc 17 then some (.ifCond .eq 7, 24, 0) else none))))) else (bif Nat.blt pc 32 then (bif Nat.blt pc 25 then (bif Nat.blt pc 21 then (bif Nat.beq pc 20 then some (.iconst 0, 0, 0) else none) else (bif Nat.blt pc 24 then (bif Nat.beq pc 21 then some (.goto 4, 25, 0) else none) else (bif Nat.beq pc 24 then some (.iconst 1, 0, 1) else none))) else (bif Nat.blt pc 28 then (bif Nat.beq pc 25 then some (.invokevirtual 84, 0, 0) else none) else (bif Nat.blt pc 31 then (bif Nat.beq pc 28 then some (.ifCond .eq 12, 40, 0) else none) else (bif Nat.beq pc 31 then some (.aload_n 0, 0, 0) else none)))) else (bif Nat.blt pc 37 then (bif Nat.blt pc 33 then (bif Nat.beq pc 32 then some (.iload_n 1, 0, 0) else none) else (bif Nat.blt pc 34 then (bif Nat.beq pc 33 then some (.iload_n 2, 0, 0) else none) else (bif Nat.beq pc 34 then some (.invokevirtual 174, 0, 0) else none))) else (bif Nat.blt pc 40 then (bif Nat.beq pc 37 then some (.goto 4, 41, 0) else none) else (bif Nat.blt pc 41 then (bif Nat.beq pc 40 then some (.iconst 0, 0, 0) else none) else (bif Nat.beq pc 41 then some (.ireturn, 0, 0) else none)))))
def z_c122 (pc : Nat) : Option (Instr × Nat × Int32) := bif Nat.blt pc 29 then (bif Nat.blt pc 13 then (bif Nat.blt pc 6 then (bif Nat.blt pc 4 then (bif Nat.blt pc 1 then (bif Nat.beq pc 0 then some (.aload_n 0, 0, 0) else none) else (bif Nat.beq pc 1 then some (.invokevirtual 177, 0, 0) else none)) else (bif Nat.blt pc 5 then (bif Nat.beq pc 4 then some (.iconst (-1), 0, (-1)) else none) else (bif Nat.beq pc 5 then some (.istore_n 1, 0, 0) else none))) else (bif Nat.blt pc 10 then (bif Nat.blt pc 7 then (bif Nat.beq pc 6 then some (.aload_n 0, 0, 0) else none) else (bif Nat.beq pc 7 then some (.getfield 7, 0, 0) else none)) else (bif Nat.blt pc 12 then (bif Nat.beq pc 10 then some (.bipush 34, 0, 34) else none) else (bif Nat.beq pc 12 then some (.iaload, 0, 0) else none)))) else (bif Nat.blt pc 20 then (bif Nat.blt pc 18 then (bif Nat.blt pc 15 then (bif Nat.beq pc 13 then some (.bipush 48, 0, 48) else none) else (bif Nat.beq pc 15 then some (.if_icmp .ge 36, 51, 0) else none)) else (bif Nat.blt pc 19 then (bif Nat.beq pc 18 then some (.iload_n 1, 0, 0) else none) else (bif Nat.beq pc 19 then some (.iconst (-1), 0, (-1)) else none))) else (bif Nat.blt pc 24 then (bif Nat.blt pc 23 then (bif Nat.beq pc 20 then some (.if_icmp .ne 31, 51, 0) else none) else (bif Nat.beq pc 23 then some (.aload_n 0, 0, 0) else none)) else (bif Nat.blt pc 27 then (bif Nat.beq pc 24 then some (.getfield 7, 0, 0) else none) else (bif Nat.beq pc 27 then some (.bipush 34, 0, 34) else none))))) else (bif Nat.blt pc 43 then (bif Nat.blt pc 35 then (bif Nat.blt pc 31 then (bif Nat.blt pc 30 then (bif Nat.beq pc 29 then some (.iaload, 0, 0) else none) else (bif Nat.beq pc 30 then some (.istore_n 2, 0, 0) else none)) else (bif Nat.blt pc 32 then (bif Nat.beq pc 31 then some (.aload_n 0, 0, 0) else none) else (bif Nat.beq pc 32 then some (.invokevirtual 81, 0, 0) else none))) else (bif Nat.blt pc 39 then (bif Nat.blt pc 36 then (bif Nat.beq pc 35 then some (.aload_n 0, 0, 0) else none) else (bif Nat.beq pc 36 then some (.getfield 47, 0, 0) else none)) else (bif Nat.blt pc 42 then (bif Nat.beq pc 39 then some (.ifCond .le 7, 46, 0) else none) else (bif Nat.beq pc 42 then some (.iload_n 2, 0, 0) else none)))) else (bif Nat.blt pc 51 then (bif Nat.blt pc 47 then (bif Nat.blt pc 46 then (bif Nat.beq pc 43 then some (.goto 4, 47, 0) else none) else (bif Nat.beq pc 46 then some (.iconst (-1), 0, (-1)) else none)) else (bif Nat.blt pc 48 then (bif Nat.beq pc 47 then some (.istore_n 1, 0, 0) else none) else (bif Nat.beq pc 48 then some (.goto (-42), 6, 0) else none))) else (bif Nat.blt pc 55 then (bif Nat.blt pc 52 then (bif Nat.beq pc 51 then some (.aload_n 0, 0, 0) else none) else (bif Nat.beq pc 52 then some (.invokevirtual 180, 0, 0) else none)) else (bif Nat.blt pc 56 then (bif Nat.beq pc 55 then some (.iload_n 1, 0, 0) else none) else (bif Nat.beq pc 56 then some (.ireturn, 0, 0) else none)))))
def z_c123 (pc : Nat) : Option (Instr × Nat × Int32) := bif Nat.blt pc 5 then (bif Nat.blt pc 1 then (bif Nat.beq pc 0 then some (.aload_n 0, 0, 0) else none) else (bif Nat.blt pc 2 then (bif Nat.beq pc 1 then some (.iconst 0, 0, 0) else none) else (bif Nat.beq pc 2 then some (.putfield 25, 0, 0) else none))) else (bif Nat.blt pc 6 then (bif Nat.beq pc 5 then some (.aload_n 0, 0, 0) else none) else (bif Nat.blt pc 9 then (bif Nat.beq pc 6 then some (.invokevirtual 183, 0, 0) else none) else (bif Nat.beq pc 9 then some (.ireturn, 0, 0) else none)))
def z_c124 (pc : Nat) : Option (Instr × Nat × Int32) := bif Nat.blt pc 7 then (bif Nat.blt pc 3 then (bif Nat.blt pc 1 then (bif Nat.beq pc 0 then some (.aload_n 0, 0, 0) else none) else (bif Nat.beq pc 1 then some (.bipush 48, 0, 48) else none)) else (bif Nat.blt pc 4 then (bif Nat.beq pc 3 then some (.aload_n 0, 0, 0) else none) else (bif Nat.beq pc 4 then some (.getfield 7, 0, 0) else none))) else (bif Nat.blt pc 10 then (bif Nat.blt pc 9 then (bif Nat.beq pc 7 then some (.bipush 34, 0, 34) else none) else (bif Nat.beq pc 9 then some (.iaload, 0, 0) else none)) else (bif Nat.blt pc 11 then (bif Nat.beq pc 10 then some (.isub, 0, 0) else none) else (bif Nat.blt pc 14 then (bif Nat.beq pc 11 then some (.invokevirtual 115, 0, 0) else none) else (bif Nat.beq pc 14 then some (.ireturn, 0, 0) else none))))
def z_c125 (pc : Nat) : Option (Instr × Nat × Int32) := bif Nat.blt pc 18 then (bif Nat.blt pc 9 then (bif Nat.blt pc 4 then (bif Nat.blt pc 1 then (bif Nat.beq pc 0 then some (.aload_n 0, 0, 0) else none) else (bif Nat.beq pc 1 then some (.invokevirtual 177, 0, 0) else none)) else (bif Nat.blt pc 5 then (bif Nat.beq pc 4 then some (.aload_n 0, 0, 0) else none) else (bif Nat.blt pc 8 then (bif Nat.beq pc 5 then some (.invokevirtual 186, 0, 0) else none) else (bif Nat.beq pc 8 then some (.istore_n 1, 0, 0) else none)))) else (bif Nat.blt pc 13 then (bif Nat.blt pc 10 then (bif Nat.beq pc 9 then some (.aload_n 0, 0, 0) else none) else (bif Nat.beq pc 10 then some (.invokevirtual 180, 0, 0) else none)) else (bif Nat.blt pc 14 then (bif Nat.beq pc 13 then some (.aload_n 0, 0, 0) else none) else (bif Nat.blt pc 17 then (bif Nat.beq pc 14 then some (.invokevirtual 106, 0, 0) else none) else (bif Nat.beq pc 17 then some (.istore_n 2, 0, 0) else none))))) else (bif Nat.blt pc 27 then (bif Nat.blt pc 22 then (bif Nat.blt pc 19 then (bif Nat.beq pc 18 then some (.aload_n 0, 0, 0) else none) else (bif Nat.beq pc 19 then some (.invokevirtual 186, 0, 0) else none)) else (bif Nat.blt pc 23 then (bif Nat.beq pc 22 then some (.istore_n 3, 0, 0) else none) else (bif Nat.blt pc 24 then (bif Nat.beq pc 23 then some (.aload_n 0, 0, 0) else none) else (bif Nat.beq pc 24 then some (.invokevirtual 180, 0, 0) else none)))) else (bif Nat.blt pc 30 then (bif Nat.blt pc 28 then (bif Nat.beq pc 27 then some (.iload_n 1, 0, 0) else none) else (bif Nat.blt pc 29 then (bif Nat.beq pc 28 then some (.iload_n 3, 0, 0) else none) else (bif Nat.beq pc 29 then some (.isub, 0, 0) else none))) else (bif Nat.blt pc 32 then (bif Nat.beq pc 30 then some (.bipush 100, 0, 100) else none) else (bif Nat.blt pc 33 then (bif Nat.beq pc 32 then some (.iadd, 0, 0) else none) else (bif Nat.beq pc 33 then some (.ireturn, 0, 0) else none)))))
def z_c126 (pc : Nat) : Option (Instr × Nat × Int32) := bif Nat.blt pc 5 then (bif Nat.blt pc 1 then (bif Nat.beq pc 0 then some (.aload_n 0, 0, 0) else none) else (bif Nat.blt pc 2 then (bif Nat.beq pc 1 then some (.iconst 0, 0, 0) else none) else (bif Nat.beq pc 2 then some (.putfield 25, 0, 0) else none))) else (bif Nat.blt pc 6 then (bif Nat.beq pc 5 then some (.aload_n 0, 0, 0) else none) else (bif Nat.blt pc 9 then (bif Nat.beq pc 6 then some (.invokevirtual 189, 0, 0) else none) else (bif Nat.beq pc 9 then some (.ireturn, 0, 0) else none)))
def z_c127 (pc : Nat) : Option (Instr × Nat × Int32) := bif Nat.blt pc 65 then (bif Nat.blt pc 30 then (bif Nat.blt pc 15 then (bif Nat.blt pc 8 then (bif Nat.blt pc 4 then (bif Nat.blt pc 1 then (bif Nat.beq pc 0 then some (.aload_n 0, 0, 0) else none) else (bif Nat.beq pc 1 then some (.invokevirtual 177, 0, 0) else none)) else (bif Nat.blt pc 5 then (bif Nat.beq pc 4 then some (.aload_n 0, 0, 0) else none) else (bif Nat.beq pc 5 then some (.invokevirtual 186, 0, 0) else none))) else (bif Nat.blt pc 10 then (bif Nat.blt pc 9 then (bif Nat.beq pc 8 then some (.istore_n 1, 0, 0) else none) else (bif Nat.beq pc 9 then some (.aload_n 0, 0, 0) else none)) else (bif Nat.blt pc 13 then (bif Nat.beq pc 10 then some (.invokevirtual 180, 0, 0) else none) else (bif Nat.blt pc 14 then (bif Nat.beq pc 13 then some (.iconst (-1), 0, (-1)) else none) else (bif Nat.beq pc 14 then some (.istore_n 2, 0, 0) else none))))) else (bif Nat.blt pc 20 then (bif Nat.blt pc 17 then (bif Nat.blt pc 16 then (bif Nat.beq pc 15 then some (.iconst 0, 0, 0) else none) else (bif Nat.beq pc 16 then some (.istore_n 3, 0, 0) else none)) else (bif Nat.blt pc 18 then (bif Nat.beq pc 17 then some (.iconst 0, 0, 0) else none) else (bif Nat.beq pc 18 then some (.istore 4, 0, 0) else none))) else (bif Nat.blt pc 23 then (bif Nat.blt pc 22 then (bif Nat.beq pc 20 then some (.iload 4, 0, 0) else none) else (bif Nat.beq pc 22 then some (.iconst 4, 0, 4) else none)) else (bif Nat.blt pc 26 then (bif Nat.beq pc 23 then some (.if_icmp .ge 112, 135, 0) else none) else (bif Nat.blt pc 27 then (bif Nat.beq pc 26 then some (.aload_n 0, 0, 0) else none) else (bif Nat.beq pc 27 then some (.getfield 7, 0, 0) else none)))))) else (bif Nat.blt pc 47 then (bif Nat.blt pc 36 then (bif Nat.blt pc 34 then (bif Nat.blt pc 32 then (bif Nat.beq pc 30 then some (.bipush 16, 0, 16) else none) else (bif Nat.beq pc 32 then some (.iload 4, 0, 0) else none)) else (bif Nat.blt pc 35 then (bif Nat.beq pc 34 then some (.iadd, 0, 0) else none) else (bif Nat.beq pc 35 then some (.iaload, 0, 0) else none))) else (bif Nat.blt pc 40 then (bif Nat.blt pc 39 then (bif Nat.beq pc 36 then some (.ifCond .ne 93, 129, 0) else none) else (bif Nat.beq pc 39 then some (.aload_n 0, 0, 0) else none)) else (bif Nat.blt pc 42 then (bif Nat.beq pc 40 then some (.iload 4, 0, 0) else none) else (bif Nat.blt pc 45 then (bif Nat.beq pc 42 then some (.invokevirtual 97, 0, 0) else none) else (bif Nat.beq pc 45 then some (.istore 5, 0, 0) else none))))) else (bif Nat.blt pc 54 then (bif Nat.blt pc 51 then (bif Nat.blt pc 48 then (bif Nat.beq pc 47 then some (.aload_n 0, 0, 0) else none) else (bif Nat.beq pc 48 then some (.invokevirtual 186, 0, 0) else none)) else (bif Nat.blt pc 53 then (bif Nat.beq pc 51 then some (.istore 6, 0, 0) else none) else (bif Nat.beq pc 53 then some (.aload_n 0, 0, 0) else none))) else (bif Nat.blt pc 59 then (bif Nat.blt pc 57 then (bif Nat.beq pc 54 then some (.invokevirtual 165, 0, 0) else none) else (bif Nat.beq pc 57 then some (.istore 7, 0, 0) else none)) else (bif Nat.blt pc 60 then (bif Nat.beq pc 59 then some (.aload_n 0, 0, 0) else none) else (bif Nat.blt pc 63 then (bif Nat.beq pc 60 then some (.invokevirtual 180, 0, 0) else none) else (bif Nat.beq pc 63 then some (.iload 6, 0, 0) else none))))))) else (bif Nat.blt pc 100 then (bif Nat.blt pc 82 then (bif Nat.blt pc 71 then (bif Nat.blt pc 69 then (bif Nat.blt pc 66 then (bif Nat.beq pc 65 then some (.iload_n 1, 0, 0) else none) else (bif Nat.beq pc 66 then some (.if_icmp .lt 20, 86, 0) else none)) else (bif Nat.blt pc 70 then (bif Nat.beq pc 69 then some (.iload_n 2, 0, 0) else none) else (bif Nat.beq pc 70 then some (.iconst (-1), 0, (-1)) else none))) else (bif Nat.blt pc 76 then (bif Nat.blt pc 74 then (bif Nat.beq pc 71 then some (.if_icmp .eq 19, 90, 0) else none) else (bif Nat.beq pc 74 then some (.iload 6, 0, 0) else none)) else (bif Nat.blt pc 77 then (bif Nat.beq pc 76 then some (.iload_n 1, 0, 0) else none) else (bif Nat.blt pc 80 then (bif Nat.beq pc 77 then some (.if_icmp .ne 13, 90, 0) else none) else (bif Nat.beq pc 80 then some (.iload 7, 0, 0) else none))))) else (bif Nat.blt pc 90 then (bif Nat.blt pc 86 then (bif Nat.blt pc 83 then (bif Nat.beq pc 82 then some (.iload_n 3, 0, 0) else none) else (bif Nat.beq pc 83 then some (.if_icmp .ge 7, 90, 0) else none)) else (bif Nat.blt pc 87 then (bif Nat.beq pc 86 then some (.iconst 1, 0, 1) else none) else (bif Nat.beq pc 87 then some (.goto 4, 91, 0) else none))) else (bif Nat.blt pc 93 then (bif Nat.blt pc 91 then (bif Nat.beq pc 90 then some (.iconst 0, 0, 0) else none) else (bif Nat.beq pc 91 then some (.istore 8, 0, 0) else none)) else (bif Nat.blt pc 95 then (bif Nat.beq pc 93 then some (.iload 8, 0, 0) else none) else (bif Nat.blt pc 98 then (bif Nat.beq pc 95 then some (.ifCond .eq 8, 103, 0) else none) else (bif Nat.beq pc 98 then some (.iload 4, 0, 0) else none)))))) else (bif Nat.blt pc 117 then (bif Nat.blt pc 107 then (bif Nat.blt pc 104 then (bif Nat.blt pc 103 then (bif Nat.beq pc 100 then some (.goto 4, 104, 0) else none) else (bif Nat.beq pc 103 then some (.iload_n 2, 0, 0) else none)) else (bif Nat.blt pc 105 then (bif Nat.beq pc 104 then some (.istore_n 2, 0, 0) else none) else (bif Nat.beq pc 105 then some (.iload 8, 0, 0) else none))) else (bif Nat.blt pc 112 then (bif Nat.blt pc 110 then (bif Nat.beq pc 107 then some (.ifCond .eq 8, 115, 0) else none) else (bif Nat.beq pc 110 then some (.iload 7, 0, 0) else none)) else (bif Nat.blt pc 115 then (bif Nat.beq pc 112 then some (.goto 4, 116, 0) else none) else (bif Nat.blt pc 116 then (bif Nat.beq pc 115 then some (.iload_n 3, 0, 0) else none) else (bif Nat.beq pc 116 then some (.istore_n 3, 0, 0) else none))))) else (bif Nat.blt pc 128 then (bif Nat.blt pc 122 then (bif Nat.blt pc 119 then (bif Nat.beq pc 117 then some (.iload 8, 0, 0) else none) else (bif Nat.beq pc 119 then some (.ifCond .eq 8, 127, 0) else none)) else (bif Nat.blt pc 124 then (bif Nat.beq pc 122 then some (.iload 6, 0, 0) else none) else (bif Nat.blt pc 127 then (bif Nat.beq pc 124 then some (.goto 4, 128, 0) else none) else (bif Nat.beq pc 127 then some (.iload_n 1, 0, 0) else none)))) else (bif Nat.blt pc 132 then (bif Nat.blt pc 129 then (bif Nat.beq pc 128 then some (.istore_n 1, 0, 0) else none) else (bif Nat.beq pc 129 then some (.iinc 4 1, 0, 1) else none)) else (bif Nat.blt pc 135 then (bif Nat.beq pc 132 then some (.goto (-112), 20, 0) else none) else (bif Nat.blt pc 136 then (bif Nat.beq pc 135 then some (.iload_n 2, 0, 0) else none) else (bif Nat.beq pc 136 then some (.ireturn, 0, 0) else none)))))))
def z_c128 (pc : Nat) : Option (Instr × Nat × Int32) := bif Nat.blt pc 5 then (bif Nat.blt pc 1 then (bif Nat.beq pc 0 then some (.aload_n 0, 0, 0) else none) else (bif Nat.blt pc 2 then (bif Nat.beq pc 1 then some (.iconst 0, 0, 0) else none) else (bif Nat.beq pc 2 then some (.putfield 25, 0, 0) else none))) else (bif Nat.blt pc 6 then (bif Nat.beq pc 5 then some (.aload_n 0, 0, 0) else none) else (bif Nat.blt pc 9 then (bif Nat.beq pc 6 then some (.invokevirtual 192, 0, 0) else none) else (bif Nat.beq pc 9 then some (.ireturn, 0, 0) else none)))
def z_c129 (pc : Nat) : Option (Instr × Nat × Int32) := bif Nat.blt pc 22 then (bif Nat.blt pc 11 then (bif Nat.blt pc 6 then (bif Nat.blt pc 1 then (bif Nat.beq pc 0 then some (.aload_n 0, 0, 0) else none) else (bif Nat.blt pc 4 then (bif Nat.beq pc 1 then some (.getfield 7, 0, 0) else none) else (bif Nat.beq pc 4 then some (.bipush 34, 0, 34) else none))) else (bif Nat.blt pc 7 then (bif Nat.beq pc 6 then some (.iaload, 0, 0) else none) else (bif Nat.blt pc 10 then (bif Nat.beq pc 7 then some (.ifCond .ne 7, 14, 0) else none) else (bif Nat.beq pc 10 then some (.dconst 1, 0, 0) else none)))) else (bif Nat.blt pc 18 then (bif Nat.blt pc 14 then (bif Nat.beq pc 11 then some (.goto 28, 39, 0) else none) else (bif Nat.blt pc 15 then (bif Nat.beq pc 14 then some (.aload_n 0, 0, 0) else none) else (bif Nat.beq pc 15 then some (.getfield 7, 0, 0) else none))) else (bif Nat.blt pc 20 then (bif Nat.beq pc 18 then some (.bipush 34, 0, 34) else none) else (bif Nat.blt pc 21 then (bif Nat.beq pc 20 then some (.iaload, 0, 0) else none) else (bif Nat.beq pc 21 then some (.aload_n 0, 0, 0) else none))))) else (bif Nat.blt pc 31 then (bif Nat.blt pc 28 then (bif Nat.blt pc 25 then (bif Nat.beq pc 22 then some (.getfield 7, 0, 0) else none) else (bif Nat.blt pc 27 then (bif Nat.beq pc 25 then some (.bipush 39, 0, 39) else none) else (bif Nat.beq pc 27 then some (.iaload, 0, 0) else none))) else (bif Nat.blt pc 29 then (bif Nat.beq pc 28 then some (.isub, 0, 0) else none) else (bif Nat.blt pc 30 then (bif Nat.beq pc 29 then some (.i2d, 0, 0) else none) else (bif Nat.beq pc 30 then some (.aload_n 0, 0, 0) else none)))) else (bif Nat.blt pc 37 then (bif Nat.blt pc 34 then (bif Nat.beq pc 31 then some (.getfield 7, 0, 0) else none) else (bif Nat.blt pc 36 then (bif Nat.beq pc 34 then some (.bipush 34, 0, 34) else none) else (bif Nat.beq pc 36 then some (.iaload, 0, 0) else none))) else (bif Nat.blt pc 38 then (bif Nat.beq pc 37 then some (.i2d, 0, 0) else none) else (bif Nat.blt pc 39 then (bif Nat.beq pc 38 then some (.ddiv, 0, 0) else none) else (bif Nat.beq pc 39 then some (.dreturn, 0, 0) else none)))))
def z_c130 (pc : Nat) : Option (Instr × Nat × Int32) := bif Nat.blt pc 5 then (bif Nat.blt pc 1 then (bif Nat.beq pc 0 then some (.aload_n 0, 0, 0) else none) else (bif Nat.blt pc 2 then (bif Nat.beq pc 1 then some (.iconst 0, 0, 0) else none) else (bif Nat.beq pc 2 then some (.putfield 25, 0, 0) else none))) else (bif Nat.blt pc 6 then (bif Nat.beq pc 5 then some (.aload_n 0, 0, 0) else none) else (bif Nat.blt pc 9 then (bif Nat.beq pc 6 then some (.invokevirtual 195, 0, 0) else none) else (bif Nat.beq pc 9 then some (.dreturn, 0, 0) else none)))
def z_c131 (pc : Nat) : Option (Instr × Nat × Int32) := bif Nat.blt pc 28 then (bif Nat.blt pc 12 then (bif Nat.blt pc 6 then (bif Nat.blt pc 2 then (bif Nat.blt pc 1 then (bif Nat.beq pc 0 then some (.dload_n 0, 0, 0) else none) else (bif Nat.beq pc 1 then some (.dconst 0, 0, 0) else none)) else (bif Nat.blt pc 3 then (bif Nat.beq pc 2 then some (.dcmp .l, 0, 0) else none) else (bif Nat.beq pc 3 then some (.ifCond .ne 5, 8, 0) else none))) else (bif Nat.blt pc 8 then (bif Nat.blt pc 7 then (bif Nat.beq pc 6 then some (.lconst 0, 0, 0) else none) else (bif Nat.beq pc 7 then some (.lreturn, 0, 0) else none)) else (bif Nat.blt pc 11 then (bif Nat.beq pc 8 then some (.ldc2_w 199, 0, 0) else none) else (bif Nat.beq pc 11 then some (.lstore_n 2, 0, 0) else none)))) else (bif Nat.blt pc 18 then (bif Nat.blt pc 15 then (bif Nat.blt pc 13 then (bif Nat.beq pc 12 then some (.dload_n 0, 0, 0) else none) else (bif Nat.beq pc 13 then some (.dstore 4, 0, 0) else none)) else (bif Nat.blt pc 17 then (bif Nat.beq pc 15 then some (.dload 4, 0, 0) else none) else (bif Nat.beq pc 17 then some (.dconst 1, 0, 0) else none))) else (bif Nat.blt pc 22 then (bif Nat.blt pc 19 then (bif Nat.beq pc 18 then some (.dcmp .g, 0, 0) else none) else (bif Nat.beq pc 19 then some (.ifCond .ge 18, 37, 0) else none)) else (bif Nat.blt pc 24 then (bif Nat.beq pc 22 then some (.dload 4, 0, 0) else none) else (bif Nat.blt pc 27 then (bif Nat.beq pc 24 then some (.ldc2_w 201, 0, 0) else none) else (bif Nat.beq pc 27 then some (.dmul, 0, 0) else none)))))) else (bif Nat.blt pc 41 then (bif Nat.blt pc 33 then (bif Nat.blt pc 31 then (bif Nat.blt pc 30 then (bif Nat.beq pc 28 then some (.dstore 4, 0, 0) else none) else (bif Nat.beq pc 30 then some (.lload_n 2, 0, 0) else none)) else (bif Nat.blt pc 32 then (bif Nat.beq pc 31 then some (.lconst 1, 0, 0) else none) else (bif Nat.beq pc 32 then some (.lsub, 0, 0) else none))) else (bif Nat.blt pc 37 then (bif Nat.blt pc 34 then (bif Nat.beq pc 33 then some (.lstore_n 2, 0, 0) else none) else (bif Nat.beq pc 34 then some (.goto (-19), 15, 0) else none)) else (bif Nat.blt pc 38 then (bif Nat.beq pc 37 then some (.lload_n 2, 0, 0) else none) else (bif Nat.beq pc 38 then some (.ldc2_w 203, 0, 0) else none)))) else (bif Nat.blt pc 46 then (bif Nat.blt pc 44 then (bif Nat.blt pc 42 then (bif Nat.beq pc 41 then some (.lmul, 0, 0) else none) else (bif Nat.beq pc 42 then some (.dload 4, 0, 0) else none)) else (bif Nat.blt pc 45 then (bif Nat.beq pc 44 then some (.dconst 1, 0, 0) else none) else (bif Nat.beq pc 45 then some (.dsub, 0, 0) else none))) else (bif Nat.blt pc 50 then (bif Nat.blt pc 49 then (bif Nat.beq pc 46 then some (.ldc2_w 205, 0, 0) else none) else (bif Nat.beq pc 49 then some (.dmul, 0, 0) else none)) else (bif Nat.blt pc 51 then (bif Nat.beq pc 50 then some (.d2l, 0, 0) else none) else (bif Nat.blt pc 52 then (bif Nat.beq pc 51 then some (.ladd, 0, 0) else none) else (bif Nat.beq pc 52 then some (.lreturn, 0, 0) else none))))))
def z_c132 (pc : Nat) : Option (Instr × Nat × Int32) := bif Nat.blt pc 8 then (bif Nat.blt pc 4 then (bif Nat.blt pc 1 then (bif Nat.beq pc 0 then some (.aload_n 0, 0, 0) else none) else (bif Nat.beq pc 1 then some (.ldc2_w 207, 0, 0) else none)) else (bif Nat.blt pc 5 then (bif Nat.beq pc 4 then some (.aload_n 0, 0, 0) else none) else (bif Nat.beq pc 5 then some (.getfield 209, 0, 0) else none))) else (bif Nat.blt pc 10 then (bif Nat.blt pc 9 then (bif Nat.beq pc 8 then some (.lmul, 0, 0) else none) else (bif Nat.beq pc 9 then some (.lload_n 1, 0, 0) else none)) else (bif Nat.blt pc 11 then (bif Nat.beq pc 10 then some (.ladd, 0, 0) else none) else (bif Nat.blt pc 14 then (bif Nat.beq pc 11 then some (.putfield 209, 0, 0) else none) else (bif Nat.beq pc 14 then some (.return_, 0, 0) else none))))
def z_c133 (pc : Nat) : Option (Instr × Nat × Int32) := bif Nat.blt pc 131 then (bif Nat.blt pc 64 then (bif Nat.blt pc 33 then (bif Nat.blt pc 15 then (bif Nat.blt pc 6 then (bif Nat.blt pc 2 then (bif Nat.blt pc 1 then (bif Nat.beq pc 0 then some (.aload_n 0, 0, 0) else none) else (bif Nat.beq pc 1 then some (.iconst 0, 0, 0) else none)) else (bif Nat.blt pc 5 then (bif Nat.beq pc 2 then some (.putfield 25, 0, 0) else none) else (bif Nat.beq pc 5 then some (.aload_n 0, 0, 0) else none))) else (bif Nat.blt pc 12 then (bif Nat.blt pc 9 then (bif Nat.beq pc 6 then some (.ldc2_w 213, 0, 0) else none) else (bif Nat.beq pc 9 then some (.putfield 209, 0, 0) else none)) else (bif Nat.blt pc 13 then (bif Nat.beq pc 12 then some (.iconst 0, 0, 0) else none) else (bif Nat.blt pc 14 then (bif Nat.beq pc 13 then some (.istore_n 1, 0, 0) else none) else (bif Nat.beq pc 14 then some (.iload_n 1, 0, 0) else none))))) else (bif Nat.blt pc 22 then (bif Nat.blt pc 20 then (bif Nat.blt pc 17 then (bif Nat.beq pc 15 then some (.bipush 15, 0, 15) else none) else (bif Nat.beq pc 17 then some (.if_icmp .ge 19, 36, 0) else none)) else (bif Nat.blt pc 21 then (bif Nat.beq pc 20 then some (.aload_n 0, 0, 0) else none) else (bif Nat.beq pc 21 then some (.aload_n 0, 0, 0) else none))) else (bif Nat.blt pc 26 then (bif Nat.blt pc 23 then (bif Nat.beq pc 22 then some (.iload_n 1, 0, 0) else none) else (bif Nat.beq pc 23 then some (.invokevirtual 168, 0, 0) else none)) else (bif Nat.blt pc 27 then (bif Nat.beq pc 26 then some (.i2l, 0, 0) else none) else (bif Nat.blt pc 30 then (bif Nat.beq pc 27 then some (.invokevirtual 215, 0, 0) else none) else (bif Nat.beq pc 30 then some (.iinc 1 1, 0, 1) else none)))))) else (bif Nat.blt pc 49 then (bif Nat.blt pc 41 then (bif Nat.blt pc 37 then (bif Nat.blt pc 36 then (bif Nat.beq pc 33 then some (.goto (-19), 14, 0) else none) else (bif Nat.beq pc 36 then some (.aload_n 0, 0, 0) else none)) else (bif Nat.blt pc 38 then (bif Nat.beq pc 37 then some (.aload_n 0, 0, 0) else none) else (bif Nat.beq pc 38 then some (.getfield 7, 0, 0) else none))) else (bif Nat.blt pc 44 then (bif Nat.blt pc 43 then (bif Nat.beq pc 41 then some (.bipush 32, 0, 32) else none) else (bif Nat.beq pc 43 then some (.iaload, 0, 0) else none)) else (bif Nat.blt pc 45 then (bif Nat.beq pc 44 then some (.i2l, 0, 0) else none) else (bif Nat.blt pc 48 then (bif Nat.beq pc 45 then some (.invokevirtual 215, 0, 0) else none) else (bif Nat.beq pc 48 then some (.aload_n 0, 0, 0) else none))))) else (bif Nat.blt pc 57 then (bif Nat.blt pc 53 then (bif Nat.blt pc 50 then (bif Nat.beq pc 49 then some (.aload_n 0, 0, 0) else none) else (bif Nat.beq pc 50 then some (.getfield 7, 0, 0) else none)) else (bif Nat.blt pc 55 then (bif Nat.beq pc 53 then some (.bipush 33, 0, 33) else none) else (bif Nat.blt pc 56 then (bif Nat.beq pc 55 then some (.iaload, 0, 0) else none) else (bif Nat.beq pc 56 then some (.i2l, 0, 0) else none)))) else (bif Nat.blt pc 61 then (bif Nat.blt pc 60 then (bif Nat.beq pc 57 then some (.invokevirtual 215, 0, 0) else none) else (bif Nat.beq pc 60 then some (.iconst 0, 0, 0) else none)) else (bif Nat.blt pc 62 then (bif Nat.beq pc 61 then some (.istore_n 1, 0, 0) else none) else (bif Nat.blt pc 63 then (bif Nat.beq pc 62 then some (.iload_n 1, 0, 0) else none) else (bif Nat.beq pc 63 then some (.iconst 4, 0, 4) else none))))))) else (bif Nat.blt pc 98 then (bif Nat.blt pc 78 then (bif Nat.blt pc 70 then (bif Nat.blt pc 68 then (bif Nat.blt pc 67 then (bif Nat.beq pc 64 then some (.if_icmp .ge 44, 108, 0) else none) else (bif Nat.beq pc 67 then some (.iconst 0, 0, 0) else none)) else (bif Nat.blt pc 69 then (bif Nat.beq pc 68 then some (.istore_n 2, 0, 0) else none) else (bif Nat.beq pc 69 then some (.iload_n 2, 0, 0) else none))) else (bif Nat.blt pc 75 then (bif Nat.blt pc 72 then (bif Nat.beq pc 70 then some (.bipush 9, 0, 9) else none) else (bif Nat.beq pc 72 then some (.if_icmp .ge 20, 92, 0) else none)) else (bif Nat.blt pc 76 then (bif Nat.beq pc 75 then some (.aload_n 0, 0, 0) else none) else (bif Nat.blt pc 77 then (bif Nat.beq pc 76 then some (.aload_n 0, 0, 0) else none) else (bif Nat.beq pc 77 then some (.iload_n 1, 0, 0) else none))))) else (bif Nat.blt pc 89 then (bif Nat.blt pc 82 then (bif Nat.blt pc 79 then (bif Nat.beq pc 78 then some (.iload_n 2, 0, 0) else none) else (bif Nat.beq pc 79 then some (.invokevirtual 156, 0, 0) else none)) else (bif Nat.blt pc 83 then (bif Nat.beq pc 82 then some (.i2l, 0, 0) else none) else (bif Nat.blt pc 86 then (bif Nat.beq pc 83 then some (.invokevirtual 215, 0, 0) else none) else (bif Nat.beq pc 86 then some (.iinc 2 1, 0, 1) else none)))) else (bif Nat.blt pc 93 then (bif Nat.blt pc 92 then (bif Nat.beq pc 89 then some (.goto (-20), 69, 0) else none) else (bif Nat.beq pc 92 then some (.aload_n 0, 0, 0) else none)) else (bif Nat.blt pc 94 then (bif Nat.beq pc 93 then some (.aload_n 0, 0, 0) else none) else (bif Nat.blt pc 95 then (bif Nat.beq pc 94 then some (.iload_n 1, 0, 0) else none) else (bif Nat.beq pc 95 then some (.invokevirtual 171, 0, 0) else none)))))) else (bif Nat.blt pc 117 then (bif Nat.blt pc 108 then (bif Nat.blt pc 102 then (bif Nat.blt pc 99 then (bif Nat.beq pc 98 then some (.i2l, 0, 0) else none) else (bif Nat.beq pc 99 then some (.invokevirtual 215, 0, 0) else none)) else (bif Nat.blt pc 105 then (bif Nat.beq pc 102 then some (.iinc 1 1, 0, 1) else none) else (bif Nat.beq pc 105 then some (.goto (-43), 62, 0) else none))) else (bif Nat.blt pc 110 then (bif Nat.blt pc 109 then (bif Nat.beq pc 108 then some (.iconst 0, 0, 0) else none) else (bif Nat.beq pc 109 then some (.istore_n 1, 0, 0) else none)) else (bif Nat.blt pc 111 then (bif Nat.beq pc 110 then some (.iload_n 1, 0, 0) else none) else (bif Nat.blt pc 114 then (bif Nat.beq pc 111 then some (.sipush 336, 0, 336) else none) else (bif Nat.beq pc 114 then some (.if_icmp .ge 26, 140, 0) else none))))) else (bif Nat.blt pc 123 then (bif Nat.blt pc 119 then (bif Nat.blt pc 118 then (bif Nat.beq pc 117 then some (.aload_n 0, 0, 0) else none) else (bif Nat.beq pc 118 then some (.aload_n 0, 0, 0) else none)) else (bif Nat.blt pc 120 then (bif Nat.beq pc 119 then some (.iload_n 1, 0, 0) else none) else (bif Nat.blt pc 122 then (bif Nat.beq pc 120 then some (.bipush 7, 0, 7) else none) else (bif Nat.beq pc 122 then some (.idiv, 0, 0) else none)))) else (bif Nat.blt pc 126 then (bif Nat.blt pc 124 then (bif Nat.beq pc 123 then some (.iload_n 1, 0, 0) else none) else (bif Nat.beq pc 124 then some (.bipush 7, 0, 7) else none)) else (bif Nat.blt pc 127 then (bif Nat.beq pc 126 then some (.irem, 0, 0) else none) else (bif Nat.blt pc 130 then (bif Nat.beq pc 127 then some (.invokevirtual 159, 0, 0) else none) else (bif Nat.beq pc 130 then some (.i2l, 0, 0) else none)))))))) else (bif Nat.blt pc 199 then (bif Nat.blt pc 162 then (bif Nat.blt pc 149 then (bif Nat.blt pc 141 then (bif Nat.blt pc 137 then (bif Nat.blt pc 134 then (bif Nat.beq pc 131 then some (.invokevirtual 215, 0, 0) else none) else (bif Nat.beq pc 134 then some (.iinc 1 1, 0, 1) else none)) else (bif Nat.blt pc 140 then (bif Nat.beq pc 137 then some (.goto (-27), 110, 0) else none) else (bif Nat.beq pc 140 then some (.iconst 0, 0, 0) else none))) else (bif Nat.blt pc 143 then (bif Nat.blt pc 142 then (bif Nat.beq pc 141 then some (.istore_n 1, 0, 0) else none) else (bif Nat.beq pc 142 then some (.iload_n 1, 0, 0) else none)) else (bif Nat.blt pc 145 then (bif Nat.beq pc 143 then some (.bipush 6, 0, 6) else none) else (bif Nat.blt pc 148 then (bif Nat.beq pc 145 then some (.if_icmp .ge 45, 190, 0) else none) else (bif Nat.beq pc 148 then some (.aload_n 0, 0, 0) else none))))) else (bif Nat.blt pc 153 then (bif Nat.blt pc 151 then (bif Nat.blt pc 150 then (bif Nat.beq pc 149 then some (.aload_n 0, 0, 0) else none) else (bif Nat.beq pc 150 then some (.iload_n 1, 0, 0) else none)) else (bif Nat.blt pc 152 then (bif Nat.beq pc 151 then some (.iconst 2, 0, 2) else none) else (bif Nat.beq pc 152 then some (.idiv, 0, 0) else none))) else (bif Nat.blt pc 157 then (bif Nat.blt pc 156 then (bif Nat.beq pc 153 then some (.ifCond .ne 7, 160, 0) else none) else (bif Nat.beq pc 156 then some (.iconst 0, 0, 0) else none)) else (bif Nat.blt pc 160 then (bif Nat.beq pc 157 then some (.goto 17, 174, 0) else none) else (bif Nat.blt pc 161 then (bif Nat.beq pc 160 then some (.iload_n 1, 0, 0) else none) else (bif Nat.beq pc 161 then some (.iconst 2, 0, 2) else none)))))) else (bif Nat.blt pc 177 then (bif Nat.blt pc 169 then (bif Nat.blt pc 164 then (bif Nat.blt pc 163 then (bif Nat.beq pc 162 then some (.idiv, 0, 0) else none) else (bif Nat.beq pc 163 then some (.iconst 1, 0, 1) else none)) else (bif Nat.blt pc 167 then (bif Nat.beq pc 164 then some (.if_icmp .ne 8, 172, 0) else none) else (bif Nat.beq pc 167 then some (.bipush 20, 0, 20) else none))) else (bif Nat.blt pc 174 then (bif Nat.blt pc 172 then (bif Nat.beq pc 169 then some (.goto 5, 174, 0) else none) else (bif Nat.beq pc 172 then some (.bipush 47, 0, 47) else none)) else (bif Nat.blt pc 175 then (bif Nat.beq pc 174 then some (.iload_n 1, 0, 0) else none) else (bif Nat.blt pc 176 then (bif Nat.beq pc 175 then some (.iconst 2, 0, 2) else none) else (bif Nat.beq pc 176 then some (.irem, 0, 0) else none))))) else (bif Nat.blt pc 190 then (bif Nat.blt pc 181 then (bif Nat.blt pc 180 then (bif Nat.beq pc 177 then some (.invokevirtual 174, 0, 0) else none) else (bif Nat.beq pc 180 then some (.i2l, 0, 0) else none)) else (bif Nat.blt pc 184 then (bif Nat.beq pc 181 then some (.invokevirtual 215, 0, 0) else none) else (bif Nat.blt pc 187 then (bif Nat.beq pc 184 then some (.iinc 1 1, 0, 1) else none) else (bif Nat.beq pc 187 then some (.goto (-45), 142, 0) else none)))) else (bif Nat.blt pc 192 then (bif Nat.blt pc 191 then (bif Nat.beq pc 190 then some (.aload_n 0, 0, 0) else none) else (bif Nat.beq pc 191 then some (.aload_n 0, 0, 0) else none)) else (bif Nat.blt pc 195 then (bif Nat.beq pc 192 then some (.invokevirtual 183, 0, 0) else none) else (bif Nat.blt pc 196 then (bif Nat.beq pc 195 then some (.i2l, 0, 0) else none) else (bif Nat.beq pc 196 then some (.invokevirtual 215, 0, 0) else none))))))) else (bif Nat.blt pc 234 then (bif Nat.blt pc 214 then (bif Nat.blt pc 205 then (bif Nat.blt pc 201 then (bif Nat.blt pc 200 then (bif Nat.beq pc 199 then some (.aload_n 0, 0, 0) else none) else (bif Nat.beq pc 200 then some (.aload_n 0, 0, 0) else none)) else (bif Nat.blt pc 204 then (bif Nat.beq pc 201 then some (.invokevirtual 189, 0, 0) else none) else (bif Nat.beq pc 204 then some (.i2l, 0, 0) else none))) else (bif Nat.blt pc 209 then (bif Nat.blt pc 208 then (bif Nat.beq pc 205 then some (.invokevirtual 215, 0, 0) else none) else (bif Nat.beq pc 208 then some (.aload_n 0, 0, 0) else none)) else (bif Nat.blt pc 210 then (bif Nat.beq pc 209 then some (.aload_n 0, 0, 0) else none) else (bif Nat.blt pc 213 then (bif Nat.beq pc 210 then some (.invokevirtual 192, 0, 0) else none) else (bif Nat.beq pc 213 then some (.i2l, 0, 0) else none))))) else (bif Nat.blt pc 225 then (bif Nat.blt pc 218 then (bif Nat.blt pc 217 then (bif Nat.beq pc 214 then some (.invokevirtual 215, 0, 0) else none) else (bif Nat.beq pc 217 then some (.aload_n 0, 0, 0) else none)) else (bif Nat.blt pc 219 then (bif Nat.beq pc 218 then some (.aload_n 0, 0, 0) else none) else (bif Nat.blt pc 222 then (bif Nat.beq pc 219 then some (.invokevirtual 195, 0, 0) else none) else (bif Nat.beq pc 222 then some (.invokestatic 219, 0, 0) else none)))) else (bif Nat.blt pc 229 then (bif Nat.blt pc 228 then (bif Nat.beq pc 225 then some (.invokevirtual 215, 0, 0) else none) else (bif Nat.beq pc 228 then some (.aload_n 0, 0, 0) else none)) else (bif Nat.blt pc 230 then (bif Nat.beq pc 229 then some (.aload_n 0, 0, 0) else none) else (bif Nat.blt pc 233 then (bif Nat.beq pc 230 then some (.getfield 118, 0, 0) else none) else (bif Nat.beq pc 233 then some (.i2l, 0, 0) else none)))))) else (bif Nat.blt pc 249 then (bif Nat.blt pc 240 then (bif Nat.blt pc 238 then (bif Nat.blt pc 237 then (bif Nat.beq pc 234 then some (.invokevirtual 215, 0, 0) else none) else (bif Nat.beq pc 237 then some (.iconst 0, 0, 0) else none)) else (bif Nat.blt pc 239 then (bif Nat.beq pc 238 then some (.istore_n 1, 0, 0) else none) else (bif Nat.beq pc 239 then some (.iload_n 1, 0, 0) else none))) else (bif Nat.blt pc 244 then (bif Nat.blt pc 241 then (bif Nat.beq pc 240 then some (.aload_n 0, 0, 0) else none) else (bif Nat.beq pc 241 then some (.getfield 118, 0, 0) else none)) else (bif Nat.blt pc 247 then (bif Nat.beq pc 244 then some (.if_icmp .ge 20, 264, 0) else none) else (bif Nat.blt pc 248 then (bif Nat.beq pc 247 then some (.aload_n 0, 0, 0) else none) else (bif Nat.beq pc 248 then some (.aload_n 0, 0, 0) else none))))) else (bif Nat.blt pc 258 then (bif Nat.blt pc 253 then (bif Nat.blt pc 252 then (bif Nat.beq pc 249 then some (.getfield 19, 0, 0) else none) else (bif Nat.beq pc 252 then some (.iload_n 1, 0, 0) else none)) else (bif Nat.blt pc 254 then (bif Nat.beq pc 253 then some (.iaload, 0, 0) else none) else (bif Nat.blt pc 255 then (bif Nat.beq pc 254 then some (.i2l, 0, 0) else none) else (bif Nat.beq pc 255 then some (.invokevirtual 215, 0, 0) else none)))) else (bif Nat.blt pc 264 then (bif Nat.blt pc 261 then (bif Nat.beq pc 258 then some (.iinc 1 1, 0, 1) else none) else (bif Nat.beq pc 261 then some (.goto (-22), 239, 0) else none)) else (bif Nat.blt pc 265 then (bif Nat.beq pc 264 then some (.aload_n 0, 0, 0) else none) else (bif Nat.blt pc 268 then (bif Nat.beq pc 265 then some (.getfield 209, 0, 0) else none) else (bif Nat.beq pc 268 then some (.lreturn, 0, 0) else none))))))))
def z_c134 (pc : Nat) : Option (Instr × Nat × Int32) := bif Nat.blt pc 27 then (bif Nat.blt pc 14 then (bif Nat.blt pc 7 then (bif Nat.blt pc 2 then (bif Nat.blt pc 1 then (bif Nat.beq pc 0 then some (.iload_n 0, 0, 0) else none) else (bif Nat.beq pc 1 then some (.iload_n 0, 0, 0) else none)) else (bif Nat.blt pc 3 then (bif Nat.beq pc 2 then some (.iconst 1, 0, 1) else none) else (bif Nat.blt pc 4 then (bif Nat.beq pc 3 then some (.iushr, 0, 0) else none) else (bif Nat.beq pc 4 then some (.ldc_w 265, 0, 1431655765) else none)))) else (bif Nat.blt pc 9 then (bif Nat.blt pc 8 then (bif Nat.beq pc 7 then some (.iand, 0, 0) else none) else (bif Nat.beq pc 8 then some (.isub, 0, 0) else none)) else (bif Nat.blt pc 10 then (bif Nat.beq pc 9 then some (.istore_n 0, 0, 0) else none) else (bif Nat.blt pc 11 then (bif Nat.beq pc 10 then some (.iload_n 0, 0, 0) else none) else (bif Nat.beq pc 11 then some (.ldc_w 266, 0, 858993459) else none))))) else (bif Nat.blt pc 21 then (bif Nat.blt pc 16 then (bif Nat.blt pc 15 then (bif Nat.beq pc 14 then some (.iand, 0, 0) else none) else (bif Nat.beq pc 15 then some (.iload_n 0, 0, 0) else none)) else (bif Nat.blt pc 17 then (bif Nat.beq pc 16 then some (.iconst 2, 0, 2) else none) else (bif Nat.blt pc 18 then (bif Nat.beq pc 17 then some (.iushr, 0, 0) else none) else (bif Nat.beq pc 18 then some (.ldc_w 266, 0, 858993459) else none)))) else (bif Nat.blt pc 24 then (bif Nat.blt pc 22 then (bif Nat.beq pc 21 then some (.iand, 0, 0) else none) else (bif Nat.blt pc 23 then (bif Nat.beq pc 22 then some (.iadd, 0, 0) else none) else (bif Nat.beq pc 23 then some (.istore_n 0, 0, 0) else none))) else (bif Nat.blt pc 25 then (bif Nat.beq pc 24 then some (.iload_n 0, 0, 0) else none) else (bif Nat.blt pc 26 then (bif Nat.beq pc 25 then some (.iload_n 0, 0, 0) else none) else (bif Nat.beq pc 26 then some (.iconst 4, 0, 4) else none)))))) else (bif Nat.blt pc 40 then (bif Nat.blt pc 34 then (bif Nat.blt pc 29 then (bif Nat.blt pc 28 then (bif Nat.beq pc 27 then some (.iushr, 0, 0) else none) else (bif Nat.beq pc 28 then some (.iadd, 0, 0) else none)) else (bif Nat.blt pc 32 then (bif Nat.beq pc 29 then some (.ldc_w 267, 0, 252645135) else none) else (bif Nat.blt pc 33 then (bif Nat.beq pc 32 then some (.iand, 0, 0) else none) else (bif Nat.beq pc 33 then some (.istore_n 0, 0, 0) else none)))) else (bif Nat.blt pc 36 then (bif Nat.blt pc 35 then (bif Nat.beq pc 34 then some (.iload_n 0, 0, 0) else none) else (bif Nat.beq pc 35 then some (.iload_n 0, 0, 0) else none)) else (bif Nat.blt pc 38 then (bif Nat.beq pc 36 then some (.bipush 8, 0, 8) else none) else (bif Nat.blt pc 39 then (bif Nat.beq pc 38 then some (.iushr, 0, 0) else none) else (bif Nat.beq pc 39 then some (.iadd, 0, 0) else none))))) else (bif Nat.blt pc 46 then (bif Nat.blt pc 42 then (bif Nat.blt pc 41 then (bif Nat.beq pc 40 then some (.istore_n 0, 0, 0) else none) else (bif Nat.beq pc 41 then some (.iload_n 0, 0, 0) else none)) else (bif Nat.blt pc 43 then (bif Nat.beq pc 42 then some (.iload_n 0, 0, 0) else none) else (bif Nat.blt pc 45 then (bif Nat.beq pc 43 then some (.bipush 16, 0, 16) else none) else (bif Nat.beq pc 45 then some (.iushr, 0, 0) else none)))) else (bif Nat.blt pc 49 then (bif Nat.blt pc 47 then (bif Nat.beq pc 46 then some (.iadd, 0, 0) else none) else (bif Nat.blt pc 48 then (bif Nat.beq pc 47 then some (.istore_n 0, 0, 0) else none) else (bif Nat.beq pc 48 then some (.iload_n 0, 0, 0) else none))) else (bif Nat.blt pc 51 then (bif Nat.beq pc 49 then some (.bipush 63, 0, 63) else none) else (bif Nat.blt pc 52 then (bif Nat.beq pc 51 then some (.iand, 0, 0) else none) else (bif Nat.beq pc 52 then some (.ireturn, 0, 0) else none))))))
def z_c135 (pc : Nat) : Option (Instr × Nat × Int32) := bif Nat.blt pc 15 then (bif Nat.blt pc 6 then (bif Nat.blt pc 3 then (bif Nat.blt pc 2 then (bif Nat.beq pc 0 then some (.aload 6, 0, 0) else none) else (bif Nat.beq pc 2 then some (.iconst 0, 0, 0) else none)) else (bif Nat.blt pc 4 then (bif Nat.beq pc 3 then some (.aload_n 0, 0, 0) else none) else (bif Nat.blt pc 5 then (bif Nat.beq pc 4 then some (.iload_n 1, 0, 0) else none) else (bif Nat.beq pc 5 then some (.iload_n 2, 0, 0) else none)))) else (bif Nat.blt pc 9 then (bif Nat.blt pc 7 then (bif Nat.beq pc 6 then some (.iload_n 3, 0, 0) else none) else (bif Nat.beq pc 7 then some (.iload 4, 0, 0) else none)) else (bif Nat.blt pc 11 then (bif Nat.beq pc 9 then some (.iload 5, 0, 0) else none) else (bif Nat.blt pc 14 then (bif Nat.beq pc 11 then some (.invokevirtual 7, 0, 0) else none) else (bif Nat.beq pc 14 then some (.i2l, 0, 0) else none))))) else (bif Nat.blt pc 23 then (bif Nat.blt pc 19 then (bif Nat.blt pc 16 then (bif Nat.beq pc 15 then some (.lastore, 0, 0) else none) else (bif Nat.beq pc 16 then some (.goto 11, 27, 0) else none)) else (bif Nat.blt pc 21 then (bif Nat.beq pc 19 then some (.astore 7, 0, 0) else none) else (bif Nat.blt pc 22 then (bif Nat.beq pc 21 then some (.iconst 1, 0, 1) else none) else (bif Nat.beq pc 22 then some (.ireturn, 0, 0) else none)))) else (bif Nat.blt pc 26 then (bif Nat.blt pc 25 then (bif Nat.beq pc 23 then some (.astore 7, 0, 0) else none) else (bif Nat.beq pc 25 then some (.iconst 2, 0, 2) else none)) else (bif Nat.blt pc 27 then (bif Nat.beq pc 26 then some (.ireturn, 0, 0) else none) else (bif Nat.blt pc 28 then (bif Nat.beq pc 27 then some (.iconst 0, 0, 0) else none) else (bif Nat.beq pc 28 then some (.ireturn, 0, 0) else none)))))
def z_c136 (pc : Nat) : Option (Instr × Nat × Int32) := bif Nat.blt pc 12 then (bif Nat.blt pc 4 then (bif Nat.blt pc 2 then (bif Nat.blt pc 1 then (bif Nat.beq pc 0 then some (.aload_n 2, 0, 0) else none) else (bif Nat.beq pc 1 then some (.iconst 0, 0, 0) else none)) else (bif Nat.blt pc 3 then (bif Nat.beq pc 2 then some (.aload_n 0, 0, 0) else none) else (bif Nat.beq pc 3 then some (.iload_n 1, 0, 0) else none))) else (bif Nat.blt pc 8 then (bif Nat.blt pc 7 then (bif Nat.beq pc 4 then some (.invokevirtual 17, 0, 0) else none) else (bif Nat.beq pc 7 then some (.i2l, 0, 0) else none)) else (bif Nat.blt pc 9 then (bif Nat.beq pc 8 then some (.lastore, 0, 0) else none) else (bif Nat.beq pc 9 then some (.goto 9, 18, 0) else none)))) else (bif Nat.blt pc 16 then (bif Nat.blt pc 14 then (bif Nat.blt pc 13 then (bif Nat.beq pc 12 then some (.astore_n 3, 0, 0) else none) else (bif Nat.beq pc 13 then some (.iconst 1, 0, 1) else none)) else (bif Nat.blt pc 15 then (bif Nat.beq pc 14 then some (.ireturn, 0, 0) else none) else (bif Nat.beq pc 15 then some (.astore_n 3, 0, 0) else none))) else (bif Nat.blt pc 18 then (bif Nat.blt pc 17 then (bif Nat.beq pc 16 then some (.iconst 2, 0, 2) else none) else (bif Nat.beq pc 17 then some (.ireturn, 0, 0) else none)) else (bif Nat.blt pc 19 then (bif Nat.beq pc 18 then some (.iconst 0, 0, 0) else none) else (bif Nat.beq pc 19 then some (.ireturn, 0, 0) else none))))
def z_c137 (pc : Nat) : Option (Instr × Nat × Int32) := bif Nat.blt pc 12 then (bif Nat.blt pc 4 then (bif Nat.blt pc 2 then (bif Nat.blt pc 1 then (bif Nat.beq pc 0 then some (.aload_n 2, 0, 0) else none) else (bif Nat.beq pc 1 then some (.iconst 0, 0, 0) else none)) else (bif Nat.blt pc 3 then (bif Nat.beq pc 2 then some (.aload_n 0, 0, 0) else none) else (bif Nat.beq pc 3 then some (.iload_n 1, 0, 0) else none))) else (bif Nat.blt pc 8 then (bif Nat.blt pc 7 then (bif Nat.beq pc 4 then some (.invokevirtual 21, 0, 0) else none) else (bif Nat.beq pc 7 then some (.i2l, 0, 0) else none)) else (bif Nat.blt pc 9 then (bif Nat.beq pc 8 then some (.lastore, 0, 0) else none) else (bif Nat.beq pc 9 then some (.goto 9, 18, 0) else none)))) else (bif Nat.blt pc 16 then (bif Nat.blt pc 14 then (bif Nat.blt pc 13 then (bif Nat.beq pc 12 then some (.astore_n 3, 0, 0) else none) else (bif Nat.beq pc 13 then some (.iconst 1, 0, 1) else none)) else (bif Nat.blt pc 15 then (bif Nat.beq pc 14 then some (.ireturn, 0, 0) else none) else (bif Nat.beq pc 15 then some (.astore_n 3, 0, 0) else none))) else (bif Nat.blt pc 18 then (bif Nat.blt pc 17 then (bif Nat.beq pc 16 then some (.iconst 2, 0, 2) else none) else (bif Nat.beq pc 17 then some (.ireturn, 0, 0) else none)) else (bif Nat.blt pc 19 then (bif Nat.beq pc 18 then some (.iconst 0, 0, 0) else none) else (bif Nat.beq pc 19 then some (.ireturn, 0, 0) else none))))
def z_c138 (pc : Nat) : Option (Instr × Nat × Int32) := bif Nat.blt pc 8 then (bif Nat.blt pc 3 then (bif Nat.blt pc 1 then (bif Nat.beq pc 0 then some (.aload_n 2, 0, 0) else none) else (bif Nat.blt pc 2 then (bif Nat.beq pc 1 then some (.iconst 0, 0, 0) else none) else (bif Nat.beq pc 2 then some (.aload_n 0, 0, 0) else none))) else (bif Nat.blt pc 4 then (bif Nat.beq pc 3 then some (.iload_n 1, 0, 0) else none) else (bif Nat.blt pc 7 then (bif Nat.beq pc 4 then some (.invokevirtual 24, 0, 0) else none) else (bif Nat.beq pc 7 then some (.i2l, 0, 0) else none)))) else (bif Nat.blt pc 13 then (bif Nat.blt pc 9 then (bif Nat.beq pc 8 then some (.lastore, 0, 0) else none) else (bif Nat.blt pc 12 then (bif Nat.beq pc 9 then some (.goto 6, 15, 0) else none) else (bif Nat.beq pc 12 then some (.astore_n 3, 0, 0) else none))) else (bif Nat.blt pc 15 then (bif Nat.blt pc 14 then (bif Nat.beq pc 13 then some (.iconst 1, 0, 1) else none) else (bif Nat.beq pc 14 then some (.ireturn, 0, 0) else none)) else (bif Nat.blt pc 16 then (bif Nat.beq pc 15 then some (.iconst 0, 0, 0) else none) else (bif Nat.beq pc 16 then some (.ireturn, 0, 0) else none))))
def z_c139 (pc : Nat) : Option (Instr × Nat × Int32) := bif Nat.blt pc 9 then (bif Nat.blt pc 3 then (bif Nat.blt pc 1 then (bif Nat.beq pc 0 then some (.aload_n 3, 0, 0) else none) else (bif Nat.blt pc 2 then (bif Nat.beq pc 1 then some (.iconst 0, 0, 0) else none) else (bif Nat.beq pc 2 then some (.aload_n 0, 0, 0) else none))) else (bif Nat.blt pc 5 then (bif Nat.blt pc 4 then (bif Nat.beq pc 3 then some (.iload_n 1, 0, 0) else none) else (bif Nat.beq pc 4 then some (.iload_n 2, 0, 0) else none)) else (bif Nat.blt pc 8 then (bif Nat.beq pc 5 then some (.invokevirtual 27, 0, 0) else none) else (bif Nat.beq pc 8 then some (.i2l, 0, 0) else none)))) else (bif Nat.blt pc 15 then (bif Nat.blt pc 10 then (bif Nat.beq pc 9 then some (.lastore, 0, 0) else none) else (bif Nat.blt pc 13 then (bif Nat.beq pc 10 then some (.goto 7, 17, 0) else none) else (bif Nat.beq pc 13 then some (.astore 4, 0, 0) else none))) else (bif Nat.blt pc 17 then (bif Nat.blt pc 16 then (bif Nat.beq pc 15 then some (.iconst 1, 0, 1) else none) else (bif Nat.beq pc 16 then some (.ireturn, 0, 0) else none)) else (bif Nat.blt pc 18 then (bif Nat.beq pc 17 then some (.iconst 0, 0, 0) else none) else (bif Nat.beq pc 18 then some (.ireturn, 0, 0) else none))))
def z_c140 (pc : Nat) : Option (Instr × Nat × Int32) := bif Nat.blt pc 12 then (bif Nat.blt pc 4 then (bif Nat.blt pc 2 then (bif Nat.blt pc 1 then (bif Nat.beq pc 0 then some (.aload_n 2, 0, 0) else none) else (bif Nat.beq pc 1 then some (.iconst 0, 0, 0) else none)) else (bif Nat.blt pc 3 then (bif Nat.beq pc 2 then some (.aload_n 0, 0, 0) else none) else (bif Nat.beq pc 3 then some (.iload_n 1, 0, 0) else none))) else (bif Nat.blt pc 8 then (bif Nat.blt pc 7 then (bif Nat.beq pc 4 then some (.invokevirtual 31, 0, 0) else none) else (bif Nat.beq pc 7 then some (.i2l, 0, 0) else none)) else (bif Nat.blt pc 9 then (bif Nat.beq pc 8 then some (.lastore, 0, 0) else none) else (bif Nat.beq pc 9 then some (.goto 9, 18, 0) else none)))) else (bif Nat.blt pc 16 then (bif Nat.blt pc 14 then (bif Nat.blt pc 13 then (bif Nat.beq pc 12 then some (.astore_n 3, 0, 0) else none) else (bif Nat.beq pc 13 then some (.iconst 1, 0, 1) else none)) else (bif Nat.blt pc 15 then (bif Nat.beq pc 14 then some (.ireturn, 0, 0) else none) else (bif Nat.beq pc 15 then some (.astore_n 3, 0, 0) else none))) else (bif Nat.blt pc 18 then (bif Nat.blt pc 17 then (bif Nat.beq pc 16 then some (.iconst 2, 0, 2) else none) else (bif Nat.beq pc 17 then some (.ireturn, 0, 0) else none)) else (bif Nat.blt pc 19 then (bif Nat.beq pc 18 then some (.iconst 0, 0, 0) else none) else (bif Nat.beq pc 19 then some (.ireturn, 0, 0) else none))))
def z_c141 (pc : Nat) : Option (Instr × Nat × Int32) := bif Nat.blt pc 10 then (bif Nat.blt pc 4 then (bif Nat.blt pc 2 then (bif Nat.blt pc 1 then (bif Nat.beq pc 0 then some (.aload_n 3, 0, 0) else none) else (bif Nat.beq pc 1 then some (.iconst 0, 0, 0) else none)) else (bif Nat.blt pc 3 then (bif Nat.beq pc 2 then some (.aload_n 0, 0, 0) else none) else (bif Nat.beq pc 3 then some (.iload_n 1, 0, 0) else none))) else (bif Nat.blt pc 8 then (bif Nat.blt pc 5 then (bif Nat.beq pc 4 then some (.iload_n 2, 0, 0) else none) else (bif Nat.beq pc 5 then some (.invokevirtual 34, 0, 0) else none)) else (bif Nat.blt pc 9 then (bif Nat.beq pc 8 then some (.i2l, 0, 0) else none) else (bif Nat.beq pc 9 then some (.lastore, 0, 0) else none)))) else (bif Nat.blt pc 17 then (bif Nat.blt pc 15 then (bif Nat.blt pc 13 then (bif Nat.beq pc 10 then some (.goto 11, 21, 0) else none) else (bif Nat.beq pc 13 then some (.astore 4, 0, 0) else none)) else (bif Nat.blt pc 16 then (bif Nat.beq pc 15 then some (.iconst 1, 0, 1) else none) else (bif Nat.beq pc 16 then some (.ireturn, 0, 0) else none))) else (bif Nat.blt pc 20 then (bif Nat.blt pc 19 then (bif Nat.beq pc 17 then some (.astore 4, 0, 0) else none) else (bif Nat.beq pc 19 then some (.iconst 2, 0, 2) else none)) else (bif Nat.blt pc 21 then (bif Nat.beq pc 20 then some (.ireturn, 0, 0) else none) else (bif Nat.blt pc 22 then (bif Nat.beq pc 21 then some (.iconst 0, 0, 0) else none) else (bif Nat.beq pc 22 then some (.ireturn, 0, 0) else none)))))
def z_c142 (pc : Nat) : Option (Instr × Nat × Int32) := bif Nat.blt pc 12 then (bif Nat.blt pc 4 then (bif Nat.blt pc 2 then (bif Nat.blt pc 1 then (bif Nat.beq pc 0 then some (.aload_n 2, 0, 0) else none) else (bif Nat.beq pc 1 then some (.iconst 0, 0, 0) else none)) else (bif Nat.blt pc 3 then (bif Nat.beq pc 2 then some (.aload_n 0, 0, 0) else none) else (bif Nat.beq pc 3 then some (.iload_n 1, 0, 0) else none))) else (bif Nat.blt pc 8 then (bif Nat.blt pc 7 then (bif Nat.beq pc 4 then some (.invokevirtual 39, 0, 0) else none) else (bif Nat.beq pc 7 then some (.i2l, 0, 0) else none)) else (bif Nat.blt pc 9 then (bif Nat.beq pc 8 then some (.lastore, 0, 0) else none) else (bif Nat.beq pc 9 then some (.goto 9, 18, 0) else none)))) else (bif Nat.blt pc 16 then (bif Nat.blt pc 14 then (bif Nat.blt pc 13 then (bif Nat.beq pc 12 then some (.astore_n 3, 0, 0) else none) else (bif Nat.beq pc 13 then some (.iconst 1, 0, 1) else none)) else (bif Nat.blt pc 15 then (bif Nat.beq pc 14 then some (.ireturn, 0, 0) else none) else (bif Nat.beq pc 15 then some (.astore_n 3, 0, 0) else none))) else (bif Nat.blt pc 18 then (bif Nat.blt pc 17 then (bif Nat.beq pc 16 then some (.iconst 2, 0, 2) else none) else (bif Nat.beq pc 17 then some (.ireturn, 0, 0) else none)) else (bif Nat.blt pc 19 then (bif Nat.beq pc 18 then some (.iconst 0, 0, 0) else none) else (bif Nat.beq pc 19 then some (.ireturn, 0, 0) else none))))
def z_c143 (pc : Nat) : Option (Instr × Nat × Int32) := bif Nat.blt pc 8 then (bif Nat.blt pc 3 then (bif Nat.blt pc 1 then (bif Nat.beq pc 0 then some (.aload_n 1, 0, 0) else none) else (bif Nat.blt pc 2 then (bif Nat.beq pc 1 then some (.iconst 0, 0, 0) else none) else (bif Nat.beq pc 2 then some (.aload_n 0, 0, 0) else none))) else (bif Nat.blt pc 6 then (bif Nat.beq pc 3 then some (.invokevirtual 42, 0, 0) else none) else (bif Nat.blt pc 7 then (bif Nat.beq pc 6 then some (.i2l, 0, 0) else none) else (bif Nat.beq pc 7 then some (.lastore, 0, 0) else none)))) else (bif Nat.blt pc 13 then (bif Nat.blt pc 11 then (bif Nat.beq pc 8 then some (.goto 6, 14, 0) else none) else (bif Nat.blt pc 12 then (bif Nat.beq pc 11 then some (.astore_n 2, 0, 0) else none) else (bif Nat.beq pc 12 then some (.iconst 1, 0, 1) else none))) else (bif Nat.blt pc 14 then (bif Nat.beq pc 13 then some (.ireturn, 0, 0) else none) else (bif Nat.blt pc 15 then (bif Nat.beq pc 14 then some (.iconst 0, 0, 0) else none) else (bif Nat.beq pc 15 then some (.ireturn, 0, 0) else none))))
def z_c144 (pc : Nat) : Option (Instr × Nat × Int32) := bif Nat.blt pc 8 then (bif Nat.blt pc 3 then (bif Nat.blt pc 1 then (bif Nat.beq pc 0 then some (.aload_n 1, 0, 0) else none) else (bif Nat.blt pc 2 then (bif Nat.beq pc 1 then some (.iconst 0, 0, 0) else none) else (bif Nat.beq pc 2 then some (.aload_n 0, 0, 0) else none))) else (bif Nat.blt pc 6 then (bif Nat.beq pc 3 then some (.invokevirtual 46, 0, 0) else none) else (bif Nat.blt pc 7 then (bif Nat.beq pc 6 then some (.i2l, 0, 0) else none) else (bif Nat.beq pc 7 then some (.lastore, 0, 0) else none)))) else (bif Nat.blt pc 13 then (bif Nat.blt pc 11 then (bif Nat.beq pc 8 then some (.goto 6, 14, 0) else none) else (bif Nat.blt pc 12 then (bif Nat.beq pc 11 then some (.astore_n 2, 0, 0) else none) else (bif Nat.beq pc 12 then some (.iconst 1, 0, 1) else none))) else (bif Nat.blt pc 14 then (bif Nat.beq pc 13 then some (.ireturn, 0, 0) else none) else (bif Nat.blt pc 15 then (bif Nat.beq pc 14 then some (.iconst 0, 0, 0) else none) else (bif Nat.beq pc 15 then some (.ireturn, 0, 0) else none))))
def z_c145 (pc : Nat) : Option (Instr × Nat × Int32) := bif Nat.blt pc 9 then (bif Nat.blt pc 3 then (bif Nat.blt pc 1 then (bif Nat.beq pc 0 then some (.aload_n 3, 0, 0) else none) else (bif Nat.blt pc 2 then (bif Nat.beq pc 1 then some (.iconst 0, 0, 0) else none) else (bif Nat.beq pc 2 then some (.aload_n 0, 0, 0) else none))) else (bif Nat.blt pc 5 then (bif Nat.blt pc 4 then (bif Nat.beq pc 3 then some (.iload_n 1, 0, 0) else none) else (bif Nat.beq pc 4 then some (.iload_n 2, 0, 0) else none)) else (bif Nat.blt pc 8 then (bif Nat.beq pc 5 then some (.invokevirtual 49, 0, 0) else none) else (bif Nat.beq pc 8 then some (.i2l, 0, 0) else none)))) else (bif Nat.blt pc 15 then (bif Nat.blt pc 10 then (bif Nat.beq pc 9 then some (.lastore, 0, 0) else none) else (bif Nat.blt pc 13 then (bif Nat.beq pc 10 then some (.goto 7, 17, 0) else none) else (bif Nat.beq pc 13 then some (.astore 4, 0, 0) else none))) else (bif Nat.blt pc 17 then (bif Nat.blt pc 16 then (bif Nat.beq pc 15 then some (.iconst 1, 0, 1) else none) else (bif Nat.beq pc 16 then some (.ireturn, 0, 0) else none)) else (bif Nat.blt pc 18 then (bif Nat.beq pc 17 then some (.iconst 0, 0, 0) else none) else (bif Nat.beq pc 18 then some (.ireturn, 0, 0) else none))))
def z_c146 (pc : Nat) : Option (Instr × Nat × Int32) := bif Nat.blt pc 9 then (bif Nat.blt pc 3 then (bif Nat.blt pc 1 then (bif Nat.beq pc 0 then some (.aload_n 3, 0, 0) else none) else (bif Nat.blt pc 2 then (bif Nat.beq pc 1 then some (.iconst 0, 0, 0) else none) else (bif Nat.beq pc 2 then some (.aload_n 0, 0, 0) else none))) else (bif Nat.blt pc 5 then (bif Nat.blt pc 4 then (bif Nat.beq pc 3 then some (.iload_n 1, 0, 0) else none) else (bif Nat.beq pc 4 then some (.iload_n 2, 0, 0) else none)) else (bif Nat.blt pc 8 then (bif Nat.beq pc 5 then some (.invokevirtual 52, 0, 0) else none) else (bif Nat.beq pc 8 then some (.i2l, 0, 0) else none)))) else (bif Nat.blt pc 15 then (bif Nat.blt pc 10 then (bif Nat.beq pc 9 then some (.lastore, 0, 0) else none) else (bif Nat.blt pc 13 then (bif Nat.beq pc 10 then some (.goto 7, 17, 0) else none) else (bif Nat.beq pc 13 then some (.astore 4, 0, 0) else none))) else (bif Nat.blt pc 17 then (bif Nat.blt pc 16 then (bif Nat.beq pc 15 then some (.iconst 1, 0, 1) else none) else (bif Nat.beq pc 16 then some (.ireturn, 0, 0) else none)) else (bif Nat.blt pc 18 then (bif Nat.beq pc 17 then some (.iconst 0, 0, 0) else none) else (bif Nat.beq pc 18 then some (.ireturn, 0, 0) else none))))
def z_c147 (pc : Nat) : Option (Instr × Nat × Int32) := bif Nat.blt pc 8 then (bif Nat.blt pc 3 then (bif Nat.blt pc 1 then (bif Nat.beq pc 0 then some (.aload_n 2, 0, 0) else none) else (bif Nat.blt pc 2 then (bif Nat.beq pc 1 then some (.iconst 0, 0, 0) else none) else (bif Nat.beq pc 2 then some (.aload_n 0, 0, 0) else none))) else (bif Nat.blt pc 4 then (bif Nat.beq pc 3 then some (.iload_n 1, 0, 0) else none) else (bif Nat.blt pc 7 then (bif Nat.beq pc 4 then some (.invokevirtual 55, 0, 0) else none) else (bif Nat.beq pc 7 then some (.i2l, 0, 0) else none)))) else (bif Nat.blt pc 13 then (bif Nat.blt pc 9 then (bif Nat.beq pc 8 then some (.lastore, 0, 0) else none) else (bif Nat.blt pc 12 then (bif Nat.beq pc 9 then some (.goto 6, 15, 0) else none) else (bif Nat.beq pc 12 then some (.astore_n 3, 0, 0) else none))) else (bif Nat.blt pc 15 then (bif Nat.blt pc 14 then (bif Nat.beq pc 13 then some (.iconst 1, 0, 1) else none) else (bif Nat.beq pc 14 then some (.ireturn, 0, 0) else none)) else (bif Nat.blt pc 16 then (bif Nat.beq pc 15 then some (.iconst 0, 0, 0) else none) else (bif Nat.beq pc 16 then some (.ireturn, 0, 0) else none))))
def z_c148 (pc : Nat) : Option (Instr × Nat × Int32) := bif Nat.blt pc 8 then (bif Nat.blt pc 3 then (bif Nat.blt pc 1 then (bif Nat.beq pc 0 then some (.aload_n 2, 0, 0) else none) else (bif Nat.blt pc 2 then (bif Nat.beq pc 1 then some (.iconst 0, 0, 0) else none) else (bif Nat.beq pc 2 then some (.aload_n 0, 0, 0) else none))) else (bif Nat.blt pc 4 then (bif Nat.beq pc 3 then some (.iload_n 1, 0, 0) else none) else (bif Nat.blt pc 7 then (bif Nat.beq pc 4 then some (.invokevirtual 58, 0, 0) else none) else (bif Nat.beq pc 7 then some (.i2l, 0, 0) else none)))) else (bif Nat.blt pc 13 then (bif Nat.blt pc 9 then (bif Nat.beq pc 8 then some (.lastore, 0, 0) else none) else (bif Nat.blt pc 12 then (bif Nat.beq pc 9 then some (.goto 6, 15, 0) else none) else (bif Nat.beq pc 12 then some (.astore_n 3, 0, 0) else none))) else (bif Nat.blt pc 15 then (bif Nat.blt pc 14 then (bif Nat.beq pc 13 then some (.iconst 1, 0, 1) else none) else (bif Nat.beq pc 14 then some (.ireturn, 0, 0) else none)) else (bif Nat.blt pc 16 then (bif Nat.beq pc 15 then some (.iconst 0, 0, 0) else none) else (bif Nat.beq pc 16 then some (.ireturn, 0, 0) else none))))
def z_c149 (pc : Nat) : Option (Instr × Nat × Int32) := bif Nat.blt pc 8 then (bif Nat.blt pc 3 then (bif Nat.blt pc 1 then (bif Nat.beq pc 0 then some (.aload_n 2, 0, 0) else none) else (bif Nat.blt pc 2 then (bif Nat.beq pc 1 then some (.iconst 0, 0, 0) else none) else (bif Nat.beq pc 2 then some (.aload_n 0, 0, 0) else none))) else (bif Nat.blt pc 4 then (bif Nat.beq pc 3 then some (.iload_n 1, 0, 0) else none) else (bif Nat.blt pc 7 then (bif Nat.beq pc 4 then some (.invokevirtual 61, 0, 0) else none) else (bif Nat.beq pc 7 then some (.i2l, 0, 0) else none)))) else (bif Nat.blt pc 13 then (bif Nat.blt pc 9 then (bif Nat.beq pc 8 then some (.lastore, 0, 0) else none) else (bif Nat.blt pc 12 then (bif Nat.beq pc 9 then some (.goto 6, 15, 0) else none) else (bif Nat.beq pc 12 then some (.astore_n 3, 0, 0) else none))) else (bif Nat.blt pc 15 then (bif Nat.blt pc 14 then (bif Nat.beq pc 13 then some (.iconst 1, 0, 1) else none) else (bif Nat.beq pc 14 then some (.ireturn, 0, 0) else none)) else (bif Nat.blt pc 16 then (bif Nat.beq pc 15 then some (.iconst 0, 0, 0) else none) else (bif Nat.beq pc 16 then some (.ireturn, 0, 0) else none))))
def z_c150 (pc : Nat) : Option (Instr × Nat × Int32) := bif Nat.blt pc 9 then (bif Nat.blt pc 3 then (bif Nat.blt pc 1 then (bif Nat.beq pc 0 then some (.aload_n 3, 0, 0) else none) else (bif Nat.blt pc 2 then (bif Nat.beq pc 1 then some (.iconst 0, 0, 0) else none) else (bif Nat.beq pc 2 then some (.aload_n 0, 0, 0) else none))) else (bif Nat.blt pc 5 then (bif Nat.blt pc 4 then (bif Nat.beq pc 3 then some (.iload_n 1, 0, 0) else none) else (bif Nat.beq pc 4 then some (.iload_n 2, 0, 0) else none)) else (bif Nat.blt pc 8 then (bif Nat.beq pc 5 then some (.invokevirtual 64, 0, 0) else none) else (bif Nat.beq pc 8 then some (.i2l, 0, 0) else none)))) else (bif Nat.blt pc 15 then (bif Nat.blt pc 10 then (bif Nat.beq pc 9 then some (.lastore, 0, 0) else none) else (bif Nat.blt pc 13 then (bif Nat.beq pc 10 then some (.goto 7, 17, 0) else none) else (bif Nat.beq pc 13 then some (.astore 4, 0, 0) else none))) else (bif Nat.blt pc 17 then (bif Nat.blt pc 16 then (bif Nat.beq pc 15 then some (.iconst 1, 0, 1) else none) else (bif Nat.beq pc 16 then some (.ireturn, 0, 0) else none)) else (bif Nat.blt pc 18 then (bif Nat.beq pc 17 then some (.iconst 0, 0, 0) else none) else (bif Nat.beq pc 18 then some (.ireturn, 0, 0) else none))))
def z_c151 (pc : Nat) : Option (Instr × Nat × Int32) := bif Nat.blt pc 682 then (bif Nat.blt pc 403 then (bif Nat.blt pc 258 then (bif Nat.blt pc 193 then (bif Nat.blt pc 164 then (bif Nat.blt pc 40 then (bif Nat.blt pc 30 then (bif Nat.blt pc 26 then (bif Nat.blt pc 25 then (bif Nat.beq pc 23 then some (.iload 4, 0, 0) else none) else (bif Nat.beq pc 25 then some (.aload_n 0, 0, 0) else none)) else (bif Nat.blt pc 27 then (bif Nat.beq pc 26 then some (.arraylength, 0, 0) else none) else (bif Nat.blt pc 29 then (bif Nat.beq pc 27 then some (.bipush 6, 0, 6) else none) else (bif Nat.beq pc 29 then some (.isub, 0, 0) else none)))) else (bif Nat.blt pc 36 then (bif Nat.blt pc 33 then (bif Nat.beq pc 30 then some (.if_icmp .gt 1241, 1271, 0) else none) else (bif Nat.blt pc 34 then (bif Nat.beq pc 33 then some (.aload_n 0, 0, 0) else none) else (bif Nat.beq pc 34 then some (.iload 4, 0, 0) else none))) else (bif Nat.blt pc 37 then (bif Nat.beq pc 36 then some (.iaload, 0, 0) else none) else (bif Nat.blt pc 39 then (bif Nat.beq pc 37 then some (.bipush 31, 0, 31) else none) else (bif Nat.beq pc 39 then some (.iand, 0, 0) else none))))) else (bif Nat.blt pc 157 then (bif Nat.blt pc 153 then (bif Nat.blt pc 152 then (bif Nat.beq pc 40 then some (.tableswitch 1225 0 23 #[112, 216, 272, 328, 384, 397, 465, 521, 589, 645, 658, 671, 715, 759, 827, 895, 951, 1007, 1063, 1131, 1144, 1157, 1170, 1211], 0, 0) else none) else (bif Nat.beq pc 152 then some (.aload_n 1, 0, 0) else none)) else (bif Nat.blt pc 154 then (bif Nat.beq pc 153 then some (.aload_n 0, 0, 0) else none) else (bif Nat.blt pc 156 then (bif Nat.beq pc 154 then some (.iload 4, 0, 0) else none) else (bif Nat.beq pc 156 then some (.iconst 1, 0, 1) else none)))) else (bif Nat.blt pc 160 then (bif Nat.blt pc 158 then (bif Nat.beq pc 157 then some (.iadd, 0, 0) else none) else (bif Nat.blt pc 159 then (bif Nat.beq pc 158 then some (.iaload, 0, 0) else none) else (bif Nat.beq pc 159 then some (.aload_n 0, 0, 0) else none))) else (bif Nat.blt pc 162 then (bif Nat.beq pc 160 then some (.iload 4, 0, 0) else none) else (bif Nat.blt pc 163 then (bif Nat.beq pc 162 then some (.iconst 2, 0, 2) else none) else (bif Nat.beq pc 163 then some (.iadd, 0, 0) else none)))))) else (bif Nat.blt pc 177 then (bif Nat.blt pc 170 then (bif Nat.blt pc 166 then (bif Nat.blt pc 165 then (bif Nat.beq pc 164 then some (.iaload, 0, 0) else none) else (bif Nat.beq pc 165 then some (.aload_n 0, 0, 0) else none)) else (bif Nat.blt pc 168 then (bif Nat.beq pc 166 then some (.iload 4, 0, 0) else none) else (bif Nat.blt pc 169 then (bif Nat.beq pc 168 then some (.iconst 3, 0, 3) else none) else (bif Nat.beq pc 169 then some (.iadd, 0, 0) else none)))) else (bif Nat.blt pc 174 then (bif Nat.blt pc 171 then (bif Nat.beq pc 170 then some (.iaload, 0, 0) else none) else (bif Nat.blt pc 172 then (bif Nat.beq pc 171 then some (.aload_n 0, 0, 0) else none) else (bif Nat.beq pc 172 then some (.iload 4, 0, 0) else none))) else (bif Nat.blt pc 175 then (bif Nat.beq pc 174 then some (.iconst 4, 0, 4) else none) else (bif Nat.blt pc 176 then (bif Nat.beq pc 175 then some (.iadd, 0, 0) else none) else (bif Nat.beq pc 176 then some (.iaload, 0, 0) else none))))) else (bif Nat.blt pc 183 then (bif Nat.blt pc 180 then (bif Nat.blt pc 178 then (bif Nat.beq pc 177 then some (.aload_n 0, 0, 0) else none) else (bif Nat.beq pc 178 then some (.iload 4, 0, 0) else none)) else (bif Nat.blt pc 181 then (bif Nat.beq pc 180 then some (.iconst 5, 0, 5) else none) else (bif Nat.blt pc 182 then (bif Nat.beq pc 181 then some (.iadd, 0, 0) else none) else (bif Nat.beq pc 182 then some (.iaload, 0, 0) else none)))) else (bif Nat.blt pc 189 then (bif Nat.blt pc 184 then (bif Nat.beq pc 183 then some (.aload_n 3, 0, 0) else none) else (bif Nat.blt pc 187 then (bif Nat.beq pc 184 then some (.invokestatic 71, 0, 0) else none) else (bif Nat.beq pc 187 then some (.istore 5, 0, 0) else none))) else (bif Nat.blt pc 190 then (bif Nat.beq pc 189 then some (.aload_n 2, 0, 0) else none) else (bif Nat.blt pc 191 then (bif Nat.beq pc 190 then some (.aload_n 0, 0, 0) else none) else (bif Nat.beq pc 191 then some (.iload 4, 0, 0) else none))))))) else (bif Nat.blt pc 219 then (bif Nat.blt pc 206 then (bif Nat.blt pc 199 then (bif Nat.blt pc 195 then (bif Nat.blt pc 194 then (bif Nat.beq pc 193 then some (.iconst 1, 0, 1) else none) else (bif Nat.beq pc 194 then some (.iadd, 0, 0) else none)) else (bif Nat.blt pc 196 then (bif Nat.beq pc 195 then some (.iaload, 0, 0) else none) else (bif Nat.blt pc 197 then (bif Nat.beq pc 196 then some (.aload_n 0, 0, 0) else none) else (bif Nat.beq pc 197 then some (.iload 4, 0, 0) else none)))) else (bif Nat.blt pc 202 then (bif Nat.blt pc 200 then (bif Nat.beq pc 199 then some (.iconst 2, 0, 2) else none) else (bif Nat.blt pc 201 then (bif Nat.beq pc 200 then some (.iadd, 0, 0) else none) else (bif Nat.beq pc 201 then some (.iaload, 0, 0) else none))) else (bif Nat.blt pc 203 then (bif Nat.beq pc 202 then some (.aload_n 0, 0, 0) else none) else (bif Nat.blt pc 205 then (bif Nat.beq pc 203 then some (.iload 4, 0, 0) else none) else (bif Nat.beq pc 205 then some (.iconst 3, 0, 3) else none))))) else (bif Nat.blt pc 212 then (bif Nat.blt pc 208 then (bif Nat.blt pc 207 then (bif Nat.beq pc 206 then some (.iadd, 0, 0) else none) else (bif Nat.beq pc 207 then some (.iaload, 0, 0) else none)) else (bif Nat.blt pc 209 then (bif Nat.beq pc 208 then some (.aload_n 0, 0, 0) else none) else (bif Nat.blt pc 211 then (bif Nat.beq pc 209 then some (.iload 4, 0, 0) else none) else (bif Nat.beq pc 211 then some (.iconst 4, 0, 4) else none)))) else (bif Nat.blt pc 215 then (bif Nat.blt pc 213 then (bif Nat.beq pc 212 then some (.iadd, 0, 0) else none) else (bif Nat.blt pc 214 then (bif Nat.beq pc 213 then some (.iaload, 0, 0) else none) else (bif Nat.beq pc 214 then some (.aload_n 0, 0, 0) else none))) else (bif Nat.blt pc 217 then (bif Nat.beq pc 215 then some (.iload 4, 0, 0) else none) else (bif Nat.blt pc 218 then (bif Nat.beq pc 217 then some (.iconst 5, 0, 5) else none) else (bif Nat.beq pc 218 then some (.iadd, 0, 0) else none)))))) else (bif Nat.blt pc 241 then (bif Nat.blt pc 229 then (bif Nat.blt pc 223 then (bif Nat.blt pc 220 then (bif Nat.beq pc 219 then some (.iaload, 0, 0) else none) else (bif Nat.beq pc 220 then some (.invokevirtual 76, 0, 0) else none)) else (bif Nat.blt pc 225 then (bif Nat.beq pc 223 then some (.istore 6, 0, 0) else none) else (bif Nat.blt pc 226 then (bif Nat.beq pc 225 then some (.aload_n 2, 0, 0) else none) else (bif Nat.beq pc 226 then some (.invokevirtual 77, 0, 0) else none)))) else (bif Nat.blt pc 235 then (bif Nat.blt pc 231 then (bif Nat.beq pc 229 then some (.iload 5, 0, 0) else none) else (bif Nat.blt pc 234 then (bif Nat.beq pc 231 then some (.if_icmp .eq 5, 236, 0) else none) else (bif Nat.beq pc 234 then some (.iconst 0, 0, 0) else none))) else (bif Nat.blt pc 236 then (bif Nat.beq pc 235 then some (.ireturn, 0, 0) else none) else (bif Nat.blt pc 238 then (bif Nat.beq pc 236 then some (.iload 5, 0, 0) else none) else (bif Nat.beq pc 238 then some (.ifCond .ne 15, 253, 0) else none))))) else (bif Nat.blt pc 248 then (bif Nat.blt pc 244 then (bif Nat.blt pc 242 then (bif Nat.beq pc 241 then some (.aload_n 3, 0, 0) else none) else (bif Nat.blt pc 243 then (bif Nat.beq pc 242 then some (.iconst 0, 0, 0) else none) else (bif Nat.beq pc 243 then some (.laload, 0, 0) else none))) else (bif Nat.blt pc 246 then (bif Nat.beq pc 244 then some (.iload 6, 0, 0) else none) else (bif Nat.blt pc 247 then (bif Nat.beq pc 246 then some (.i2l, 0, 0) else none) else (bif Nat.beq pc 247 then some (.lcmp, 0, 0) else none)))) else (bif Nat.blt pc 253 then (bif Nat.blt pc 251 then (bif Nat.beq pc 248 then some (.ifCond .eq 5, 253, 0) else none) else (bif Nat.blt pc 252 then (bif Nat.beq pc 251 then some (.iconst 0, 0, 0) else none) else (bif Nat.beq pc 252 then some (.ireturn, 0, 0) else none))) else (bif Nat.blt pc 256 then (bif Nat.beq pc 253 then some (.goto 1012, 1265, 0) else none) else (bif Nat.blt pc 257 then (bif Nat.beq pc 256 then some (.aload_n 1, 0, 0) else none) else (bif Nat.beq pc 257 then some (.aload_n 0, 0, 0) else none)))))))) else (bif Nat.blt pc 329 then (bif Nat.blt pc 294 then (bif Nat.blt pc 274 then (bif Nat.blt pc 264 then (bif Nat.blt pc 261 then (bif Nat.blt pc 260 then (bif Nat.beq pc 258 then some (.iload 4, 0, 0) else none) else (bif Nat.beq pc 260 then some (.iconst 1, 0, 1) else none)) else (bif Nat.blt pc 262 then (bif Nat.beq pc 261 then some (.iadd, 0, 0) else none) else (bif Nat.blt pc 263 then (bif Nat.beq pc 262 then some (.iaload, 0, 0) else none) else (bif Nat.beq pc 263 then some (.aload_n 3, 0, 0) else none)))) else (bif Nat.blt pc 270 then (bif Nat.blt pc 267 then (bif Nat.beq pc 264 then some (.invokestatic 80, 0, 0) else none) else (bif Nat.blt pc 269 then (bif Nat.beq pc 267 then some (.istore 5, 0, 0) else none) else (bif Nat.beq pc 269 then some (.aload_n 2, 0, 0) else none))) else (bif Nat.blt pc 271 then (bif Nat.beq pc 270 then some (.aload_n 0, 0, 0) else none) else (bif Nat.blt pc 273 then (bif Nat.beq pc 271 then some (.iload 4, 0, 0) else none) else (bif Nat.beq pc 273 then some (.iconst 1, 0, 1) else none))))) else (bif Nat.blt pc 282 then (bif Nat.blt pc 276 then (bif Nat.blt pc 275 then (bif Nat.beq pc 274 then some (.iadd, 0, 0) else none) else (bif Nat.beq pc 275 then some (.iaload, 0, 0) else none)) else (bif Nat.blt pc 279 then (bif Nat.beq pc 276 then some (.invokevirtual 83, 0, 0) else none) else (bif Nat.blt pc 281 then (bif Nat.beq pc 279 then some (.istore 6, 0, 0) else none) else (bif Nat.beq pc 281 then some (.aload_n 2, 0, 0) else none)))) else (bif Nat.blt pc 290 then (bif Nat.blt pc 285 then (bif Nat.beq pc 282 then some (.invokevirtual 77, 0, 0) else none) else (bif Nat.blt pc 287 then (bif Nat.beq pc 285 then some (.iload 5, 0, 0) else none) else (bif Nat.beq pc 287 then some (.if_icmp .eq 5, 292, 0) else none))) else (bif Nat.blt pc 291 then (bif Nat.beq pc 290 then some (.iconst 0, 0, 0) else none) else (bif Nat.blt pc 292 then (bif Nat.beq pc 291 then some (.ireturn, 0, 0) else none) else (bif Nat.beq pc 292 then some (.iload 5, 0, 0) else none)))))) else (bif Nat.blt pc 312 then (bif Nat.blt pc 302 then (bif Nat.blt pc 298 then (bif Nat.blt pc 297 then (bif Nat.beq pc 294 then some (.ifCond .ne 15, 309, 0) else none) else (bif Nat.beq pc 297 then some (.aload_n 3, 0, 0) else none)) else (bif Nat.blt pc 299 then (bif Nat.beq pc 298 then some (.iconst 0, 0, 0) else none) else (bif Nat.blt pc 300 then (bif Nat.beq pc 299 then some (.laload, 0, 0) else none) else (bif Nat.beq pc 300 then some (.iload 6, 0, 0) else none)))) else (bif Nat.blt pc 307 then (bif Nat.blt pc 303 then (bif Nat.beq pc 302 then some (.i2l, 0, 0) else none) else (bif Nat.blt pc 304 then (bif Nat.beq pc 303 then some (.lcmp, 0, 0) else none) else (bif Nat.beq pc 304 then some (.ifCond .eq 5, 309, 0) else none))) else (bif Nat.blt pc 308 then (bif Nat.beq pc 307 then some (.iconst 0, 0, 0) else none) else (bif Nat.blt pc 309 then (bif Nat.beq pc 308 then some (.ireturn, 0, 0) else none) else (bif Nat.beq pc 309 then some (.goto 956, 1265, 0) else none))))) else (bif Nat.blt pc 319 then (bif Nat.blt pc 316 then (bif Nat.blt pc 313 then (bif Nat.beq pc 312 then some (.aload_n 1, 0, 0) else none) else (bif Nat.blt pc 314 then (bif Nat.beq pc 313 then some (.aload_n 0, 0, 0) else none) else (bif Nat.beq pc 314 then some (.iload 4, 0, 0) else none))) else (bif Nat.blt pc 317 then (bif Nat.beq pc 316 then some (.iconst 1, 0, 1) else none) else (bif Nat.blt pc 318 then (bif Nat.beq pc 317 then some (.iadd, 0, 0) else none) else (bif Nat.beq pc 318 then some (.iaload, 0, 0) else none)))) else (bif Nat.blt pc 325 then (bif Nat.blt pc 320 then (bif Nat.beq pc 319 then some (.aload_n 3, 0, 0) else none) else (bif Nat.blt pc 323 then (bif Nat.beq pc 320 then some (.invokestatic 84, 0, 0) else none) else (bif Nat.beq pc 323 then some (.istore 5, 0, 0) else none))) else (bif Nat.blt pc 326 then (bif Nat.beq pc 325 then some (.aload_n 2, 0, 0) else none) else (bif Nat.blt pc 327 then (bif Nat.beq pc 326 then some (.aload_n 0, 0, 0) else none) else (bif Nat.beq pc 327 then some (.iload 4, 0, 0) else none))))))) else (bif Nat.blt pc 365 then (bif Nat.blt pc 348 then (bif Nat.blt pc 337 then (bif Nat.blt pc 331 then (bif Nat.blt pc 330 then (bif Nat.beq pc 329 then some (.iconst 1, 0, 1) else none) else (bif Nat.beq pc 330 then some (.iadd, 0, 0) else none)) else (bif Nat.blt pc 332 then (bif Nat.beq pc 331 then some (.iaload, 0, 0) else none) else (bif Nat.blt pc 335 then (bif Nat.beq pc 332 then some (.invokevirtual 86, 0, 0) else none) else (bif Nat.beq pc 335 then some (.istore 6, 0, 0) else none)))) else (bif Nat.blt pc 343 then (bif Nat.blt pc 338 then (bif Nat.beq pc 337 then some (.aload_n 2, 0, 0) else none) else (bif Nat.blt pc 341 then (bif Nat.beq pc 338 then some (.invokevirtual 77, 0, 0) else none) else (bif Nat.beq pc 341 then some (.iload 5, 0, 0) else none))) else (bif Nat.blt pc 346 then (bif Nat.beq pc 343 then some (.if_icmp .eq 5, 348, 0) else none) else (bif Nat.blt pc 347 then (bif Nat.beq pc 346 then some (.iconst 0, 0, 0) else none) else (bif Nat.beq pc 347 then some (.ireturn, 0, 0) else none))))) else (bif Nat.blt pc 356 then (bif Nat.blt pc 353 then (bif Nat.blt pc 350 then (bif Nat.beq pc 348 then some (.iload 5, 0, 0) else none) else (bif Nat.beq pc 350 then some (.ifCond .ne 15, 365, 0) else none)) else (bif Nat.blt pc 354 then (bif Nat.beq pc 353 then some (.aload_n 3, 0, 0) else none) else (bif Nat.blt pc 355 then (bif Nat.beq pc 354 then some (.iconst 0, 0, 0) else none) else (bif Nat.beq pc 355 then some (.laload, 0, 0) else none)))) else (bif Nat.blt pc 360 then (bif Nat.blt pc 358 then (bif Nat.beq pc 356 then some (.iload 6, 0, 0) else none) else (bif Nat.blt pc 359 then (bif Nat.beq pc 358 then some (.i2l, 0, 0) else none) else (bif Nat.beq pc 359 then some (.lcmp, 0, 0) else none))) else (bif Nat.blt pc 363 then (bif Nat.beq pc 360 then some (.ifCond .eq 5, 365, 0) else none) else (bif Nat.blt pc 364 then (bif Nat.beq pc 363 then some (.iconst 0, 0, 0) else none) else (bif Nat.beq pc 364 then some (.ireturn, 0, 0) else none)))))) else (bif Nat.blt pc 382 then (bif Nat.blt pc 373 then (bif Nat.blt pc 369 then (bif Nat.blt pc 368 then (bif Nat.beq pc 365 then some (.goto 900, 1265, 0) else none) else (bif Nat.beq pc 368 then some (.aload_n 1, 0, 0) else none)) else (bif Nat.blt pc 370 then (bif Nat.beq pc 369 then some (.aload_n 0, 0, 0) else none) else (bif Nat.blt pc 372 then (bif Nat.beq pc 370 then some (.iload 4, 0, 0) else none) else (bif Nat.beq pc 372 then some (.iconst 1, 0, 1) else none)))) else (bif Nat.blt pc 376 then (bif Nat.blt pc 374 then (bif Nat.beq pc 373 then some (.iadd, 0, 0) else none) else (bif Nat.blt pc 375 then (bif Nat.beq pc 374 then some (.iaload, 0, 0) else none) else (bif Nat.beq pc 375 then some (.aload_n 3, 0, 0) else none))) else (bif Nat.blt pc 379 then (bif Nat.beq pc 376 then some (.invokestatic 87, 0, 0) else none) else (bif Nat.blt pc 381 then (bif Nat.beq pc 379 then some (.istore 5, 0, 0) else none) else (bif Nat.beq pc 381 then some (.aload_n 2, 0, 0) else none))))) else (bif Nat.blt pc 391 then (bif Nat.blt pc 386 then (bif Nat.blt pc 383 then (bif Nat.beq pc 382 then some (.aload_n 0, 0, 0) else none) else (bif Nat.blt pc 385 then (bif Nat.beq pc 383 then some (.iload 4, 0, 0) else none) else (bif Nat.beq pc 385 then some (.iconst 1, 0, 1) else none))) else (bif Nat.blt pc 387 then (bif Nat.beq pc 386 then some (.iadd, 0, 0) else none) else (bif Nat.blt pc 388 then (bif Nat.beq pc 387 then some (.iaload, 0, 0) else none) else (bif Nat.beq pc 388 then some (.invokevirtual 89, 0, 0) else none)))) else (bif Nat.blt pc 397 then (bif Nat.blt pc 393 then (bif Nat.beq pc 391 then some (.istore 6, 0, 0) else none) else (bif Nat.blt pc 394 then (bif Nat.beq pc 393 then some (.aload_n 2, 0, 0) else none) else (bif Nat.beq pc 394 then some (.invokevirtual 77, 0, 0) else none))) else (bif Nat.blt pc 399 then (bif Nat.beq pc 397 then some (.iload 5, 0, 0) else none) else (bif Nat.blt pc 402 then (bif Nat.beq pc 399 then some (.if_icmp .eq 5, 404, 0) else none) else (bif Nat.beq pc 402 then some (.iconst 0, 0, 0) else none))))))))) else (bif Nat.blt pc 543 then (bif Nat.blt pc 468 then (bif Nat.blt pc 439 then (bif Nat.blt pc 420 then (bif Nat.blt pc 411 then (bif Nat.blt pc 406 then (bif Nat.blt pc 404 then (bif Nat.beq pc 403 then some (.ireturn, 0, 0) else none) else (bif Nat.beq pc 404 then some (.iload 5, 0, 0) else none)) else (bif Nat.blt pc 409 then (bif Nat.beq pc 406 then some (.ifCond .ne 15, 421, 0) else none) else (bif Nat.blt pc 410 then (bif Nat.beq pc 409 then some (.aload_n 3, 0, 0) else none) else (bif Nat.beq pc 410 then some (.iconst 0, 0, 0) else none)))) else (bif Nat.blt pc 415 then (bif Nat.blt pc 412 then (bif Nat.beq pc 411 then some (.laload, 0, 0) else none) else (bif Nat.blt pc 414 then (bif Nat.beq pc 412 then some (.iload 6, 0, 0) else none) else (bif Nat.beq pc 414 then some (.i2l, 0, 0) else none))) else (bif Nat.blt pc 416 then (bif Nat.beq pc 415 then some (.lcmp, 0, 0) else none) else (bif Nat.blt pc 419 then (bif Nat.beq pc 416 then some (.ifCond .eq 5, 421, 0) else none) else (bif Nat.beq pc 419 then some (.iconst 0, 0, 0) else none))))) else (bif Nat.blt pc 429 then (bif Nat.blt pc 424 then (bif Nat.blt pc 421 then (bif Nat.beq pc 420 then some (.ireturn, 0, 0) else none) else (bif Nat.beq pc 421 then some (.goto 844, 1265, 0) else none)) else (bif Nat.blt pc 425 then (bif Nat.beq pc 424 then some (.aload_n 1, 0, 0) else none) else (bif Nat.blt pc 428 then (bif Nat.beq pc 425 then some (.invokevirtual 90, 0, 0) else none) else (bif Nat.beq pc 428 then some (.aload_n 2, 0, 0) else none)))) else (bif Nat.blt pc 436 then (bif Nat.blt pc 432 then (bif Nat.beq pc 429 then some (.invokevirtual 93, 0, 0) else none) else (bif Nat.blt pc 435 then (bif Nat.beq pc 432 then some (.if_icmp .eq 833, 1265, 0) else none) else (bif Nat.beq pc 435 then some (.iconst 0, 0, 0) else none))) else (bif Nat.blt pc 437 then (bif Nat.beq pc 436 then some (.ireturn, 0, 0) else none) else (bif Nat.blt pc 438 then (bif Nat.beq pc 437 then some (.aload_n 1, 0, 0) else none) else (bif Nat.beq pc 438 then some (.aload_n 0, 0, 0) else none)))))) else (bif Nat.blt pc 454 then (bif Nat.blt pc 445 then (bif Nat.blt pc 442 then (bif Nat.blt pc 441 then (bif Nat.beq pc 439 then some (.iload 4, 0, 0) else none) else (bif Nat.beq pc 441 then some (.iconst 1, 0, 1) else none)) else (bif Nat.blt pc 443 then (bif Nat.beq pc 442 then some (.iadd, 0, 0) else none) else (bif Nat.blt pc 444 then (bif Nat.beq pc 443 then some (.iaload, 0, 0) else none) else (bif Nat.beq pc 444 then some (.aload_n 0, 0, 0) else none)))) else (bif Nat.blt pc 449 then (bif Nat.blt pc 447 then (bif Nat.beq pc 445 then some (.iload 4, 0, 0) else none) else (bif Nat.blt pc 448 then (bif Nat.beq pc 447 then some (.iconst 2, 0, 2) else none) else (bif Nat.beq pc 448 then some (.iadd, 0, 0) else none))) else (bif Nat.blt pc 450 then (bif Nat.beq pc 449 then some (.iaload, 0, 0) else none) else (bif Nat.blt pc 451 then (bif Nat.beq pc 450 then some (.aload_n 3, 0, 0) else none) else (bif Nat.beq pc 451 then some (.invokestatic 94, 0, 0) else none))))) else (bif Nat.blt pc 461 then (bif Nat.blt pc 457 then (bif Nat.blt pc 456 then (bif Nat.beq pc 454 then some (.istore 5, 0, 0) else none) else (bif Nat.beq pc 456 then some (.aload_n 2, 0, 0) else none)) else (bif Nat.blt pc 458 then (bif Nat.beq pc 457 then some (.aload_n 0, 0, 0) else none) else (bif Nat.blt pc 460 then (bif Nat.beq pc 458 then some (.iload 4, 0, 0) else none) else (bif Nat.beq pc 460 then some (.iconst 1, 0, 1) else none)))) else (bif Nat.blt pc 464 then (bif Nat.blt pc 462 then (bif Nat.beq pc 461 then some (.iadd, 0, 0) else none) else (bif Nat.blt pc 463 then (bif Nat.beq pc 462 then some (.iaload, 0, 0) else none) else (bif Nat.beq pc 463 then some (.aload_n 0, 0, 0) else none))) else (bif Nat.blt pc 466 then (bif Nat.beq pc 464 then some (.iload 4, 0, 0) else none) else (bif Nat.blt pc 467 then (bif Nat.beq pc 466 then some (.iconst 2, 0, 2) else none) else (bif Nat.beq pc 467 then some (.iadd, 0, 0) else none))))))) else (bif Nat.blt pc 506 then (bif Nat.blt pc 490 then (bif Nat.blt pc 478 then (bif Nat.blt pc 472 then (bif Nat.blt pc 469 then (bif Nat.beq pc 468 then some (.iaload, 0, 0) else none) else (bif Nat.beq pc 469 then some (.invokevirtual 97, 0, 0) else none)) else (bif Nat.blt pc 474 then (bif Nat.beq pc 472 then some (.istore 6, 0, 0) else none) else (bif Nat.blt pc 475 then (bif Nat.beq pc 474 then some (.aload_n 2, 0, 0) else none) else (bif Nat.beq pc 475 then some (.invokevirtual 77, 0, 0) else none)))) else (bif Nat.blt pc 484 then (bif Nat.blt pc 480 then (bif Nat.beq pc 478 then some (.iload 5, 0, 0) else none) else (bif Nat.blt pc 483 then (bif Nat.beq pc 480 then some (.if_icmp .eq 5, 485, 0) else none) else (bif Nat.beq pc 483 then some (.iconst 0, 0, 0) else none))) else (bif Nat.blt pc 485 then (bif Nat.beq pc 484 then some (.ireturn, 0, 0) else none) else (bif Nat.blt pc 487 then (bif Nat.beq pc 485 then some (.iload 5, 0, 0) else none) else (bif Nat.beq pc 487 then some (.ifCond .ne 15, 502, 0) else none))))) else (bif Nat.blt pc 496 then (bif Nat.blt pc 492 then (bif Nat.blt pc 491 then (bif Nat.beq pc 490 then some (.aload_n 3, 0, 0) else none) else (bif Nat.beq pc 491 then some (.iconst 0, 0, 0) else none)) else (bif Nat.blt pc 493 then (bif Nat.beq pc 492 then some (.laload, 0, 0) else none) else (bif Nat.blt pc 495 then (bif Nat.beq pc 493 then some (.iload 6, 0, 0) else none) else (bif Nat.beq pc 495 then some (.i2l, 0, 0) else none)))) else (bif Nat.blt pc 501 then (bif Nat.blt pc 497 then (bif Nat.beq pc 496 then some (.lcmp, 0, 0) else none) else (bif Nat.blt pc 500 then (bif Nat.beq pc 497 then some (.ifCond .eq 5, 502, 0) else none) else (bif Nat.beq pc 500 then some (.iconst 0, 0, 0) else none))) else (bif Nat.blt pc 502 then (bif Nat.beq pc 501 then some (.ireturn, 0, 0) else none) else (bif Nat.blt pc 505 then (bif Nat.beq pc 502 then some (.goto 763, 1265, 0) else none) else (bif Nat.beq pc 505 then some (.aload_n 1, 0, 0) else none)))))) else (bif Nat.blt pc 522 then (bif Nat.blt pc 512 then (bif Nat.blt pc 509 then (bif Nat.blt pc 507 then (bif Nat.beq pc 506 then some (.aload_n 0, 0, 0) else none) else (bif Nat.beq pc 507 then some (.iload 4, 0, 0) else none)) else (bif Nat.blt pc 510 then (bif Nat.beq pc 509 then some (.iconst 1, 0, 1) else none) else (bif Nat.blt pc 511 then (bif Nat.beq pc 510 then some (.iadd, 0, 0) else none) else (bif Nat.beq pc 511 then some (.iaload, 0, 0) else none)))) else (bif Nat.blt pc 518 then (bif Nat.blt pc 513 then (bif Nat.beq pc 512 then some (.aload_n 3, 0, 0) else none) else (bif Nat.blt pc 516 then (bif Nat.beq pc 513 then some (.invokestatic 98, 0, 0) else none) else (bif Nat.beq pc 516 then some (.istore 5, 0, 0) else none))) else (bif Nat.blt pc 519 then (bif Nat.beq pc 518 then some (.aload_n 2, 0, 0) else none) else (bif Nat.blt pc 520 then (bif Nat.beq pc 519 then some (.aload_n 0, 0, 0) else none) else (bif Nat.beq pc 520 then some (.iload 4, 0, 0) else none))))) else (bif Nat.blt pc 531 then (bif Nat.blt pc 525 then (bif Nat.blt pc 523 then (bif Nat.beq pc 522 then some (.iconst 1, 0, 1) else none) else (bif Nat.blt pc 524 then (bif Nat.beq pc 523 then some (.iadd, 0, 0) else none) else (bif Nat.beq pc 524 then some (.iaload, 0, 0) else none))) else (bif Nat.blt pc 528 then (bif Nat.beq pc 525 then some (.invokevirtual 100, 0, 0) else none) else (bif Nat.blt pc 530 then (bif Nat.beq pc 528 then some (.istore 6, 0, 0) else none) else (bif Nat.beq pc 530 then some (.aload_n 2, 0, 0) else none)))) else (bif Nat.blt pc 539 then (bif Nat.blt pc 534 then (bif Nat.beq pc 531 then some (.invokevirtual 77, 0, 0) else none) else (bif Nat.blt pc 536 then (bif Nat.beq pc 534 then some (.iload 5, 0, 0) else none) else (bif Nat.beq pc 536 then some (.if_icmp .eq 5, 541, 0) else none))) else (bif Nat.blt pc 540 then (bif Nat.beq pc 539 then some (.iconst 0, 0, 0) else none) else (bif Nat.blt pc 541 then (bif Nat.beq pc 540 then some (.ireturn, 0, 0) else none) else (bif Nat.beq pc 541 then some (.iload 5, 0, 0) else none)))))))) else (bif Nat.blt pc 611 then (bif Nat.blt pc 574 then (bif Nat.blt pc 561 then (bif Nat.blt pc 551 then (bif Nat.blt pc 547 then (bif Nat.blt pc 546 then (bif Nat.beq pc 543 then some (.ifCond .ne 15, 558, 0) else none) else (bif Nat.beq pc 546 then some (.aload_n 3, 0, 0) else none)) else (bif Nat.blt pc 548 then (bif Nat.beq pc 547 then some (.iconst 0, 0, 0) else none) else (bif Nat.blt pc 549 then (bif Nat.beq pc 548 then some (.laload, 0, 0) else none) else (bif Nat.beq pc 549 then some (.iload 6, 0, 0) else none)))) else (bif Nat.blt pc 556 then (bif Nat.blt pc 552 then (bif Nat.beq pc 551 then some (.i2l, 0, 0) else none) else (bif Nat.blt pc 553 then (bif Nat.beq pc 552 then some (.lcmp, 0, 0) else none) else (bif Nat.beq pc 553 then some (.ifCond .eq 5, 558, 0) else none))) else (bif Nat.blt pc 557 then (bif Nat.beq pc 556 then some (.iconst 0, 0, 0) else none) else (bif Nat.blt pc 558 then (bif Nat.beq pc 557 then some (.ireturn, 0, 0) else none) else (bif Nat.beq pc 558 then some (.goto 707, 1265, 0) else none))))) else (bif Nat.blt pc 567 then (bif Nat.blt pc 563 then (bif Nat.blt pc 562 then (bif Nat.beq pc 561 then some (.aload_n 1, 0, 0) else none) else (bif Nat.beq pc 562 then some (.aload_n 0, 0, 0) else none)) else (bif Nat.blt pc 565 then (bif Nat.beq pc 563 then some (.iload 4, 0, 0) else none) else (bif Nat.blt pc 566 then (bif Nat.beq pc 565 then some (.iconst 1, 0, 1) else none) else (bif Nat.beq pc 566 then some (.iadd, 0, 0) else none)))) else (bif Nat.blt pc 571 then (bif Nat.blt pc 568 then (bif Nat.beq pc 567 then some (.iaload, 0, 0) else none) else (bif Nat.blt pc 569 then (bif Nat.beq pc 568 then some (.aload_n 0, 0, 0) else none) else (bif Nat.beq pc 569 then some (.iload 4, 0, 0) else none))) else (bif Nat.blt pc 572 then (bif Nat.beq pc 571 then some (.iconst 2, 0, 2) else none) else (bif Nat.blt pc 573 then (bif Nat.beq pc 572 then some (.iadd, 0, 0) else none) else (bif Nat.beq pc 573 then some (.iaload, 0, 0) else none)))))) else (bif Nat.blt pc 590 then (bif Nat.blt pc 582 then (bif Nat.blt pc 578 then (bif Nat.blt pc 575 then (bif Nat.beq pc 574 then some (.aload_n 3, 0, 0) else none) else (bif Nat.beq pc 575 then some (.invokestatic 101, 0, 0) else none)) else (bif Nat.blt pc 580 then (bif Nat.beq pc 578 then some (.istore 5, 0, 0) else none) else (bif Nat.blt pc 581 then (bif Nat.beq pc 580 then some (.aload_n 2, 0, 0) else none) else (bif Nat.beq pc 581 then some (.aload_n 0, 0, 0) else none)))) else (bif Nat.blt pc 586 then (bif Nat.blt pc 584 then (bif Nat.beq pc 582 then some (.iload 4, 0, 0) else none) else (bif Nat.blt pc 585 then (bif Nat.beq pc 584 then some (.iconst 1, 0, 1) else none) else (bif Nat.beq pc 585 then some (.iadd, 0, 0) else none))) else (bif Nat.blt pc 587 then (bif Nat.beq pc 586 then some (.iaload, 0, 0) else none) else (bif Nat.blt pc 588 then (bif Nat.beq pc 587 then some (.aload_n 0, 0, 0) else none) else (bif Nat.beq pc 588 then some (.iload 4, 0, 0) else none))))) else (bif Nat.blt pc 599 then (bif Nat.blt pc 593 then (bif Nat.blt pc 591 then (bif Nat.beq pc 590 then some (.iconst 2, 0, 2) else none) else (bif Nat.blt pc 592 then (bif Nat.beq pc 591 then some (.iadd, 0, 0) else none) else (bif Nat.beq pc 592 then some (.iaload, 0, 0) else none))) else (bif Nat.blt pc 596 then (bif Nat.beq pc 593 then some (.invokevirtual 103, 0, 0) else none) else (bif Nat.blt pc 598 then (bif Nat.beq pc 596 then some (.istore 6, 0, 0) else none) else (bif Nat.beq pc 598 then some (.aload_n 2, 0, 0) else none)))) else (bif Nat.blt pc 607 then (bif Nat.blt pc 602 then (bif Nat.beq pc 599 then some (.invokevirtual 77, 0, 0) else none) else (bif Nat.blt pc 604 then (bif Nat.beq pc 602 then some (.iload 5, 0, 0) else none) else (bif Nat.beq pc 604 then some (.if_icmp .eq 5, 609, 0) else none))) else (bif Nat.blt pc 608 then (bif Nat.beq pc 607 then some (.iconst 0, 0, 0) else none) else (bif Nat.blt pc 609 then (bif Nat.beq pc 608 then some (.ireturn, 0, 0) else none) else (bif Nat.beq pc 609 then some (.iload 5, 0, 0) else none))))))) else (bif Nat.blt pc 644 then (bif Nat.blt pc 629 then (bif Nat.blt pc 619 then (bif Nat.blt pc 615 then (bif Nat.blt pc 614 then (bif Nat.beq pc 611 then some (.ifCond .ne 15, 626, 0) else none) else (bif Nat.beq pc 614 then some (.aload_n 3, 0, 0) else none)) else (bif Nat.blt pc 616 then (bif Nat.beq pc 615 then some (.iconst 0, 0, 0) else none) else (bif Nat.blt pc 617 then (bif Nat.beq pc 616 then some (.laload, 0, 0) else none) else (bif Nat.beq pc 617 then some (.iload 6, 0, 0) else none)))) else (bif Nat.blt pc 624 then (bif Nat.blt pc 620 then (bif Nat.beq pc 619 then some (.i2l, 0, 0) else none) else (bif Nat.blt pc 621 then (bif Nat.beq pc 620 then some (.lcmp, 0, 0) else none) else (bif Nat.beq pc 621 then some (.ifCond .eq 5, 626, 0) else none))) else (bif Nat.blt pc 625 then (bif Nat.beq pc 624 then some (.iconst 0, 0, 0) else none) else (bif Nat.blt pc 626 then (bif Nat.beq pc 625 then some (.ireturn, 0, 0) else none) else (bif Nat.beq pc 626 then some (.goto 639, 1265, 0) else none))))) else (bif Nat.blt pc 635 then (bif Nat.blt pc 631 then (bif Nat.blt pc 630 then (bif Nat.beq pc 629 then some (.aload_n 1, 0, 0) else none) else (bif Nat.beq pc 630 then some (.aload_n 0, 0, 0) else none)) else (bif Nat.blt pc 633 then (bif Nat.beq pc 631 then some (.iload 4, 0, 0) else none) else (bif Nat.blt pc 634 then (bif Nat.beq pc 633 then some (.iconst 1, 0, 1) else none) else (bif Nat.beq pc 634 then some (.iadd, 0, 0) else none)))) else (bif Nat.blt pc 640 then (bif Nat.blt pc 636 then (bif Nat.beq pc 635 then some (.iaload, 0, 0) else none) else (bif Nat.blt pc 637 then (bif Nat.beq pc 636 then some (.aload_n 3, 0, 0) else none) else (bif Nat.beq pc 637 then some (.invokestatic 104, 0, 0) else none))) else (bif Nat.blt pc 642 then (bif Nat.beq pc 640 then some (.istore 5, 0, 0) else none) else (bif Nat.blt pc 643 then (bif Nat.beq pc 642 then some (.aload_n 2, 0, 0) else none) else (bif Nat.beq pc 643 then some (.aload_n 0, 0, 0) else none)))))) else (bif Nat.blt pc 664 then (bif Nat.blt pc 652 then (bif Nat.blt pc 647 then (bif Nat.blt pc 646 then (bif Nat.beq pc 644 then some (.iload 4, 0, 0) else none) else (bif Nat.beq pc 646 then some (.iconst 1, 0, 1) else none)) else (bif Nat.blt pc 648 then (bif Nat.beq pc 647 then some (.iadd, 0, 0) else none) else (bif Nat.blt pc 649 then (bif Nat.beq pc 648 then some (.iaload, 0, 0) else none) else (bif Nat.beq pc 649 then some (.invokevirtual 106, 0, 0) else none)))) else (bif Nat.blt pc 658 then (bif Nat.blt pc 654 then (bif Nat.beq pc 652 then some (.istore 6, 0, 0) else none) else (bif Nat.blt pc 655 then (bif Nat.beq pc 654 then some (.aload_n 2, 0, 0) else none) else (bif Nat.beq pc 655 then some (.invokevirtual 77, 0, 0) else none))) else (bif Nat.blt pc 660 then (bif Nat.beq pc 658 then some (.iload 5, 0, 0) else none) else (bif Nat.blt pc 663 then (bif Nat.beq pc 660 then some (.if_icmp .eq 5, 665, 0) else none) else (bif Nat.beq pc 663 then some (.iconst 0, 0, 0) else none))))) else (bif Nat.blt pc 673 then (bif Nat.blt pc 670 then (bif Nat.blt pc 665 then (bif Nat.beq pc 664 then some (.ireturn, 0, 0) else none) else (bif Nat.blt pc 667 then (bif Nat.beq pc 665 then some (.iload 5, 0, 0) else none) else (bif Nat.beq pc 667 then some (.ifCond .ne 15, 682, 0) else none))) else (bif Nat.blt pc 671 then (bif Nat.beq pc 670 then some (.aload_n 3, 0, 0) else none) else (bif Nat.blt pc 672 then (bif Nat.beq pc 671 then some (.iconst 0, 0, 0) else none) else (bif Nat.beq pc 672 then some (.laload, 0, 0) else none)))) else (bif Nat.blt pc 677 then (bif Nat.blt pc 675 then (bif Nat.beq pc 673 then some (.iload 6, 0, 0) else none) else (bif Nat.blt pc 676 then (bif Nat.beq pc 675 then some (.i2l, 0, 0) else none) else (bif Nat.beq pc 676 then some (.lcmp, 0, 0) else none))) else (bif Nat.blt pc 680 then (bif Nat.beq pc 677 then some (.ifCond .eq 5, 682, 0) else none) else (bif Nat.blt pc 681 then (bif Nat.beq pc 680 then some (.iconst 0, 0, 0) else none) else (bif Nat.beq pc 681 then some (.ireturn, 0, 0) else none)))))))))) else (bif Nat.blt pc 973 then (bif Nat.blt pc 830 then (bif Nat.blt pc 762 then (bif Nat.blt pc 724 then (bif Nat.blt pc 703 then (bif Nat.blt pc 693 then (bif Nat.blt pc 686 then (bif Nat.blt pc 685 then (bif Nat.beq pc 682 then some (.goto 583, 1265, 0) else none) else (bif Nat.beq pc 685 then some (.aload_n 1, 0, 0) else none)) else (bif Nat.blt pc 689 then (bif Nat.beq pc 686 then some (.invokevirtual 107, 0, 0) else none) else (bif Nat.blt pc 690 then (bif Nat.beq pc 689 then some (.aload_n 2, 0, 0) else none) else (bif Nat.beq pc 690 then some (.invokevirtual 110, 0, 0) else none)))) else (bif Nat.blt pc 698 then (bif Nat.blt pc 696 then (bif Nat.beq pc 693 then some (.if_icmp .eq 572, 1265, 0) else none) else (bif Nat.blt pc 697 then (bif Nat.beq pc 696 then some (.iconst 0, 0, 0) else none) else (bif Nat.beq pc 697 then some (.ireturn, 0, 0) else none))) else (bif Nat.blt pc 699 then (bif Nat.beq pc 698 then some (.aload_n 1, 0, 0) else none) else (bif Nat.blt pc 702 then (bif Nat.beq pc 699 then some (.invokevirtual 111, 0, 0) else none) else (bif Nat.beq pc 702 then some (.aload_n 2, 0, 0) else none))))) else (bif Nat.blt pc 712 then (bif Nat.blt pc 709 then (bif Nat.blt pc 706 then (bif Nat.beq pc 703 then some (.invokevirtual 114, 0, 0) else none) else (bif Nat.beq pc 706 then some (.if_icmp .eq 559, 1265, 0) else none)) else (bif Nat.blt pc 710 then (bif Nat.beq pc 709 then some (.iconst 0, 0, 0) else none) else (bif Nat.blt pc 711 then (bif Nat.beq pc 710 then some (.ireturn, 0, 0) else none) else (bif Nat.beq pc 711 then some (.aload_n 1, 0, 0) else none)))) else (bif Nat.blt pc 718 then (bif Nat.blt pc 713 then (bif Nat.beq pc 712 then some (.aload_n 3, 0, 0) else none) else (bif Nat.blt pc 716 then (bif Nat.beq pc 713 then some (.invokestatic 115, 0, 0) else none) else (bif Nat.beq pc 716 then some (.istore 5, 0, 0) else none))) else (bif Nat.blt pc 719 then (bif Nat.beq pc 718 then some (.aload_n 2, 0, 0) else none) else (bif Nat.blt pc 722 then (bif Nat.beq pc 719 then some (.invokevirtual 118, 0, 0) else none) else (bif Nat.beq pc 722 then some (.istore 6, 0, 0) else none)))))) else (bif Nat.blt pc 743 then (bif Nat.blt pc 734 then (bif Nat.blt pc 728 then (bif Nat.blt pc 725 then (bif Nat.beq pc 724 then some (.aload_n 2, 0, 0) else none) else (bif Nat.beq pc 725 then some (.invokevirtual 77, 0, 0) else none)) else (bif Nat.blt pc 730 then (bif Nat.beq pc 728 then some (.iload 5, 0, 0) else none) else (bif Nat.blt pc 733 then (bif Nat.beq pc 730 then some (.if_icmp .eq 5, 735, 0) else none) else (bif Nat.beq pc 733 then some (.iconst 0, 0, 0) else none)))) else (bif Nat.blt pc 740 then (bif Nat.blt pc 735 then (bif Nat.beq pc 734 then some (.ireturn, 0, 0) else none) else (bif Nat.blt pc 737 then (bif Nat.beq pc 735 then some (.iload 5, 0, 0) else none) else (bif Nat.beq pc 737 then some (.ifCond .ne 15, 752, 0) else none))) else (bif Nat.blt pc 741 then (bif Nat.beq pc 740 then some (.aload_n 3, 0, 0) else none) else (bif Nat.blt pc 742 then (bif Nat.beq pc 741 then some (.iconst 0, 0, 0) else none) else (bif Nat.beq pc 742 then some (.laload, 0, 0) else none))))) else (bif Nat.blt pc 751 then (bif Nat.blt pc 746 then (bif Nat.blt pc 745 then (bif Nat.beq pc 743 then some (.iload 6, 0, 0) else none) else (bif Nat.beq pc 745 then some (.i2l, 0, 0) else none)) else (bif Nat.blt pc 747 then (bif Nat.beq pc 746 then some (.lcmp, 0, 0) else none) else (bif Nat.blt pc 750 then (bif Nat.beq pc 747 then some (.ifCond .eq 5, 752, 0) else none) else (bif Nat.beq pc 750 then some (.iconst 0, 0, 0) else none)))) else (bif Nat.blt pc 756 then (bif Nat.blt pc 752 then (bif Nat.beq pc 751 then some (.ireturn, 0, 0) else none) else (bif Nat.blt pc 755 then (bif Nat.beq pc 752 then some (.goto 513, 1265, 0) else none) else (bif Nat.beq pc 755 then some (.aload_n 1, 0, 0) else none))) else (bif Nat.blt pc 757 then (bif Nat.beq pc 756 then some (.aload_n 3, 0, 0) else none) else (bif Nat.blt pc 760 then (bif Nat.beq pc 757 then some (.invokestatic 119, 0, 0) else none) else (bif Nat.beq pc 760 then some (.istore 5, 0, 0) else none))))))) else (bif Nat.blt pc 800 then (bif Nat.blt pc 784 then (bif Nat.blt pc 772 then (bif Nat.blt pc 766 then (bif Nat.blt pc 763 then (bif Nat.beq pc 762 then some (.aload_n 2, 0, 0) else none) else (bif Nat.beq pc 763 then some (.invokevirtual 121, 0, 0) else none)) else (bif Nat.blt pc 768 then (bif Nat.beq pc 766 then some (.istore 6, 0, 0) else none) else (bif Nat.blt pc 769 then (bif Nat.beq pc 768 then some (.aload_n 2, 0, 0) else none) else (bif Nat.beq pc 769 then some (.invokevirtual 77, 0, 0) else none)))) else (bif Nat.blt pc 778 then (bif Nat.blt pc 774 then (bif Nat.beq pc 772 then some (.iload 5, 0, 0) else none) else (bif Nat.blt pc 777 then (bif Nat.beq pc 774 then some (.if_icmp .eq 5, 779, 0) else none) else (bif Nat.beq pc 777 then some (.iconst 0, 0, 0) else none))) else (bif Nat.blt pc 779 then (bif Nat.beq pc 778 then some (.ireturn, 0, 0) else none) else (bif Nat.blt pc 781 then (bif Nat.beq pc 779 then some (.iload 5, 0, 0) else none) else (bif Nat.beq pc 781 then some (.ifCond .ne 15, 796, 0) else none))))) else (bif Nat.blt pc 790 then (bif Nat.blt pc 786 then (bif Nat.blt pc 785 then (bif Nat.beq pc 784 then some (.aload_n 3, 0, 0) else none) else (bif Nat.beq pc 785 then some (.iconst 0, 0, 0) else none)) else (bif Nat.blt pc 787 then (bif Nat.beq pc 786 then some (.laload, 0, 0) else none) else (bif Nat.blt pc 789 then (bif Nat.beq pc 787 then some (.iload 6, 0, 0) else none) else (bif Nat.beq pc 789 then some (.i2l, 0, 0) else none)))) else (bif Nat.blt pc 795 then (bif Nat.blt pc 791 then (bif Nat.beq pc 790 then some (.lcmp, 0, 0) else none) else (bif Nat.blt pc 794 then (bif Nat.beq pc 791 then some (.ifCond .eq 5, 796, 0) else none) else (bif Nat.beq pc 794 then some (.iconst 0, 0, 0) else none))) else (bif Nat.blt pc 796 then (bif Nat.beq pc 795 then some (.ireturn, 0, 0) else none) else (bif Nat.blt pc 799 then (bif Nat.beq pc 796 then some (.goto 469, 1265, 0) else none) else (bif Nat.beq pc 799 then some (.aload_n 1, 0, 0) else none)))))) else (bif Nat.blt pc 813 then (bif Nat.blt pc 806 then (bif Nat.blt pc 803 then (bif Nat.blt pc 801 then (bif Nat.beq pc 800 then some (.aload_n 0, 0, 0) else none) else (bif Nat.beq pc 801 then some (.iload 4, 0, 0) else none)) else (bif Nat.blt pc 804 then (bif Nat.beq pc 803 then some (.iconst 1, 0, 1) else none) else (bif Nat.blt pc 805 then (bif Nat.beq pc 804 then some (.iadd, 0, 0) else none) else (bif Nat.beq pc 805 then some (.iaload, 0, 0) else none)))) else (bif Nat.blt pc 810 then (bif Nat.blt pc 807 then (bif Nat.beq pc 806 then some (.aload_n 0, 0, 0) else none) else (bif Nat.blt pc 809 then (bif Nat.beq pc 807 then some (.iload 4, 0, 0) else none) else (bif Nat.beq pc 809 then some (.iconst 2, 0, 2) else none))) else (bif Nat.blt pc 811 then (bif Nat.beq pc 810 then some (.iadd, 0, 0) else none) else (bif Nat.blt pc 812 then (bif Nat.beq pc 811 then some (.iaload, 0, 0) else none) else (bif Nat.beq pc 812 then some (.aload_n 3, 0, 0) else none))))) else (bif Nat.blt pc 823 then (bif Nat.blt pc 819 then (bif Nat.blt pc 816 then (bif Nat.beq pc 813 then some (.invokestatic 122, 0, 0) else none) else (bif Nat.blt pc 818 then (bif Nat.beq pc 816 then some (.istore 5, 0, 0) else none) else (bif Nat.beq pc 818 then some (.aload_n 2, 0, 0) else none))) else (bif Nat.blt pc 820 then (bif Nat.beq pc 819 then some (.aload_n 0, 0, 0) else none) else (bif Nat.blt pc 822 then (bif Nat.beq pc 820 then some (.iload 4, 0, 0) else none) else (bif Nat.beq pc 822 then some (.iconst 1, 0, 1) else none)))) else (bif Nat.blt pc 826 then (bif Nat.blt pc 824 then (bif Nat.beq pc 823 then some (.iadd, 0, 0) else none) else (bif Nat.blt pc 825 then (bif Nat.beq pc 824 then some (.iaload, 0, 0) else none) else (bif Nat.beq pc 825 then some (.aload_n 0, 0, 0) else none))) else (bif Nat.blt pc 828 then (bif Nat.beq pc 826 then some (.iload 4, 0, 0) else none) else (bif Nat.blt pc 829 then (bif Nat.beq pc 828 then some (.iconst 2, 0, 2) else none) else (bif Nat.beq pc 829 then some (.iadd, 0, 0) else none)))))))) else (bif Nat.blt pc 898 then (bif Nat.blt pc 868 then (bif Nat.blt pc 852 then (bif Nat.blt pc 840 then (bif Nat.blt pc 834 then (bif Nat.blt pc 831 then (bif Nat.beq pc 830 then some (.iaload, 0, 0) else none) else (bif Nat.beq pc 831 then some (.invokevirtual 124, 0, 0) else none)) else (bif Nat.blt pc 836 then (bif Nat.beq pc 834 then some (.istore 6, 0, 0) else none) else (bif Nat.blt pc 837 then (bif Nat.beq pc 836 then some (.aload_n 2, 0, 0) else none) else (bif Nat.beq pc 837 then some (.invokevirtual 77, 0, 0) else none)))) else (bif Nat.blt pc 846 then (bif Nat.blt pc 842 then (bif Nat.beq pc 840 then some (.iload 5, 0, 0) else none) else (bif Nat.blt pc 845 then (bif Nat.beq pc 842 then some (.if_icmp .eq 5, 847, 0) else none) else (bif Nat.beq pc 845 then some (.iconst 0, 0, 0) else none))) else (bif Nat.blt pc 847 then (bif Nat.beq pc 846 then some (.ireturn, 0, 0) else none) else (bif Nat.blt pc 849 then (bif Nat.beq pc 847 then some (.iload 5, 0, 0) else none) else (bif Nat.beq pc 849 then some (.ifCond .ne 15, 864, 0) else none))))) else (bif Nat.blt pc 858 then (bif Nat.blt pc 854 then (bif Nat.blt pc 853 then (bif Nat.beq pc 852 then some (.aload_n 3, 0, 0) else none) else (bif Nat.beq pc 853 then some (.iconst 0, 0, 0) else none)) else (bif Nat.blt pc 855 then (bif Nat.beq pc 854 then some (.laload, 0, 0) else none) else (bif Nat.blt pc 857 then (bif Nat.beq pc 855 then some (.iload 6, 0, 0) else none) else (bif Nat.beq pc 857 then some (.i2l, 0, 0) else none)))) else (bif Nat.blt pc 863 then (bif Nat.blt pc 859 then (bif Nat.beq pc 858 then some (.lcmp, 0, 0) else none) else (bif Nat.blt pc 862 then (bif Nat.beq pc 859 then some (.ifCond .eq 5, 864, 0) else none) else (bif Nat.beq pc 862 then some (.iconst 0, 0, 0) else none))) else (bif Nat.blt pc 864 then (bif Nat.beq pc 863 then some (.ireturn, 0, 0) else none) else (bif Nat.blt pc 867 then (bif Nat.beq pc 864 then some (.goto 401, 1265, 0) else none) else (bif Nat.beq pc 867 then some (.aload_n 1, 0, 0) else none)))))) else (bif Nat.blt pc 881 then (bif Nat.blt pc 874 then (bif Nat.blt pc 871 then (bif Nat.blt pc 869 then (bif Nat.beq pc 868 then some (.aload_n 0, 0, 0) else none) else (bif Nat.beq pc 869 then some (.iload 4, 0, 0) else none)) else (bif Nat.blt pc 872 then (bif Nat.beq pc 871 then some (.iconst 1, 0, 1) else none) else (bif Nat.blt pc 873 then (bif Nat.beq pc 872 then some (.iadd, 0, 0) else none) else (bif Nat.beq pc 873 then some (.iaload, 0, 0) else none)))) else (bif Nat.blt pc 878 then (bif Nat.blt pc 875 then (bif Nat.beq pc 874 then some (.aload_n 0, 0, 0) else none) else (bif Nat.blt pc 877 then (bif Nat.beq pc 875 then some (.iload 4, 0, 0) else none) else (bif Nat.beq pc 877 then some (.iconst 2, 0, 2) else none))) else (bif Nat.blt pc 879 then (bif Nat.beq pc 878 then some (.iadd, 0, 0) else none) else (bif Nat.blt pc 880 then (bif Nat.beq pc 879 then some (.iaload, 0, 0) else none) else (bif Nat.beq pc 880 then some (.aload_n 3, 0, 0) else none))))) else (bif Nat.blt pc 891 then (bif Nat.blt pc 887 then (bif Nat.blt pc 884 then (bif Nat.beq pc 881 then some (.invokestatic 125, 0, 0) else none) else (bif Nat.blt pc 886 then (bif Nat.beq pc 884 then some (.istore 5, 0, 0) else none) else (bif Nat.beq pc 886 then some (.aload_n 2, 0, 0) else none))) else (bif Nat.blt pc 888 then (bif Nat.beq pc 887 then some (.aload_n 0, 0, 0) else none) else (bif Nat.blt pc 890 then (bif Nat.beq pc 888 then some (.iload 4, 0, 0) else none) else (bif Nat.beq pc 890 then some (.iconst 1, 0, 1) else none)))) else (bif Nat.blt pc 894 then (bif Nat.blt pc 892 then (bif Nat.beq pc 891 then some (.iadd, 0, 0) else none) else (bif Nat.blt pc 893 then (bif Nat.beq pc 892 then some (.iaload, 0, 0) else none) else (bif Nat.beq pc 893 then some (.aload_n 0, 0, 0) else none))) else (bif Nat.blt pc 896 then (bif Nat.beq pc 894 then some (.iload 4, 0, 0) else none) else (bif Nat.blt pc 897 then (bif Nat.beq pc 896 then some (.iconst 2, 0, 2) else none) else (bif Nat.beq pc 897 then some (.iadd, 0, 0) else none))))))) else (bif Nat.blt pc 936 then (bif Nat.blt pc 920 then (bif Nat.blt pc 908 then (bif Nat.blt pc 902 then (bif Nat.blt pc 899 then (bif Nat.beq pc 898 then some (.iaload, 0, 0) else none) else (bif Nat.beq pc 899 then some (.invokevirtual 127, 0, 0) else none)) else (bif Nat.blt pc 904 then (bif Nat.beq pc 902 then some (.istore 6, 0, 0) else none) else (bif Nat.blt pc 905 then (bif Nat.beq pc 904 then some (.aload_n 2, 0, 0) else none) else (bif Nat.beq pc 905 then some (.invokevirtual 77, 0, 0) else none)))) else (bif Nat.blt pc 914 then (bif Nat.blt pc 910 then (bif Nat.beq pc 908 then some (.iload 5, 0, 0) else none) else (bif Nat.blt pc 913 then (bif Nat.beq pc 910 then some (.if_icmp .eq 5, 915, 0) else none) else (bif Nat.beq pc 913 then some (.iconst 0, 0, 0) else none))) else (bif Nat.blt pc 915 then (bif Nat.beq pc 914 then some (.ireturn, 0, 0) else none) else (bif Nat.blt pc 917 then (bif Nat.beq pc 915 then some (.iload 5, 0, 0) else none) else (bif Nat.beq pc 917 then some (.ifCond .ne 15, 932, 0) else none))))) else (bif Nat.blt pc 926 then (bif Nat.blt pc 922 then (bif Nat.blt pc 921 then (bif Nat.beq pc 920 then some (.aload_n 3, 0, 0) else none) else (bif Nat.beq pc 921 then some (.iconst 0, 0, 0) else none)) else (bif Nat.blt pc 923 then (bif Nat.beq pc 922 then some (.laload, 0, 0) else none) else (bif Nat.blt pc 925 then (bif Nat.beq pc 923 then some (.iload 6, 0, 0) else none) else (bif Nat.beq pc 925 then some (.i2l, 0, 0) else none)))) else (bif Nat.blt pc 931 then (bif Nat.blt pc 927 then (bif Nat.beq pc 926 then some (.lcmp, 0, 0) else none) else (bif Nat.blt pc 930 then (bif Nat.beq pc 927 then some (.ifCond .eq 5, 932, 0) else none) else (bif Nat.beq pc 930 then some (.iconst 0, 0, 0) else none))) else (bif Nat.blt pc 932 then (bif Nat.beq pc 931 then some (.ireturn, 0, 0) else none) else (bif Nat.blt pc 935 then (bif Nat.beq pc 932 then some (.goto 333, 1265, 0) else none) else (bif Nat.beq pc 935 then some (.aload_n 1, 0, 0) else none)))))) else (bif Nat.blt pc 952 then (bif Nat.blt pc 942 then (bif Nat.blt pc 939 then (bif Nat.blt pc 937 then (bif Nat.beq pc 936 then some (.aload_n 0, 0, 0) else none) else (bif Nat.beq pc 937 then some (.iload 4, 0, 0) else none)) else (bif Nat.blt pc 940 then (bif Nat.beq pc 939 then some (.iconst 1, 0, 1) else none) else (bif Nat.blt pc 941 then (bif Nat.beq pc 940 then some (.iadd, 0, 0) else none) else (bif Nat.beq pc 941 then some (.iaload, 0, 0) else none)))) else (bif Nat.blt pc 948 then (bif Nat.blt pc 943 then (bif Nat.beq pc 942 then some (.aload_n 3, 0, 0) else none) else (bif Nat.blt pc 946 then (bif Nat.beq pc 943 then some (.invokestatic 128, 0, 0) else none) else (bif Nat.beq pc 946 then some (.istore 5, 0, 0) else none))) else (bif Nat.blt pc 949 then (bif Nat.beq pc 948 then some (.aload_n 2, 0, 0) else none) else (bif Nat.blt pc 950 then (bif Nat.beq pc 949 then some (.aload_n 0, 0, 0) else none) else (bif Nat.beq pc 950 then some (.iload 4, 0, 0) else none))))) else (bif Nat.blt pc 961 then (bif Nat.blt pc 955 then (bif Nat.blt pc 953 then (bif Nat.beq pc 952 then some (.iconst 1, 0, 1) else none) else (bif Nat.blt pc 954 then (bif Nat.beq pc 953 then some (.iadd, 0, 0) else none) else (bif Nat.beq pc 954 then some (.iaload, 0, 0) else none))) else (bif Nat.blt pc 958 then (bif Nat.beq pc 955 then some (.invokevirtual 130, 0, 0) else none) else (bif Nat.blt pc 960 then (bif Nat.beq pc 958 then some (.istore 6, 0, 0) else none) else (bif Nat.beq pc 960 then some (.aload_n 2, 0, 0) else none)))) else (bif Nat.blt pc 969 then (bif Nat.blt pc 964 then (bif Nat.beq pc 961 then some (.invokevirtual 77, 0, 0) else none) else (bif Nat.blt pc 966 then (bif Nat.beq pc 964 then some (.iload 5, 0, 0) else none) else (bif Nat.beq pc 966 then some (.if_icmp .eq 5, 971, 0) else none))) else (bif Nat.blt pc 970 then (bif Nat.beq pc 969 then some (.iconst 0, 0, 0) else none) else (bif Nat.blt pc 971 then (bif Nat.beq pc 970 then some (.ireturn, 0, 0) else none) else (bif Nat.beq pc 971 then some (.iload 5, 0, 0) else none))))))))) else (bif Nat.blt pc 1114 then (bif Nat.blt pc 1044 then (bif Nat.blt pc 1006 then (bif Nat.blt pc 991 then (bif Nat.blt pc 981 then (bif Nat.blt pc 977 then (bif Nat.blt pc 976 then (bif Nat.beq pc 973 then some (.ifCond .ne 15, 988, 0) else none) else (bif Nat.beq pc 976 then some (.aload_n 3, 0, 0) else none)) else (bif Nat.blt pc 978 then (bif Nat.beq pc 977 then some (.iconst 0, 0, 0) else none) else (bif Nat.blt pc 979 then (bif Nat.beq pc 978 then some (.laload, 0, 0) else none) else (bif Nat.beq pc 979 then some (.iload 6, 0, 0) else none)))) else (bif Nat.blt pc 986 then (bif Nat.blt pc 982 then (bif Nat.beq pc 981 then some (.i2l, 0, 0) else none) else (bif Nat.blt pc 983 then (bif Nat.beq pc 982 then some (.lcmp, 0, 0) else none) else (bif Nat.beq pc 983 then some (.ifCond .eq 5, 988, 0) else none))) else (bif Nat.blt pc 987 then (bif Nat.beq pc 986 then some (.iconst 0, 0, 0) else none) else (bif Nat.blt pc 988 then (bif Nat.beq pc 987 then some (.ireturn, 0, 0) else none) else (bif Nat.beq pc 988 then some (.goto 277, 1265, 0) else none))))) else (bif Nat.blt pc 997 then (bif Nat.blt pc 993 then (bif Nat.blt pc 992 then (bif Nat.beq pc 991 then some (.aload_n 1, 0, 0) else none) else (bif Nat.beq pc 992 then some (.aload_n 0, 0, 0) else none)) else (bif Nat.blt pc 995 then (bif Nat.beq pc 993 then some (.iload 4, 0, 0) else none) else (bif Nat.blt pc 996 then (bif Nat.beq pc 995 then some (.iconst 1, 0, 1) else none) else (bif Nat.beq pc 996 then some (.iadd, 0, 0) else none)))) else (bif Nat.blt pc 1002 then (bif Nat.blt pc 998 then (bif Nat.beq pc 997 then some (.iaload, 0, 0) else none) else (bif Nat.blt pc 999 then (bif Nat.beq pc 998 then some (.aload_n 3, 0, 0) else none) else (bif Nat.beq pc 999 then some (.invokestatic 131, 0, 0) else none))) else (bif Nat.blt pc 1004 then (bif Nat.beq pc 1002 then some (.istore 5, 0, 0) else none) else (bif Nat.blt pc 1005 then (bif Nat.beq pc 1004 then some (.aload_n 2, 0, 0) else none) else (bif Nat.beq pc 1005 then some (.aload_n 0, 0, 0) else none)))))) else (bif Nat.blt pc 1026 then (bif Nat.blt pc 1014 then (bif Nat.blt pc 1009 then (bif Nat.blt pc 1008 then (bif Nat.beq pc 1006 then some (.iload 4, 0, 0) else none) else (bif Nat.beq pc 1008 then some (.iconst 1, 0, 1) else none)) else (bif Nat.blt pc 1010 then (bif Nat.beq pc 1009 then some (.iadd, 0, 0) else none) else (bif Nat.blt pc 1011 then (bif Nat.beq pc 1010 then some (.iaload, 0, 0) else none) else (bif Nat.beq pc 1011 then some (.invokevirtual 133, 0, 0) else none)))) else (bif Nat.blt pc 1020 then (bif Nat.blt pc 1016 then (bif Nat.beq pc 1014 then some (.istore 6, 0, 0) else none) else (bif Nat.blt pc 1017 then (bif Nat.beq pc 1016 then some (.aload_n 2, 0, 0) else none) else (bif Nat.beq pc 1017 then some (.invokevirtual 77, 0, 0) else none))) else (bif Nat.blt pc 1022 then (bif Nat.beq pc 1020 then some (.iload 5, 0, 0) else none) else (bif Nat.blt pc 1025 then (bif Nat.beq pc 1022 then some (.if_icmp .eq 5, 1027, 0) else none) else (bif Nat.beq pc 1025 then some (.iconst 0, 0, 0) else none))))) else (bif Nat.blt pc 1035 then (bif Nat.blt pc 1032 then (bif Nat.blt pc 1027 then (bif Nat.beq pc 1026 then some (.ireturn, 0, 0) else none) else (bif Nat.blt pc 1029 then (bif Nat.beq pc 1027 then some (.iload 5, 0, 0) else none) else (bif Nat.beq pc 1029 then some (.ifCond .ne 15, 1044, 0) else none))) else (bif Nat.blt pc 1033 then (bif Nat.beq pc 1032 then some (.aload_n 3, 0, 0) else none) else (bif Nat.blt pc 1034 then (bif Nat.beq pc 1033 then some (.iconst 0, 0, 0) else none) else (bif Nat.beq pc 1034 then some (.laload, 0, 0) else none)))) else (bif Nat.blt pc 1039 then (bif Nat.blt pc 1037 then (bif Nat.beq pc 1035 then some (.iload 6, 0, 0) else none) else (bif Nat.blt pc 1038 then (bif Nat.beq pc 1037 then some (.i2l, 0, 0) else none) else (bif Nat.beq pc 1038 then some (.lcmp, 0, 0) else none))) else (bif Nat.blt pc 1042 then (bif Nat.beq pc 1039 then some (.ifCond .eq 5, 1044, 0) else none) else (bif Nat.blt pc 1043 then (bif Nat.beq pc 1042 then some (.iconst 0, 0, 0) else none) else (bif Nat.beq pc 1043 then some (.ireturn, 0, 0) else none))))))) else (bif Nat.blt pc 1081 then (bif Nat.blt pc 1061 then (bif Nat.blt pc 1052 then (bif Nat.blt pc 1048 then (bif Nat.blt pc 1047 then (bif Nat.beq pc 1044 then some (.goto 221, 1265, 0) else none) else (bif Nat.beq pc 1047 then some (.aload_n 1, 0, 0) else none)) else (bif Nat.blt pc 1049 then (bif Nat.beq pc 1048 then some (.aload_n 0, 0, 0) else none) else (bif Nat.blt pc 1051 then (bif Nat.beq pc 1049 then some (.iload 4, 0, 0) else none) else (bif Nat.beq pc 1051 then some (.iconst 1, 0, 1) else none)))) else (bif Nat.blt pc 1055 then (bif Nat.blt pc 1053 then (bif Nat.beq pc 1052 then some (.iadd, 0, 0) else none) else (bif Nat.blt pc 1054 then (bif Nat.beq pc 1053 then some (.iaload, 0, 0) else none) else (bif Nat.beq pc 1054 then some (.aload_n 3, 0, 0) else none))) else (bif Nat.blt pc 1058 then (bif Nat.beq pc 1055 then some (.invokestatic 134, 0, 0) else none) else (bif Nat.blt pc 1060 then (bif Nat.beq pc 1058 then some (.istore 5, 0, 0) else none) else (bif Nat.beq pc 1060 then some (.aload_n 2, 0, 0) else none))))) else (bif Nat.blt pc 1067 then (bif Nat.blt pc 1064 then (bif Nat.blt pc 1062 then (bif Nat.beq pc 1061 then some (.aload_n 0, 0, 0) else none) else (bif Nat.beq pc 1062 then some (.iload 4, 0, 0) else none)) else (bif Nat.blt pc 1065 then (bif Nat.beq pc 1064 then some (.iconst 1, 0, 1) else none) else (bif Nat.blt pc 1066 then (bif Nat.beq pc 1065 then some (.iadd, 0, 0) else none) else (bif Nat.beq pc 1066 then some (.iaload, 0, 0) else none)))) else (bif Nat.blt pc 1073 then (bif Nat.blt pc 1070 then (bif Nat.beq pc 1067 then some (.invokevirtual 136, 0, 0) else none) else (bif Nat.blt pc 1072 then (bif Nat.beq pc 1070 then some (.istore 6, 0, 0) else none) else (bif Nat.beq pc 1072 then some (.aload_n 2, 0, 0) else none))) else (bif Nat.blt pc 1076 then (bif Nat.beq pc 1073 then some (.invokevirtual 77, 0, 0) else none) else (bif Nat.blt pc 1078 then (bif Nat.beq pc 1076 then some (.iload 5, 0, 0) else none) else (bif Nat.beq pc 1078 then some (.if_icmp .eq 5, 1083, 0) else none)))))) else (bif Nat.blt pc 1098 then (bif Nat.blt pc 1089 then (bif Nat.blt pc 1083 then (bif Nat.blt pc 1082 then (bif Nat.beq pc 1081 then some (.iconst 0, 0, 0) else none) else (bif Nat.beq pc 1082 then some (.ireturn, 0, 0) else none)) else (bif Nat.blt pc 1085 then (bif Nat.beq pc 1083 then some (.iload 5, 0, 0) else none) else (bif Nat.blt pc 1088 then (bif Nat.beq pc 1085 then some (.ifCond .ne 15, 1100, 0) else none) else (bif Nat.beq pc 1088 then some (.aload_n 3, 0, 0) else none)))) else (bif Nat.blt pc 1093 then (bif Nat.blt pc 1090 then (bif Nat.beq pc 1089 then some (.iconst 0, 0, 0) else none) else (bif Nat.blt pc 1091 then (bif Nat.beq pc 1090 then some (.laload, 0, 0) else none) else (bif Nat.beq pc 1091 then some (.iload 6, 0, 0) else none))) else (bif Nat.blt pc 1094 then (bif Nat.beq pc 1093 then some (.i2l, 0, 0) else none) else (bif Nat.blt pc 1095 then (bif Nat.beq pc 1094 then some (.lcmp, 0, 0) else none) else (bif Nat.beq pc 1095 then some (.ifCond .eq 5, 1100, 0) else none))))) else (bif Nat.blt pc 1107 then (bif Nat.blt pc 1103 then (bif Nat.blt pc 1099 then (bif Nat.beq pc 1098 then some (.iconst 0, 0, 0) else none) else (bif Nat.blt pc 1100 then (bif Nat.beq pc 1099 then some (.ireturn, 0, 0) else none) else (bif Nat.beq pc 1100 then some (.goto 165, 1265, 0) else none))) else (bif Nat.blt pc 1104 then (bif Nat.beq pc 1103 then some (.aload_n 1, 0, 0) else none) else (bif Nat.blt pc 1105 then (bif Nat.beq pc 1104 then some (.aload_n 0, 0, 0) else none) else (bif Nat.beq pc 1105 then some (.iload 4, 0, 0) else none)))) else (bif Nat.blt pc 1110 then (bif Nat.blt pc 1108 then (bif Nat.beq pc 1107 then some (.iconst 1, 0, 1) else none) else (bif Nat.blt pc 1109 then (bif Nat.beq pc 1108 then some (.iadd, 0, 0) else none) else (bif Nat.beq pc 1109 then some (.iaload, 0, 0) else none))) else (bif Nat.blt pc 1111 then (bif Nat.beq pc 1110 then some (.aload_n 0, 0, 0) else none) else (bif Nat.blt pc 1113 then (bif Nat.beq pc 1111 then some (.iload 4, 0, 0) else none) else (bif Nat.beq pc 1113 then some (.iconst 2, 0, 2) else none)))))))) else (bif Nat.blt pc 1188 then (bif Nat.blt pc 1149 then (bif Nat.blt pc 1129 then (bif Nat.blt pc 1122 then (bif Nat.blt pc 1116 then (bif Nat.blt pc 1115 then (bif Nat.beq pc 1114 then some (.iadd, 0, 0) else none) else (bif Nat.beq pc 1115 then some (.iaload, 0, 0) else none)) else (bif Nat.blt pc 1117 then (bif Nat.beq pc 1116 then some (.aload_n 3, 0, 0) else none) else (bif Nat.blt pc 1120 then (bif Nat.beq pc 1117 then some (.invokestatic 137, 0, 0) else none) else (bif Nat.beq pc 1120 then some (.istore 5, 0, 0) else none)))) else (bif Nat.blt pc 1126 then (bif Nat.blt pc 1123 then (bif Nat.beq pc 1122 then some (.aload_n 2, 0, 0) else none) else (bif Nat.blt pc 1124 then (bif Nat.beq pc 1123 then some (.aload_n 0, 0, 0) else none) else (bif Nat.beq pc 1124 then some (.iload 4, 0, 0) else none))) else (bif Nat.blt pc 1127 then (bif Nat.beq pc 1126 then some (.iconst 1, 0, 1) else none) else (bif Nat.blt pc 1128 then (bif Nat.beq pc 1127 then some (.iadd, 0, 0) else none) else (bif Nat.beq pc 1128 then some (.iaload, 0, 0) else none))))) else (bif Nat.blt pc 1135 then (bif Nat.blt pc 1132 then (bif Nat.blt pc 1130 then (bif Nat.beq pc 1129 then some (.aload_n 0, 0, 0) else none) else (bif Nat.beq pc 1130 then some (.iload 4, 0, 0) else none)) else (bif Nat.blt pc 1133 then (bif Nat.beq pc 1132 then some (.iconst 2, 0, 2) else none) else (bif Nat.blt pc 1134 then (bif Nat.beq pc 1133 then some (.iadd, 0, 0) else none) else (bif Nat.beq pc 1134 then some (.iaload, 0, 0) else none)))) else (bif Nat.blt pc 1141 then (bif Nat.blt pc 1138 then (bif Nat.beq pc 1135 then some (.invokevirtual 139, 0, 0) else none) else (bif Nat.blt pc 1140 then (bif Nat.beq pc 1138 then some (.istore 6, 0, 0) else none) else (bif Nat.beq pc 1140 then some (.aload_n 2, 0, 0) else none))) else (bif Nat.blt pc 1144 then (bif Nat.beq pc 1141 then some (.invokevirtual 77, 0, 0) else none) else (bif Nat.blt pc 1146 then (bif Nat.beq pc 1144 then some (.iload 5, 0, 0) else none) else (bif Nat.beq pc 1146 then some (.if_icmp .eq 5, 1151, 0) else none)))))) else (bif Nat.blt pc 1166 then (bif Nat.blt pc 1157 then (bif Nat.blt pc 1151 then (bif Nat.blt pc 1150 then (bif Nat.beq pc 1149 then some (.iconst 0, 0, 0) else none) else (bif Nat.beq pc 1150 then some (.ireturn, 0, 0) else none)) else (bif Nat.blt pc 1153 then (bif Nat.beq pc 1151 then some (.iload 5, 0, 0) else none) else (bif Nat.blt pc 1156 then (bif Nat.beq pc 1153 then some (.ifCond .ne 15, 1168, 0) else none) else (bif Nat.beq pc 1156 then some (.aload_n 3, 0, 0) else none)))) else (bif Nat.blt pc 1161 then (bif Nat.blt pc 1158 then (bif Nat.beq pc 1157 then some (.iconst 0, 0, 0) else none) else (bif Nat.blt pc 1159 then (bif Nat.beq pc 1158 then some (.laload, 0, 0) else none) else (bif Nat.beq pc 1159 then some (.iload 6, 0, 0) else none))) else (bif Nat.blt pc 1162 then (bif Nat.beq pc 1161 then some (.i2l, 0, 0) else none) else (bif Nat.blt pc 1163 then (bif Nat.beq pc 1162 then some (.lcmp, 0, 0) else none) else (bif Nat.beq pc 1163 then some (.ifCond .eq 5, 1168, 0) else none))))) else (bif Nat.blt pc 1176 then (bif Nat.blt pc 1171 then (bif Nat.blt pc 1167 then (bif Nat.beq pc 1166 then some (.iconst 0, 0, 0) else none) else (bif Nat.blt pc 1168 then (bif Nat.beq pc 1167 then some (.ireturn, 0, 0) else none) else (bif Nat.beq pc 1168 then some (.goto 97, 1265, 0) else none))) else (bif Nat.blt pc 1172 then (bif Nat.beq pc 1171 then some (.aload_n 1, 0, 0) else none) else (bif Nat.blt pc 1175 then (bif Nat.beq pc 1172 then some (.invokevirtual 140, 0, 0) else none) else (bif Nat.beq pc 1175 then some (.aload_n 2, 0, 0) else none)))) else (bif Nat.blt pc 1183 then (bif Nat.blt pc 1179 then (bif Nat.beq pc 1176 then some (.invokevirtual 143, 0, 0) else none) else (bif Nat.blt pc 1182 then (bif Nat.beq pc 1179 then some (.if_icmp .eq 86, 1265, 0) else none) else (bif Nat.beq pc 1182 then some (.iconst 0, 0, 0) else none))) else (bif Nat.blt pc 1184 then (bif Nat.beq pc 1183 then some (.ireturn, 0, 0) else none) else (bif Nat.blt pc 1185 then (bif Nat.beq pc 1184 then some (.aload_n 1, 0, 0) else none) else (bif Nat.beq pc 1185 then some (.invokevirtual 144, 0, 0) else none))))))) else (bif Nat.blt pc 1230 then (bif Nat.blt pc 1209 then (bif Nat.blt pc 1197 then (bif Nat.blt pc 1192 then (bif Nat.blt pc 1189 then (bif Nat.beq pc 1188 then some (.aload_n 2, 0, 0) else none) else (bif Nat.beq pc 1189 then some (.invokevirtual 147, 0, 0) else none)) else (bif Nat.blt pc 1195 then (bif Nat.beq pc 1192 then some (.if_icmp .eq 73, 1265, 0) else none) else (bif Nat.blt pc 1196 then (bif Nat.beq pc 1195 then some (.iconst 0, 0, 0) else none) else (bif Nat.beq pc 1196 then some (.ireturn, 0, 0) else none)))) else (bif Nat.blt pc 1202 then (bif Nat.blt pc 1198 then (bif Nat.beq pc 1197 then some (.aload_n 1, 0, 0) else none) else (bif Nat.blt pc 1201 then (bif Nat.beq pc 1198 then some (.invokevirtual 148, 0, 0) else none) else (bif Nat.beq pc 1201 then some (.aload_n 2, 0, 0) else none))) else (bif Nat.blt pc 1205 then (bif Nat.beq pc 1202 then some (.invokevirtual 151, 0, 0) else none) else (bif Nat.blt pc 1208 then (bif Nat.beq pc 1205 then some (.if_icmp .eq 60, 1265, 0) else none) else (bif Nat.beq pc 1208 then some (.iconst 0, 0, 0) else none))))) else (bif Nat.blt pc 1217 then (bif Nat.blt pc 1211 then (bif Nat.blt pc 1210 then (bif Nat.beq pc 1209 then some (.ireturn, 0, 0) else none) else (bif Nat.beq pc 1210 then some (.aload_n 1, 0, 0) else none)) else (bif Nat.blt pc 1214 then (bif Nat.beq pc 1211 then some (.invokevirtual 152, 0, 0) else none) else (bif Nat.blt pc 1216 then (bif Nat.beq pc 1214 then some (.dstore 5, 0, 0) else none) else (bif Nat.beq pc 1216 then some (.aload_n 2, 0, 0) else none)))) else (bif Nat.blt pc 1224 then (bif Nat.blt pc 1220 then (bif Nat.beq pc 1217 then some (.invokevirtual 156, 0, 0) else none) else (bif Nat.blt pc 1222 then (bif Nat.beq pc 1220 then some (.dstore 7, 0, 0) else none) else (bif Nat.beq pc 1222 then some (.dload 5, 0, 0) else none))) else (bif Nat.blt pc 1226 then (bif Nat.beq pc 1224 then some (.dload 7, 0, 0) else none) else (bif Nat.blt pc 1227 then (bif Nat.beq pc 1226 then some (.dcmp .l, 0, 0) else none) else (bif Nat.beq pc 1227 then some (.ifCond .eq 21, 1248, 0) else none)))))) else (bif Nat.blt pc 1251 then (bif Nat.blt pc 1240 then (bif Nat.blt pc 1234 then (bif Nat.blt pc 1232 then (bif Nat.beq pc 1230 then some (.dload 5, 0, 0) else none) else (bif Nat.beq pc 1232 then some (.dload 5, 0, 0) else none)) else (bif Nat.blt pc 1235 then (bif Nat.beq pc 1234 then some (.dcmp .l, 0, 0) else none) else (bif Nat.blt pc 1238 then (bif Nat.beq pc 1235 then some (.ifCond .eq 11, 1246, 0) else none) else (bif Nat.beq pc 1238 then some (.dload 7, 0, 0) else none)))) else (bif Nat.blt pc 1246 then (bif Nat.blt pc 1242 then (bif Nat.beq pc 1240 then some (.dload 7, 0, 0) else none) else (bif Nat.blt pc 1243 then (bif Nat.beq pc 1242 then some (.dcmp .l, 0, 0) else none) else (bif Nat.beq pc 1243 then some (.ifCond .ne 5, 1248, 0) else none))) else (bif Nat.blt pc 1247 then (bif Nat.beq pc 1246 then some (.iconst 0, 0, 0) else none) else (bif Nat.blt pc 1248 then (bif Nat.beq pc 1247 then some (.ireturn, 0, 0) else none) else (bif Nat.beq pc 1248 then some (.goto 17, 1265, 0) else none))))) else (bif Nat.blt pc 1263 then (bif Nat.blt pc 1256 then (bif Nat.blt pc 1252 then (bif Nat.beq pc 1251 then some (.aload_n 1, 0, 0) else none) else (bif Nat.blt pc 1255 then (bif Nat.beq pc 1252 then some (.invokevirtual 157, 0, 0) else none) else (bif Nat.beq pc 1255 then some (.aload_n 2, 0, 0) else none))) else (bif Nat.blt pc 1259 then (bif Nat.beq pc 1256 then some (.invokevirtual 161, 0, 0) else none) else (bif Nat.blt pc 1260 then (bif Nat.beq pc 1259 then some (.lcmp, 0, 0) else none) else (bif Nat.beq pc 1260 then some (.ifCond .eq 5, 1265, 0) else none)))) else (bif Nat.blt pc 1268 then (bif Nat.blt pc 1264 then (bif Nat.beq pc 1263 then some (.iconst 0, 0, 0) else none) else (bif Nat.blt pc 1265 then (bif Nat.beq pc 1264 then some (.ireturn, 0, 0) else none) else (bif Nat.beq pc 1265 then some (.iinc 4 6, 0, 6) else none))) else (bif Nat.blt pc 1271 then (bif Nat.beq pc 1268 then some (.goto (-1245), 23, 0) else none) else (bif Nat.blt pc 1272 then (bif Nat.beq pc 1271 then some (.iconst 1, 0, 1) else none) else (bif Nat.beq pc 1272 then some (.ireturn, 0, 0) else none))))))))))
abbrev m_X0_copyFrom : Nat := 0
abbrev m_X0_begin : Nat := 1
abbrev m_X0_become : Nat := 2
abbrev m_X0_isInUse : Nat := 3
abbrev m_X0_maskOf : Nat := 4
abbrev m_X0_sizeOf : Nat := 5
abbrev m_X0_warmUpAnHour : Nat := 6
abbrev m_X0_burnFuel : Nat := 7
abbrev m_X0_fuelFor : Nat := 8
abbrev m_X0_fuelSoFar : Nat := 9
abbrev m_X0_firstByMerit : Nat := 10
abbrev m_X1_copyFrom : Nat := 11
abbrev m_X1_hourOfNow : Nat := 12
abbrev m_X1_hasStill : Nat := 13
abbrev m_X1_loadOf : Nat := 14
abbrev m_X1_letHoursGoBy : Nat := 15
abbrev m_X1_letAnHourGoBy : Nat := 16
abbrev m_X1_changeWarmth : Nat := 17
abbrev m_X1_darkHours : Nat := 18
abbrev m_X1_safeHours : Nat := 19
abbrev m_X2_read : Nat := 20
abbrev m_X2_isWhole : Nat := 21
abbrev m_X2_takes : Nat := 22
abbrev m_X2_takesOrder : Nat := 23
abbrev m_X2_takesDigit : Nat := 24
abbrev m_X2_begins : Nat := 25
abbrev m_X2_goesOn : Nat := 26
abbrev m_X3_shareOut : Nat := 27
abbrev m_X3_giveByMerit : Nat := 28
abbrev m_X4_rate : Nat := 29
abbrev m_X4_start : Nat := 30
abbrev m_X4_stop : Nat := 31
abbrev m_X4_lose : Nat := 32
abbrev m_X4_shed : Nat := 33
abbrev m_X4_forecast : Nat := 34
abbrev m_X4_pass : Nat := 35
abbrev m_X4_set : Nat := 36
abbrev m_X4_append : Nat := 37
abbrev m_X4_clearBuffer : Nat := 38
abbrev m_X4_firstError : Nat := 39
abbrev m_X4_run : Nat := 40
abbrev m_X4_undo : Nat := 41
abbrev m_X4_setOf : Nat := 42
abbrev m_X4_hour : Nat := 43
abbrev m_X4_count : Nat := 44
abbrev m_X4_setting : Nat := 45
abbrev m_X4_ifLost : Nat := 46
abbrev m_X4_cheapest : Nat := 47
abbrev m_X4_firstDark : Nat := 48
abbrev m_X4_ifShed : Nat := 49
abbrev m_X4_bestStart : Nat := 50
abbrev m_X4_safeShare : Nat := 51
abbrev m_X4_digest : Nat := 52
abbrev m_X4_withCheapest : Nat := 53
abbrev m_X4_saveState : Nat := 54
abbrev m_X4_shareOutNow : Nat := 55
abbrev m_X4_isAllowed : Nat := 56
abbrev m_X4_obey : Nat := 57
abbrev m_X4_requireArgument : Nat := 58
abbrev m_X4_requireState : Nat := 59
abbrev m_X4_requireSetting : Nat := 60
abbrev m_X4_isFrom : Nat := 61
abbrev m_X4_isSet : Nat := 62
abbrev m_X4_isHour : Nat := 63
abbrev m_X4_oneIf : Nat := 64
abbrev m_X4_bitsOfShare : Nat := 65
abbrev m_X5_thrown : Nat := 66
abbrev m_X5_in : Nat := 67
abbrev m_X5_holds : Nat := 68
abbrev m_X5_isSet : Nat := 69
abbrev m_X5_save : Nat := 70
abbrev m_X5_putAside : Nat := 71
abbrev m_X5_putBack : Nat := 72
abbrev m_X5_running : Nat := 73
abbrev m_X5_has : Nat := 74
abbrev m_X5_loadOf : Nat := 75
abbrev m_X5_cheapestOf : Nat := 76
abbrev m_X5_share : Nat := 77
abbrev m_X5_now : Nat := 78
abbrev m_X5_shareNow : Nat := 79
abbrev m_X5_many : Nat := 80
abbrev m_X5_goOn : Nat := 81
abbrev m_X5_startFault : Nat := 82
abbrev m_X5_starts : Nat := 83
abbrev m_X5_stopFault : Nat := 84
abbrev m_X5_stops : Nat := 85
abbrev m_X5_sheds : Nat := 86
abbrev m_X5_passFault : Nat := 87
abbrev m_X5_passes : Nat := 88
abbrev m_X5_forecastFault : Nat := 89
abbrev m_X5_puts : Nat := 90
abbrev m_X5_rate : Nat := 91
abbrev m_X5_start : Nat := 92
abbrev m_X5_stop : Nat := 93
abbrev m_X5_lose : Nat := 94
abbrev m_X5_shed : Nat := 95
abbrev m_X5_forecast : Nat := 96
abbrev m_X5_pass : Nat := 97
abbrev m_X5_set : Nat := 98
abbrev m_X5_append : Nat := 99
abbrev m_X5_clearBuffer : Nat := 100
abbrev m_X5_sign : Nat := 101
abbrev m_X5_number : Nat := 102
abbrev m_X5_order : Nat := 103
abbrev m_X5_does : Nat := 104
abbrev m_X5_go : Nat := 105
abbrev m_X5_firstError : Nat := 106
abbrev m_X5_run : Nat := 107
abbrev m_X5_undo : Nat := 108
abbrev m_X5_toldOf : Nat := 109
abbrev m_X5_setOf : Nat := 110
abbrev m_X5_toldOfHour : Nat := 111
abbrev m_X5_hour : Nat := 112
abbrev m_X5_allFuel : Nat := 113
abbrev m_X5_warming : Nat := 114
abbrev m_X5_counted : Nat := 115
abbrev m_X5_count : Nat := 116
abbrev m_X5_setting : Nat := 117
abbrev m_X5_darkWithout : Nat := 118
abbrev m_X5_ifLost : Nat := 119
abbrev m_X5_best : Nat := 120
abbrev m_X5_cheapest : Nat := 121
abbrev m_X5_darkFirst : Nat := 122
abbrev m_X5_firstDark : Nat := 123
abbrev m_X5_darkToTheEnd : Nat := 124
abbrev m_X5_fewerIfShed : Nat := 125
abbrev m_X5_ifShed : Nat := 126
abbrev m_X5_startBest : Nat := 127
abbrev m_X5_bestStart : Nat := 128
abbrev m_X5_safe : Nat := 129
abbrev m_X5_safeShare : Nat := 130
abbrev m_X5_bitsOf : Nat := 131
abbrev m_X5_digestOne : Nat := 132
abbrev m_X5_digest : Nat := 133
abbrev m_J6_bitCount : Nat := 134
abbrev m_L_rate : Nat := 135
abbrev m_L_start : Nat := 136
abbrev m_L_stop : Nat := 137
abbrev m_L_lose : Nat := 138
abbrev m_L_forecast : Nat := 139
abbrev m_L_pass : Nat := 140
abbrev m_L_set : Nat := 141
abbrev m_L_append : Nat := 142
abbrev m_L_run : Nat := 143
abbrev m_L_undo : Nat := 144
abbrev m_L_setOf : Nat := 145
abbrev m_L_hour : Nat := 146
abbrev m_L_count : Nat := 147
abbrev m_L_setting : Nat := 148
abbrev m_L_ifLost : Nat := 149
abbrev m_L_cheapest : Nat := 150
abbrev m_L_law : Nat := 151
def z_len (m : Nat) : Nat := bif Nat.blt m 76 then (bif Nat.blt m 38 then (bif Nat.blt m 19 then (bif Nat.blt m 9 then (bif Nat.blt m 4 then (bif Nat.blt m 2 then (bif Nat.blt m 1 then (113) else (33)) else (bif Nat.blt m 3 then (15) else (26))) else (bif Nat.blt m 6 then (bif Nat.blt m 5 then (33) else (9)) else (bif Nat.blt m 7 then (49) else (bif Nat.blt m 8 then (62) else (39))))) else (bif Nat.blt m 14 then (bif Nat.blt m 11 then (bif Nat.blt m 10 then (26) else (60)) else (bif Nat.blt m 12 then (91) else (bif Nat.blt m 13 then (10) else (17)))) else (bif Nat.blt m 16 then (bif Nat.blt m 15 then (27) else (28)) else (bif Nat.blt m 17 then (149) else (bif Nat.blt m 18 then (60) else (48)))))) else (bif Nat.blt m 28 then (bif Nat.blt m 23 then (bif Nat.blt m 21 then (bif Nat.blt m 20 then (37) else (41)) else (bif Nat.blt m 22 then (32) else (101))) else (bif Nat.blt m 25 then (bif Nat.blt m 24 then (141) else (155)) else (bif Nat.blt m 26 then (29) else (bif Nat.blt m 27 then (44) else (171))))) else (bif Nat.blt m 33 then (bif Nat.blt m 30 then (bif Nat.blt m 29 then (98) else (163)) else (bif Nat.blt m 31 then (58) else (bif Nat.blt m 32 then (49) else (63)))) else (bif Nat.blt m 35 then (bif Nat.blt m 34 then (37) else (56)) else (bif Nat.blt m 36 then (55) else (bif Nat.blt m 37 then (54) else (53))))))) else (bif Nat.blt m 57 then (bif Nat.blt m 47 then (bif Nat.blt m 42 then (bif Nat.blt m 40 then (bif Nat.blt m 39 then (12) else (16)) else (bif Nat.blt m 41 then (126) else (54))) else (bif Nat.blt m 44 then (bif Nat.blt m 43 then (150) else (56)) else (bif Nat.blt m 45 then (248) else (bif Nat.blt m 46 then (14) else (62))))) else (bif Nat.blt m 52 then (bif Nat.blt m 49 then (bif Nat.blt m 48 then (158) else (62)) else (bif Nat.blt m 50 then (91) else (bif Nat.blt m 51 then (173) else (30)))) else (bif Nat.blt m 54 then (bif Nat.blt m 53 then (278) else (26)) else (bif Nat.blt m 55 then (67) else (bif Nat.blt m 56 then (40) else (133)))))) else (bif Nat.blt m 66 then (bif Nat.blt m 61 then (bif Nat.blt m 59 then (bif Nat.blt m 58 then (126) else (16)) else (bif Nat.blt m 60 then (16) else (21))) else (bif Nat.blt m 63 then (bif Nat.blt m 62 then (16) else (7)) else (bif Nat.blt m 64 then (8) else (bif Nat.blt m 65 then (10) else (58))))) else (bif Nat.blt m 71 then (bif Nat.blt m 68 then (bif Nat.blt m 67 then (5) else (16)) else (bif Nat.blt m 69 then (15) else (bif Nat.blt m 70 then (7) else (97)))) else (bif Nat.blt m 73 then (bif Nat.blt m 72 then (28) else (28)) else (bif Nat.blt m 74 then (40) else (bif Nat.blt m 75 then (15) else (33)))))))) else (bif Nat.blt m 114 then (bif Nat.blt m 95 then (bif Nat.blt m 85 then (bif Nat.blt m 80 then (bif Nat.blt m 78 then (bif Nat.blt m 77 then (69) else (334)) else (bif Nat.blt m 79 then (25) else (17))) else (bif Nat.blt m 82 then (bif Nat.blt m 81 then (22) else (374)) else (bif Nat.blt m 83 then (29) else (bif Nat.blt m 84 then (54) else (34))))) else (bif Nat.blt m 90 then (bif Nat.blt m 87 then (bif Nat.blt m 86 then (28) else (24)) else (bif Nat.blt m 88 then (34) else (bif Nat.blt m 89 then (35) else (27)))) else (bif Nat.blt m 92 then (bif Nat.blt m 91 then (16) else (135)) else (bif Nat.blt m 93 then (24) else (bif Nat.blt m 94 then (24) else (81)))))) else (bif Nat.blt m 104 then (bif Nat.blt m 99 then (bif Nat.blt m 97 then (bif Nat.blt m 96 then (14) else (29)) else (bif Nat.blt m 98 then (24) else (61))) else (bif Nat.blt m 101 then (bif Nat.blt m 100 then (63) else (17)) else (bif Nat.blt m 102 then (73) else (bif Nat.blt m 103 then (98) else (196))))) else (bif Nat.blt m 109 then (bif Nat.blt m 106 then (bif Nat.blt m 105 then (173) else (118)) else (bif Nat.blt m 107 then (30) else (bif Nat.blt m 108 then (44) else (72)))) else (bif Nat.blt m 111 then (bif Nat.blt m 110 then (48) else (40)) else (bif Nat.blt m 112 then (48) else (bif Nat.blt m 113 then (43) else (32))))))) else (bif Nat.blt m 133 then (bif Nat.blt m 123 then (bif Nat.blt m 118 then (bif Nat.blt m 116 then (bif Nat.blt m 115 then (38) else (157)) else (bif Nat.blt m 117 then (32) else (35))) else (bif Nat.blt m 120 then (bif Nat.blt m 119 then (28) else (29)) else (bif Nat.blt m 121 then (167) else (bif Nat.blt m 122 then (42) else (57))))) else (bif Nat.blt m 128 then (bif Nat.blt m 125 then (bif Nat.blt m 124 then (10) else (15)) else (bif Nat.blt m 126 then (34) else (bif Nat.blt m 127 then (10) else (137)))) else (bif Nat.blt m 130 then (bif Nat.blt m 129 then (10) else (40)) else (bif Nat.blt m 131 then (10) else (bif Nat.blt m 132 then (53) else (15)))))) else (bif Nat.blt m 142 then (bif Nat.blt m 137 then (bif Nat.blt m 135 then (bif Nat.blt m 134 then (269) else (53)) else (bif Nat.blt m 136 then (29) else (20))) else (bif Nat.blt m 139 then (bif Nat.blt m 138 then (20) else (17)) else (bif Nat.blt m 140 then (19) else (bif Nat.blt m 141 then (20) else (23))))) else (bif Nat.blt m 147 then (bif Nat.blt m 144 then (bif Nat.blt m 143 then (20) else (16)) else (bif Nat.blt m 145 then (16) else (bif Nat.blt m 146 then (19) else (19)))) else (bif Nat.blt m 149 then (bif Nat.blt m 148 then (17) else (17)) else (bif Nat.blt m 150 then (17) else (bif Nat.blt m 151 then (19) else (1273))))))))
def z_ins (m pc : Nat) : Option (Instr × Nat × Int32) := bif Nat.blt m 152 && Nat.blt pc (z_len m) then (bif Nat.blt m 76 then (bif Nat.blt m 38 then (bif Nat.blt m 19 then (bif Nat.blt m 9 then (bif Nat.blt m 4 then (bif Nat.blt m 2 then (bif Nat.blt m 1 then (z_c0 pc) else (z_c1 pc)) else (bif Nat.blt m 3 then (z_c2 pc) else (z_c3 pc))) else (bif Nat.blt m 6 then (bif Nat.blt m 5 then (z_c4 pc) else (z_c5 pc)) else (bif Nat.blt m 7 then (z_c6 pc) else (bif Nat.blt m 8 then (z_c7 pc) else (z_c8 pc))))) else (bif Nat.blt m 14 then (bif Nat.blt m 11 then (bif Nat.blt m 10 then (z_c9 pc) else (z_c10 pc)) else (bif Nat.blt m 12 then (z_c11 pc) else (bif Nat.blt m 13 then (z_c12 pc) else (z_c13 pc)))) else (bif Nat.blt m 16 then (bif Nat.blt m 15 then (z_c14 pc) else (z_c15 pc)) else (bif Nat.blt m 17 then (z_c16 pc) else (bif Nat.blt m 18 then (z_c17 pc) else (z_c18 pc)))))) else (bif Nat.blt m 28 then (bif Nat.blt m 23 then (bif Nat.blt m 21 then (bif Nat.blt m 20 then (z_c19 pc) else (z_c20 pc)) else (bif Nat.blt m 22 then (z_c21 pc) else (z_c22 pc))) else (bif Nat.blt m 25 then (bif Nat.blt m 24 then (z_c23 pc) else (z_c24 pc)) else (bif Nat.blt m 26 then (z_c25 pc) else (bif Nat.blt m 27 then (z_c26 pc) else (z_c27 pc))))) else (bif Nat.blt m 33 then (bif Nat.blt m 30 then (bif Nat.blt m 29 then (z_c28 pc) else (z_c29 pc)) else (bif Nat.blt m 31 then (z_c30 pc) else (bif Nat.blt m 32 then (z_c31 pc) else (z_c32 pc)))) else (bif Nat.blt m 35 then (bif Nat.blt m 34 then (z_c33 pc) else (z_c34 pc)) else (bif Nat.blt m 36 then (z_c35 pc) else (bif Nat.blt m 37 then (z_c36 pc) else (z_c37 pc))))))) else (bif Nat.blt m 57 then (bif Nat.blt m 47 then (bif Nat.blt m 42 then (bif Nat.blt m 40 then (bif Nat.blt m 39 then (z_c38 pc) else (z_c39 pc)) else (bif Nat.blt m 41 then (z_c40 pc) else (z_c41 pc))) else (bif Nat.blt m 44 then (bif Nat.blt m 43 then (z_c42 pc) else (z_c43 pc)) else (bif Nat.blt m 45 then (z_c44 pc) else (bif Nat.blt m 46 then (z_c45 pc) else (z_c46 pc))))) else (bif Nat.blt m 52 then (bif Nat.blt m 49 then (bif Nat.blt m 48 then (z_c47 pc) else (z_c48 pc)) else (bif Nat.blt m 50 then (z_c49 pc) else (bif Nat.blt m 51 then (z_c50 pc) else (z_c51 pc)))) else (bif Nat.blt m 54 then (bif Nat.blt m 53 then (z_c52 pc) else (z_c53 pc)) else (bif Nat.blt m 55 then (z_c54 pc) else (bif Nat.blt m 56 then (z_c55 pc) else (z_c56 pc)))))) else (bif Nat.blt m 66 then (bif Nat.blt m 61 then (bif Nat.blt m 59 then (bif Nat.blt m 58 then (z_c57 pc) else (z_c58 pc)) else (bif Nat.blt m 60 then (z_c59 pc) else (z_c60 pc))) else (bif Nat.blt m 63 then (bif Nat.blt m 62 then (z_c61 pc) else (z_c62 pc)) else (bif Nat.blt m 64 then (z_c63 pc) else (bif Nat.blt m 65 then (z_c64 pc) else (z_c65 pc))))) else (bif Nat.blt m 71 then (bif Nat.blt m 68 then (bif Nat.blt m 67 then (z_c66 pc) else (z_c67 pc)) else (bif Nat.blt m 69 then (z_c68 pc) else (bif Nat.blt m 70 then (z_c69 pc) else (z_c70 pc)))) else (bif Nat.blt m 73 then (bif Nat.blt m 72 then (z_c71 pc) else (z_c72 pc)) else (bif Nat.blt m 74 then (z_c73 pc) else (bif Nat.blt m 75 then (z_c74 pc) else (z_c75 pc)))))))) else (bif Nat.blt m 114 then (bif Nat.blt m 95 then (bif Nat.blt m 85 then (bif Nat.blt m 80 then (bif Nat.blt m 78 then (bif Nat.blt m 77 then (z_c76 pc) else (z_c77 pc)) else (bif Nat.blt m 79 then (z_c78 pc) else (z_c79 pc))) else (bif Nat.blt m 82 then (bif Nat.blt m 81 then (z_c80 pc) else (z_c81 pc)) else (bif Nat.blt m 83 then (z_c82 pc) else (bif Nat.blt m 84 then (z_c83 pc) else (z_c84 pc))))) else (bif Nat.blt m 90 then (bif Nat.blt m 87 then (bif Nat.blt m 86 then (z_c85 pc) else (z_c86 pc)) else (bif Nat.blt m 88 then (z_c87 pc) else (bif Nat.blt m 89 then (z_c88 pc) else (z_c89 pc)))) else (bif Nat.blt m 92 then (bif Nat.blt m 91 then (z_c90 pc) else (z_c91 pc)) else (bif Nat.blt m 93 then (z_c92 pc) else (bif Nat.blt m 94 then (z_c93 pc) else (z_c94 pc)))))) else (bif Nat.blt m 104 then (bif Nat.blt m 99 then (bif Nat.blt m 97 then (bif Nat.blt m 96 then (z_c95 pc) else (z_c96 pc)) else (bif Nat.blt m 98 then (z_c97 pc) else (z_c98 pc))) else (bif Nat.blt m 101 then (bif Nat.blt m 100 then (z_c99 pc) else (z_c100 pc)) else (bif Nat.blt m 102 then (z_c101 pc) else (bif Nat.blt m 103 then (z_c102 pc) else (z_c103 pc))))) else (bif Nat.blt m 109 then (bif Nat.blt m 106 then (bif Nat.blt m 105 then (z_c104 pc) else (z_c105 pc)) else (bif Nat.blt m 107 then (z_c106 pc) else (bif Nat.blt m 108 then (z_c107 pc) else (z_c108 pc)))) else (bif Nat.blt m 111 then (bif Nat.blt m 110 then (z_c109 pc) else (z_c110 pc)) else (bif Nat.blt m 112 then (z_c111 pc) else (bif Nat.blt m 113 then (z_c112 pc) else (z_c113 pc))))))) else (bif Nat.blt m 133 then (bif Nat.blt m 123 then (bif Nat.blt m 118 then (bif Nat.blt m 116 then (bif Nat.blt m 115 then (z_c114 pc) else (z_c115 pc)) else (bif Nat.blt m 117 then (z_c116 pc) else (z_c117 pc))) else (bif Nat.blt m 120 then (bif Nat.blt m 119 then (z_c118 pc) else (z_c119 pc)) else (bif Nat.blt m 121 then (z_c120 pc) else (bif Nat.blt m 122 then (z_c121 pc) else (z_c122 pc))))) else (bif Nat.blt m 128 then (bif Nat.blt m 125 then (bif Nat.blt m 124 then (z_c123 pc) else (z_c124 pc)) else (bif Nat.blt m 126 then (z_c125 pc) else (bif Nat.blt m 127 then (z_c126 pc) else (z_c127 pc)))) else (bif Nat.blt m 130 then (bif Nat.blt m 129 then (z_c128 pc) else (z_c129 pc)) else (bif Nat.blt m 131 then (z_c130 pc) else (bif Nat.blt m 132 then (z_c131 pc) else (z_c132 pc)))))) else (bif Nat.blt m 142 then (bif Nat.blt m 137 then (bif Nat.blt m 135 then (bif Nat.blt m 134 then (z_c133 pc) else (z_c134 pc)) else (bif Nat.blt m 136 then (z_c135 pc) else (z_c136 pc))) else (bif Nat.blt m 139 then (bif Nat.blt m 138 then (z_c137 pc) else (z_c138 pc)) else (bif Nat.blt m 140 then (z_c139 pc) else (bif Nat.blt m 141 then (z_c140 pc) else (z_c141 pc))))) else (bif Nat.blt m 147 then (bif Nat.blt m 144 then (bif Nat.blt m 143 then (z_c142 pc) else (z_c143 pc)) else (bif Nat.blt m 145 then (z_c144 pc) else (bif Nat.blt m 146 then (z_c145 pc) else (z_c146 pc)))) else (bif Nat.blt m 149 then (bif Nat.blt m 148 then (z_c147 pc) else (z_c148 pc)) else (bif Nat.blt m 150 then (z_c149 pc) else (bif Nat.blt m 151 then (z_c150 pc) else (z_c151 pc))))))))) else none
def z_own (m : Nat) : Nat := bif Nat.blt m 76 then (bif Nat.blt m 38 then (bif Nat.blt m 19 then (bif Nat.blt m 9 then (bif Nat.blt m 4 then (bif Nat.blt m 2 then (bif Nat.blt m 1 then (0) else (0)) else (bif Nat.blt m 3 then (0) else (0))) else (bif Nat.blt m 6 then (bif Nat.blt m 5 then (0) else (0)) else (bif Nat.blt m 7 then (0) else (bif Nat.blt m 8 then (0) else (0))))) else (bif Nat.blt m 14 then (bif Nat.blt m 11 then (bif Nat.blt m 10 then (0) else (0)) else (bif Nat.blt m 12 then (1) else (bif Nat.blt m 13 then (1) else (1)))) else (bif Nat.blt m 16 then (bif Nat.blt m 15 then (1) else (1)) else (bif Nat.blt m 17 then (1) else (bif Nat.blt m 18 then (1) else (1)))))) else (bif Nat.blt m 28 then (bif Nat.blt m 23 then (bif Nat.blt m 21 then (bif Nat.blt m 20 then (1) else (2)) else (bif Nat.blt m 22 then (2) else (2))) else (bif Nat.blt m 25 then (bif Nat.blt m 24 then (2) else (2)) else (bif Nat.blt m 26 then (2) else (bif Nat.blt m 27 then (2) else (3))))) else (bif Nat.blt m 33 then (bif Nat.blt m 30 then (bif Nat.blt m 29 then (3) else (4)) else (bif Nat.blt m 31 then (4) else (bif Nat.blt m 32 then (4) else (4)))) else (bif Nat.blt m 35 then (bif Nat.blt m 34 then (4) else (4)) else (bif Nat.blt m 36 then (4) else (bif Nat.blt m 37 then (4) else (4))))))) else (bif Nat.blt m 57 then (bif Nat.blt m 47 then (bif Nat.blt m 42 then (bif Nat.blt m 40 then (bif Nat.blt m 39 then (4) else (4)) else (bif Nat.blt m 41 then (4) else (4))) else (bif Nat.blt m 44 then (bif Nat.blt m 43 then (4) else (4)) else (bif Nat.blt m 45 then (4) else (bif Nat.blt m 46 then (4) else (4))))) else (bif Nat.blt m 52 then (bif Nat.blt m 49 then (bif Nat.blt m 48 then (4) else (4)) else (bif Nat.blt m 50 then (4) else (bif Nat.blt m 51 then (4) else (4)))) else (bif Nat.blt m 54 then (bif Nat.blt m 53 then (4) else (4)) else (bif Nat.blt m 55 then (4) else (bif Nat.blt m 56 then (4) else (4)))))) else (bif Nat.blt m 66 then (bif Nat.blt m 61 then (bif Nat.blt m 59 then (bif Nat.blt m 58 then (4) else (4)) else (bif Nat.blt m 60 then (4) else (4))) else (bif Nat.blt m 63 then (bif Nat.blt m 62 then (4) else (4)) else (bif Nat.blt m 64 then (4) else (bif Nat.blt m 65 then (4) else (4))))) else (bif Nat.blt m 71 then (bif Nat.blt m 68 then (bif Nat.blt m 67 then (5) else (5)) else (bif Nat.blt m 69 then (5) else (bif Nat.blt m 70 then (5) else (5)))) else (bif Nat.blt m 73 then (bif Nat.blt m 72 then (5) else (5)) else (bif Nat.blt m 74 then (5) else (bif Nat.blt m 75 then (5) else (5)))))))) else (bif Nat.blt m 114 then (bif Nat.blt m 95 then (bif Nat.blt m 85 then (bif Nat.blt m 80 then (bif Nat.blt m 78 then (bif Nat.blt m 77 then (5) else (5)) else (bif Nat.blt m 79 then (5) else (5))) else (bif Nat.blt m 82 then (bif Nat.blt m 81 then (5) else (5)) else (bif Nat.blt m 83 then (5) else (bif Nat.blt m 84 then (5) else (5))))) else (bif Nat.blt m 90 then (bif Nat.blt m 87 then (bif Nat.blt m 86 then (5) else (5)) else (bif Nat.blt m 88 then (5) else (bif Nat.blt m 89 then (5) else (5)))) else (bif Nat.blt m 92 then (bif Nat.blt m 91 then (5) else (5)) else (bif Nat.blt m 93 then (5) else (bif Nat.blt m 94 then (5) else (5)))))) else (bif Nat.blt m 104 then (bif Nat.blt m 99 then (bif Nat.blt m 97 then (bif Nat.blt m 96 then (5) else (5)) else (bif Nat.blt m 98 then (5) else (5))) else (bif Nat.blt m 101 then (bif Nat.blt m 100 then (5) else (5)) else (bif Nat.blt m 102 then (5) else (bif Nat.blt m 103 then (5) else (5))))) else (bif Nat.blt m 109 then (bif Nat.blt m 106 then (bif Nat.blt m 105 then (5) else (5)) else (bif Nat.blt m 107 then (5) else (bif Nat.blt m 108 then (5) else (5)))) else (bif Nat.blt m 111 then (bif Nat.blt m 110 then (5) else (5)) else (bif Nat.blt m 112 then (5) else (bif Nat.blt m 113 then (5) else (5))))))) else (bif Nat.blt m 133 then (bif Nat.blt m 123 then (bif Nat.blt m 118 then (bif Nat.blt m 116 then (bif Nat.blt m 115 then (5) else (5)) else (bif Nat.blt m 117 then (5) else (5))) else (bif Nat.blt m 120 then (bif Nat.blt m 119 then (5) else (5)) else (bif Nat.blt m 121 then (5) else (bif Nat.blt m 122 then (5) else (5))))) else (bif Nat.blt m 128 then (bif Nat.blt m 125 then (bif Nat.blt m 124 then (5) else (5)) else (bif Nat.blt m 126 then (5) else (bif Nat.blt m 127 then (5) else (5)))) else (bif Nat.blt m 130 then (bif Nat.blt m 129 then (5) else (5)) else (bif Nat.blt m 131 then (5) else (bif Nat.blt m 132 then (5) else (5)))))) else (bif Nat.blt m 142 then (bif Nat.blt m 137 then (bif Nat.blt m 135 then (bif Nat.blt m 134 then (5) else (6)) else (bif Nat.blt m 136 then (8) else (8))) else (bif Nat.blt m 139 then (bif Nat.blt m 138 then (8) else (8)) else (bif Nat.blt m 140 then (8) else (bif Nat.blt m 141 then (8) else (8))))) else (bif Nat.blt m 147 then (bif Nat.blt m 144 then (bif Nat.blt m 143 then (8) else (8)) else (bif Nat.blt m 145 then (8) else (bif Nat.blt m 146 then (8) else (8)))) else (bif Nat.blt m 149 then (bif Nat.blt m 148 then (8) else (8)) else (bif Nat.blt m 150 then (8) else (bif Nat.blt m 151 then (8) else (8))))))))
def z_ml (m : Nat) : Nat := bif Nat.blt m 76 then (bif Nat.blt m 38 then (bif Nat.blt m 19 then (bif Nat.blt m 9 then (bif Nat.blt m 4 then (bif Nat.blt m 2 then (bif Nat.blt m 1 then (2) else (2)) else (bif Nat.blt m 3 then (3) else (2))) else (bif Nat.blt m 6 then (bif Nat.blt m 5 then (4) else (2)) else (bif Nat.blt m 7 then (2) else (bif Nat.blt m 8 then (3) else (4))))) else (bif Nat.blt m 14 then (bif Nat.blt m 11 then (bif Nat.blt m 10 then (3) else (5)) else (bif Nat.blt m 12 then (3) else (bif Nat.blt m 13 then (1) else (2)))) else (bif Nat.blt m 16 then (bif Nat.blt m 15 then (2) else (4)) else (bif Nat.blt m 17 then (4) else (bif Nat.blt m 18 then (1) else (3)))))) else (bif Nat.blt m 28 then (bif Nat.blt m 23 then (bif Nat.blt m 21 then (bif Nat.blt m 20 then (3) else (4)) else (bif Nat.blt m 22 then (1) else (3))) else (bif Nat.blt m 25 then (bif Nat.blt m 24 then (2) else (3)) else (bif Nat.blt m 26 then (6) else (bif Nat.blt m 27 then (6) else (8))))) else (bif Nat.blt m 33 then (bif Nat.blt m 30 then (bif Nat.blt m 29 then (9) else (7)) else (bif Nat.blt m 31 then (2) else (bif Nat.blt m 32 then (2) else (3)))) else (bif Nat.blt m 35 then (bif Nat.blt m 34 then (1) else (4)) else (bif Nat.blt m 36 then (3) else (bif Nat.blt m 37 then (5) else (2))))))) else (bif Nat.blt m 57 then (bif Nat.blt m 47 then (bif Nat.blt m 42 then (bif Nat.blt m 40 then (bif Nat.blt m 39 then (2) else (1)) else (bif Nat.blt m 41 then (2) else (1))) else (bif Nat.blt m 44 then (bif Nat.blt m 43 then (4) else (3)) else (bif Nat.blt m 45 then (2) else (bif Nat.blt m 46 then (2) else (3))))) else (bif Nat.blt m 52 then (bif Nat.blt m 49 then (bif Nat.blt m 48 then (9) else (2)) else (bif Nat.blt m 50 then (2) else (bif Nat.blt m 51 then (8) else (1)))) else (bif Nat.blt m 54 then (bif Nat.blt m 53 then (5) else (4)) else (bif Nat.blt m 55 then (1) else (bif Nat.blt m 56 then (1) else (3)))))) else (bif Nat.blt m 66 then (bif Nat.blt m 61 then (bif Nat.blt m 59 then (bif Nat.blt m 58 then (4) else (1)) else (bif Nat.blt m 60 then (1) else (1))) else (bif Nat.blt m 63 then (bif Nat.blt m 62 then (3) else (1)) else (bif Nat.blt m 64 then (1) else (bif Nat.blt m 65 then (1) else (6))))) else (bif Nat.blt m 71 then (bif Nat.blt m 68 then (bif Nat.blt m 67 then (1) else (3)) else (bif Nat.blt m 69 then (2) else (bif Nat.blt m 70 then (1) else (2)))) else (bif Nat.blt m 73 then (bif Nat.blt m 72 then (2) else (2)) else (bif Nat.blt m 74 then (3) else (bif Nat.blt m 75 then (2) else (2)))))))) else (bif Nat.blt m 114 then (bif Nat.blt m 95 then (bif Nat.blt m 85 then (bif Nat.blt m 80 then (bif Nat.blt m 78 then (bif Nat.blt m 77 then (5) else (8)) else (bif Nat.blt m 79 then (1) else (1))) else (bif Nat.blt m 82 then (bif Nat.blt m 81 then (1) else (4)) else (bif Nat.blt m 83 then (2) else (bif Nat.blt m 84 then (2) else (2))))) else (bif Nat.blt m 90 then (bif Nat.blt m 87 then (bif Nat.blt m 86 then (2) else (1)) else (bif Nat.blt m 88 then (2) else (bif Nat.blt m 89 then (4) else (3)))) else (bif Nat.blt m 92 then (bif Nat.blt m 91 then (4) else (7)) else (bif Nat.blt m 93 then (2) else (bif Nat.blt m 94 then (2) else (2)))))) else (bif Nat.blt m 104 then (bif Nat.blt m 99 then (bif Nat.blt m 97 then (bif Nat.blt m 96 then (1) else (3)) else (bif Nat.blt m 98 then (2) else (3))) else (bif Nat.blt m 101 then (bif Nat.blt m 100 then (2) else (2)) else (bif Nat.blt m 102 then (4) else (bif Nat.blt m 103 then (4) else (3))))) else (bif Nat.blt m 109 then (bif Nat.blt m 106 then (bif Nat.blt m 105 then (4) else (6)) else (bif Nat.blt m 107 then (2) else (bif Nat.blt m 108 then (3) else (2)))) else (bif Nat.blt m 111 then (bif Nat.blt m 110 then (3) else (3)) else (bif Nat.blt m 112 then (3) else (bif Nat.blt m 113 then (3) else (1))))))) else (bif Nat.blt m 133 then (bif Nat.blt m 123 then (bif Nat.blt m 118 then (bif Nat.blt m 116 then (bif Nat.blt m 115 then (3) else (2)) else (bif Nat.blt m 117 then (2) else (2))) else (bif Nat.blt m 120 then (bif Nat.blt m 119 then (2) else (2)) else (bif Nat.blt m 121 then (8) else (bif Nat.blt m 122 then (3) else (3))))) else (bif Nat.blt m 128 then (bif Nat.blt m 125 then (bif Nat.blt m 124 then (1) else (1)) else (bif Nat.blt m 126 then (4) else (bif Nat.blt m 127 then (1) else (9)))) else (bif Nat.blt m 130 then (bif Nat.blt m 129 then (1) else (1)) else (bif Nat.blt m 131 then (1) else (bif Nat.blt m 132 then (6) else (3)))))) else (bif Nat.blt m 142 then (bif Nat.blt m 137 then (bif Nat.blt m 135 then (bif Nat.blt m 134 then (3) else (1)) else (bif Nat.blt m 136 then (8) else (4))) else (bif Nat.blt m 139 then (bif Nat.blt m 138 then (4) else (4)) else (bif Nat.blt m 140 then (5) else (bif Nat.blt m 141 then (4) else (5))))) else (bif Nat.blt m 147 then (bif Nat.blt m 144 then (bif Nat.blt m 143 then (4) else (3)) else (bif Nat.blt m 145 then (3) else (bif Nat.blt m 146 then (5) else (5)))) else (bif Nat.blt m 149 then (bif Nat.blt m 148 then (4) else (4)) else (bif Nat.blt m 150 then (4) else (bif Nat.blt m 151 then (5) else (9))))))))
def z_rt (m : Nat) : Nat := bif Nat.blt m 76 then (bif Nat.blt m 38 then (bif Nat.blt m 19 then (bif Nat.blt m 9 then (bif Nat.blt m 4 then (bif Nat.blt m 2 then (bif Nat.blt m 1 then (0) else (0)) else (bif Nat.blt m 3 then (0) else (2))) else (bif Nat.blt m 6 then (bif Nat.blt m 5 then (1) else (1)) else (bif Nat.blt m 7 then (0) else (bif Nat.blt m 8 then (0) else (1))))) else (bif Nat.blt m 14 then (bif Nat.blt m 11 then (bif Nat.blt m 10 then (1) else (1)) else (bif Nat.blt m 12 then (0) else (bif Nat.blt m 13 then (1) else (2)))) else (bif Nat.blt m 16 then (bif Nat.blt m 15 then (1) else (0)) else (bif Nat.blt m 17 then (0) else (bif Nat.blt m 18 then (0) else (1)))))) else (bif Nat.blt m 28 then (bif Nat.blt m 23 then (bif Nat.blt m 21 then (bif Nat.blt m 20 then (1) else (1)) else (bif Nat.blt m 22 then (2) else (2))) else (bif Nat.blt m 25 then (bif Nat.blt m 24 then (2) else (2)) else (bif Nat.blt m 26 then (2) else (bif Nat.blt m 27 then (2) else (0))))) else (bif Nat.blt m 33 then (bif Nat.blt m 30 then (bif Nat.blt m 29 then (1) else (1)) else (bif Nat.blt m 31 then (1) else (bif Nat.blt m 32 then (1) else (1)))) else (bif Nat.blt m 35 then (bif Nat.blt m 34 then (1) else (1)) else (bif Nat.blt m 36 then (1) else (bif Nat.blt m 37 then (1) else (1))))))) else (bif Nat.blt m 57 then (bif Nat.blt m 47 then (bif Nat.blt m 42 then (bif Nat.blt m 40 then (bif Nat.blt m 39 then (1) else (1)) else (bif Nat.blt m 41 then (1) else (1))) else (bif Nat.blt m 44 then (bif Nat.blt m 43 then (1) else (1)) else (bif Nat.blt m 45 then (1) else (bif Nat.blt m 46 then (1) else (1))))) else (bif Nat.blt m 52 then (bif Nat.blt m 49 then (bif Nat.blt m 48 then (1) else (1)) else (bif Nat.blt m 50 then (1) else (bif Nat.blt m 51 then (1) else (4)))) else (bif Nat.blt m 54 then (bif Nat.blt m 53 then (3) else (3)) else (bif Nat.blt m 55 then (0) else (bif Nat.blt m 56 then (0) else (2)))))) else (bif Nat.blt m 66 then (bif Nat.blt m 61 then (bif Nat.blt m 59 then (bif Nat.blt m 58 then (0) else (0)) else (bif Nat.blt m 60 then (0) else (0))) else (bif Nat.blt m 63 then (bif Nat.blt m 62 then (2) else (2)) else (bif Nat.blt m 64 then (2) else (bif Nat.blt m 65 then (1) else (3))))) else (bif Nat.blt m 71 then (bif Nat.blt m 68 then (bif Nat.blt m 67 then (1) else (2)) else (bif Nat.blt m 69 then (2) else (bif Nat.blt m 70 then (2) else (0)))) else (bif Nat.blt m 73 then (bif Nat.blt m 72 then (0) else (0)) else (bif Nat.blt m 74 then (1) else (bif Nat.blt m 75 then (2) else (1)))))))) else (bif Nat.blt m 114 then (bif Nat.blt m 95 then (bif Nat.blt m 85 then (bif Nat.blt m 80 then (bif Nat.blt m 78 then (bif Nat.blt m 77 then (1) else (0)) else (bif Nat.blt m 79 then (1) else (0))) else (bif Nat.blt m 82 then (bif Nat.blt m 81 then (1) else (0)) else (bif Nat.blt m 83 then (1) else (bif Nat.blt m 84 then (1) else (1))))) else (bif Nat.blt m 90 then (bif Nat.blt m 87 then (bif Nat.blt m 86 then (1) else (1)) else (bif Nat.blt m 88 then (1) else (bif Nat.blt m 89 then (1) else (1)))) else (bif Nat.blt m 92 then (bif Nat.blt m 91 then (1) else (1)) else (bif Nat.blt m 93 then (1) else (bif Nat.blt m 94 then (1) else (1)))))) else (bif Nat.blt m 104 then (bif Nat.blt m 99 then (bif Nat.blt m 97 then (bif Nat.blt m 96 then (1) else (1)) else (bif Nat.blt m 98 then (1) else (1))) else (bif Nat.blt m 101 then (bif Nat.blt m 100 then (1) else (1)) else (bif Nat.blt m 102 then (1) else (bif Nat.blt m 103 then (1) else (0))))) else (bif Nat.blt m 109 then (bif Nat.blt m 106 then (bif Nat.blt m 105 then (2) else (1)) else (bif Nat.blt m 107 then (1) else (bif Nat.blt m 108 then (1) else (1)))) else (bif Nat.blt m 111 then (bif Nat.blt m 110 then (1) else (1)) else (bif Nat.blt m 112 then (1) else (bif Nat.blt m 113 then (1) else (1))))))) else (bif Nat.blt m 133 then (bif Nat.blt m 123 then (bif Nat.blt m 118 then (bif Nat.blt m 116 then (bif Nat.blt m 115 then (1) else (1)) else (bif Nat.blt m 117 then (1) else (1))) else (bif Nat.blt m 120 then (bif Nat.blt m 119 then (1) else (1)) else (bif Nat.blt m 121 then (1) else (bif Nat.blt m 122 then (1) else (1))))) else (bif Nat.blt m 128 then (bif Nat.blt m 125 then (bif Nat.blt m 124 then (1) else (1)) else (bif Nat.blt m 126 then (1) else (bif Nat.blt m 127 then (1) else (1)))) else (bif Nat.blt m 130 then (bif Nat.blt m 129 then (1) else (4)) else (bif Nat.blt m 131 then (4) else (bif Nat.blt m 132 then (3) else (0)))))) else (bif Nat.blt m 142 then (bif Nat.blt m 137 then (bif Nat.blt m 135 then (bif Nat.blt m 134 then (3) else (1)) else (bif Nat.blt m 136 then (1) else (1))) else (bif Nat.blt m 139 then (bif Nat.blt m 138 then (1) else (1)) else (bif Nat.blt m 140 then (1) else (bif Nat.blt m 141 then (1) else (1))))) else (bif Nat.blt m 147 then (bif Nat.blt m 144 then (bif Nat.blt m 143 then (1) else (1)) else (bif Nat.blt m 145 then (1) else (bif Nat.blt m 146 then (1) else (1)))) else (bif Nat.blt m 149 then (bif Nat.blt m 148 then (1) else (1)) else (bif Nat.blt m 150 then (1) else (bif Nat.blt m 151 then (1) else (2))))))))
def z_na (m : Nat) : Nat := bif Nat.blt m 76 then (bif Nat.blt m 38 then (bif Nat.blt m 19 then (bif Nat.blt m 9 then (bif Nat.blt m 4 then (bif Nat.blt m 2 then (bif Nat.blt m 1 then (2) else (2)) else (bif Nat.blt m 3 then (3) else (2))) else (bif Nat.blt m 6 then (bif Nat.blt m 5 then (2) else (2)) else (bif Nat.blt m 7 then (1) else (bif Nat.blt m 8 then (2) else (2))))) else (bif Nat.blt m 14 then (bif Nat.blt m 11 then (bif Nat.blt m 10 then (1) else (2)) else (bif Nat.blt m 12 then (2) else (bif Nat.blt m 13 then (1) else (2)))) else (bif Nat.blt m 16 then (bif Nat.blt m 15 then (2) else (3)) else (bif Nat.blt m 17 then (2) else (bif Nat.blt m 18 then (1) else (1)))))) else (bif Nat.blt m 28 then (bif Nat.blt m 23 then (bif Nat.blt m 21 then (bif Nat.blt m 20 then (1) else (3)) else (bif Nat.blt m 22 then (1) else (2))) else (bif Nat.blt m 25 then (bif Nat.blt m 24 then (2) else (3)) else (bif Nat.blt m 26 then (6) else (bif Nat.blt m 27 then (5) else (4))))) else (bif Nat.blt m 33 then (bif Nat.blt m 30 then (bif Nat.blt m 29 then (4) else (6)) else (bif Nat.blt m 31 then (2) else (bif Nat.blt m 32 then (2) else (2)))) else (bif Nat.blt m 35 then (bif Nat.blt m 34 then (1) else (3)) else (bif Nat.blt m 36 then (2) else (bif Nat.blt m 37 then (3) else (2))))))) else (bif Nat.blt m 57 then (bif Nat.blt m 47 then (bif Nat.blt m 42 then (bif Nat.blt m 40 then (bif Nat.blt m 39 then (1) else (1)) else (bif Nat.blt m 41 then (1) else (1))) else (bif Nat.blt m 44 then (bif Nat.blt m 43 then (3) else (3)) else (bif Nat.blt m 45 then (2) else (bif Nat.blt m 46 then (2) else (2))))) else (bif Nat.blt m 52 then (bif Nat.blt m 49 then (bif Nat.blt m 48 then (3) else (1)) else (bif Nat.blt m 50 then (1) else (bif Nat.blt m 51 then (1) else (1)))) else (bif Nat.blt m 54 then (bif Nat.blt m 53 then (1) else (3)) else (bif Nat.blt m 55 then (1) else (bif Nat.blt m 56 then (1) else (3)))))) else (bif Nat.blt m 66 then (bif Nat.blt m 61 then (bif Nat.blt m 59 then (bif Nat.blt m 58 then (4) else (1)) else (bif Nat.blt m 60 then (1) else (1))) else (bif Nat.blt m 63 then (bif Nat.blt m 62 then (3) else (1)) else (bif Nat.blt m 64 then (1) else (bif Nat.blt m 65 then (1) else (1))))) else (bif Nat.blt m 71 then (bif Nat.blt m 68 then (bif Nat.blt m 67 then (1) else (3)) else (bif Nat.blt m 69 then (2) else (bif Nat.blt m 70 then (1) else (1)))) else (bif Nat.blt m 73 then (bif Nat.blt m 72 then (1) else (1)) else (bif Nat.blt m 74 then (1) else (bif Nat.blt m 75 then (2) else (2)))))))) else (bif Nat.blt m 114 then (bif Nat.blt m 95 then (bif Nat.blt m 85 then (bif Nat.blt m 80 then (bif Nat.blt m 78 then (bif Nat.blt m 77 then (2) else (3)) else (bif Nat.blt m 79 then (1) else (1))) else (bif Nat.blt m 82 then (bif Nat.blt m 81 then (1) else (1)) else (bif Nat.blt m 83 then (2) else (bif Nat.blt m 84 then (2) else (2))))) else (bif Nat.blt m 90 then (bif Nat.blt m 87 then (bif Nat.blt m 86 then (2) else (1)) else (bif Nat.blt m 88 then (2) else (bif Nat.blt m 89 then (2) else (3)))) else (bif Nat.blt m 92 then (bif Nat.blt m 91 then (3) else (6)) else (bif Nat.blt m 93 then (2) else (bif Nat.blt m 94 then (2) else (2)))))) else (bif Nat.blt m 104 then (bif Nat.blt m 99 then (bif Nat.blt m 97 then (bif Nat.blt m 96 then (1) else (3)) else (bif Nat.blt m 98 then (2) else (3))) else (bif Nat.blt m 101 then (bif Nat.blt m 100 then (2) else (1)) else (bif Nat.blt m 102 then (3) else (bif Nat.blt m 103 then (3) else (1))))) else (bif Nat.blt m 109 then (bif Nat.blt m 106 then (bif Nat.blt m 105 then (1) else (2)) else (bif Nat.blt m 107 then (1) else (bif Nat.blt m 108 then (1) else (1)))) else (bif Nat.blt m 111 then (bif Nat.blt m 110 then (3) else (3)) else (bif Nat.blt m 112 then (3) else (bif Nat.blt m 113 then (3) else (1))))))) else (bif Nat.blt m 133 then (bif Nat.blt m 123 then (bif Nat.blt m 118 then (bif Nat.blt m 116 then (bif Nat.blt m 115 then (1) else (2)) else (bif Nat.blt m 117 then (2) else (2))) else (bif Nat.blt m 120 then (bif Nat.blt m 119 then (2) else (2)) else (bif Nat.blt m 121 then (3) else (bif Nat.blt m 122 then (3) else (1))))) else (bif Nat.blt m 128 then (bif Nat.blt m 125 then (bif Nat.blt m 124 then (1) else (1)) else (bif Nat.blt m 126 then (1) else (bif Nat.blt m 127 then (1) else (1)))) else (bif Nat.blt m 130 then (bif Nat.blt m 129 then (1) else (1)) else (bif Nat.blt m 131 then (1) else (bif Nat.blt m 132 then (1) else (2)))))) else (bif Nat.blt m 142 then (bif Nat.blt m 137 then (bif Nat.blt m 135 then (bif Nat.blt m 134 then (1) else (1)) else (bif Nat.blt m 136 then (7) else (3))) else (bif Nat.blt m 139 then (bif Nat.blt m 138 then (3) else (3)) else (bif Nat.blt m 140 then (4) else (bif Nat.blt m 141 then (3) else (4))))) else (bif Nat.blt m 147 then (bif Nat.blt m 144 then (bif Nat.blt m 143 then (3) else (2)) else (bif Nat.blt m 145 then (2) else (bif Nat.blt m 146 then (4) else (4)))) else (bif Nat.blt m 149 then (bif Nat.blt m 148 then (3) else (3)) else (bif Nat.blt m 150 then (3) else (bif Nat.blt m 151 then (4) else (1))))))))
def z_stc (m : Nat) : Bool := bif Nat.blt m 76 then (bif Nat.blt m 38 then (bif Nat.blt m 19 then (bif Nat.blt m 9 then (bif Nat.blt m 4 then (bif Nat.blt m 2 then (bif Nat.blt m 1 then (false) else (false)) else (bif Nat.blt m 3 then (false) else (false))) else (bif Nat.blt m 6 then (bif Nat.blt m 5 then (false) else (false)) else (bif Nat.blt m 7 then (false) else (bif Nat.blt m 8 then (false) else (false))))) else (bif Nat.blt m 14 then (bif Nat.blt m 11 then (bif Nat.blt m 10 then (false) else (false)) else (bif Nat.blt m 12 then (false) else (bif Nat.blt m 13 then (false) else (false)))) else (bif Nat.blt m 16 then (bif Nat.blt m 15 then (false) else (false)) else (bif Nat.blt m 17 then (false) else (bif Nat.blt m 18 then (false) else (false)))))) else (bif Nat.blt m 28 then (bif Nat.blt m 23 then (bif Nat.blt m 21 then (bif Nat.blt m 20 then (false) else (false)) else (bif Nat.blt m 22 then (false) else (false))) else (bif Nat.blt m 25 then (bif Nat.blt m 24 then (false) else (false)) else (bif Nat.blt m 26 then (false) else (bif Nat.blt m 27 then (false) else (false))))) else (bif Nat.blt m 33 then (bif Nat.blt m 30 then (bif Nat.blt m 29 then (false) else (false)) else (bif Nat.blt m 31 then (false) else (bif Nat.blt m 32 then (false) else (false)))) else (bif Nat.blt m 35 then (bif Nat.blt m 34 then (false) else (false)) else (bif Nat.blt m 36 then (false) else (bif Nat.blt m 37 then (false) else (false))))))) else (bif Nat.blt m 57 then (bif Nat.blt m 47 then (bif Nat.blt m 42 then (bif Nat.blt m 40 then (bif Nat.blt m 39 then (false) else (false)) else (bif Nat.blt m 41 then (false) else (false))) else (bif Nat.blt m 44 then (bif Nat.blt m 43 then (false) else (false)) else (bif Nat.blt m 45 then (false) else (bif Nat.blt m 46 then (false) else (false))))) else (bif Nat.blt m 52 then (bif Nat.blt m 49 then (bif Nat.blt m 48 then (false) else (false)) else (bif Nat.blt m 50 then (false) else (bif Nat.blt m 51 then (false) else (false)))) else (bif Nat.blt m 54 then (bif Nat.blt m 53 then (false) else (false)) else (bif Nat.blt m 55 then (false) else (bif Nat.blt m 56 then (false) else (false)))))) else (bif Nat.blt m 66 then (bif Nat.blt m 61 then (bif Nat.blt m 59 then (bif Nat.blt m 58 then (false) else (true)) else (bif Nat.blt m 60 then (true) else (true))) else (bif Nat.blt m 63 then (bif Nat.blt m 62 then (true) else (true)) else (bif Nat.blt m 64 then (true) else (bif Nat.blt m 65 then (true) else (true))))) else (bif Nat.blt m 71 then (bif Nat.blt m 68 then (bif Nat.blt m 67 then (false) else (true)) else (bif Nat.blt m 69 then (false) else (bif Nat.blt m 70 then (true) else (false)))) else (bif Nat.blt m 73 then (bif Nat.blt m 72 then (false) else (false)) else (bif Nat.blt m 74 then (false) else (bif Nat.blt m 75 then (true) else (false)))))))) else (bif Nat.blt m 114 then (bif Nat.blt m 95 then (bif Nat.blt m 85 then (bif Nat.blt m 80 then (bif Nat.blt m 78 then (bif Nat.blt m 77 then (false) else (false)) else (bif Nat.blt m 79 then (false) else (false))) else (bif Nat.blt m 82 then (bif Nat.blt m 81 then (true) else (false)) else (bif Nat.blt m 83 then (false) else (bif Nat.blt m 84 then (false) else (false))))) else (bif Nat.blt m 90 then (bif Nat.blt m 87 then (bif Nat.blt m 86 then (false) else (false)) else (bif Nat.blt m 88 then (false) else (bif Nat.blt m 89 then (false) else (false)))) else (bif Nat.blt m 92 then (bif Nat.blt m 91 then (false) else (false)) else (bif Nat.blt m 93 then (false) else (bif Nat.blt m 94 then (false) else (false)))))) else (bif Nat.blt m 104 then (bif Nat.blt m 99 then (bif Nat.blt m 97 then (bif Nat.blt m 96 then (false) else (false)) else (bif Nat.blt m 98 then (false) else (false))) else (bif Nat.blt m 101 then (bif Nat.blt m 100 then (false) else (false)) else (bif Nat.blt m 102 then (false) else (bif Nat.blt m 103 then (false) else (false))))) else (bif Nat.blt m 109 then (bif Nat.blt m 106 then (bif Nat.blt m 105 then (false) else (false)) else (bif Nat.blt m 107 then (false) else (bif Nat.blt m 108 then (false) else (false)))) else (bif Nat.blt m 111 then (bif Nat.blt m 110 then (false) else (false)) else (bif Nat.blt m 112 then (false) else (bif Nat.blt m 113 then (false) else (false))))))) else (bif Nat.blt m 133 then (bif Nat.blt m 123 then (bif Nat.blt m 118 then (bif Nat.blt m 116 then (bif Nat.blt m 115 then (false) else (false)) else (bif Nat.blt m 117 then (false) else (false))) else (bif Nat.blt m 120 then (bif Nat.blt m 119 then (false) else (false)) else (bif Nat.blt m 121 then (false) else (bif Nat.blt m 122 then (false) else (false))))) else (bif Nat.blt m 128 then (bif Nat.blt m 125 then (bif Nat.blt m 124 then (false) else (false)) else (bif Nat.blt m 126 then (false) else (bif Nat.blt m 127 then (false) else (false)))) else (bif Nat.blt m 130 then (bif Nat.blt m 129 then (false) else (false)) else (bif Nat.blt m 131 then (false) else (bif Nat.blt m 132 then (true) else (false)))))) else (bif Nat.blt m 142 then (bif Nat.blt m 137 then (bif Nat.blt m 135 then (bif Nat.blt m 134 then (false) else (true)) else (bif Nat.blt m 136 then (true) else (true))) else (bif Nat.blt m 139 then (bif Nat.blt m 138 then (true) else (true)) else (bif Nat.blt m 140 then (true) else (bif Nat.blt m 141 then (true) else (true))))) else (bif Nat.blt m 147 then (bif Nat.blt m 144 then (bif Nat.blt m 143 then (true) else (true)) else (bif Nat.blt m 145 then (true) else (bif Nat.blt m 146 then (true) else (true)))) else (bif Nat.blt m 149 then (bif Nat.blt m 148 then (true) else (true)) else (bif Nat.blt m 150 then (true) else (bif Nat.blt m 151 then (true) else (true))))))))
def z_FR (m : Nat) : Nat := bif Nat.blt m 76 then (bif Nat.blt m 38 then (bif Nat.blt m 19 then (bif Nat.blt m 9 then (bif Nat.blt m 4 then (bif Nat.blt m 2 then (bif Nat.blt m 1 then (1) else (0)) else (bif Nat.blt m 3 then (0) else (0))) else (bif Nat.blt m 6 then (bif Nat.blt m 5 then (0) else (1)) else (bif Nat.blt m 7 then (1) else (bif Nat.blt m 8 then (0) else (0))))) else (bif Nat.blt m 14 then (bif Nat.blt m 11 then (bif Nat.blt m 10 then (0) else (0)) else (bif Nat.blt m 12 then (2) else (bif Nat.blt m 13 then (1) else (0)))) else (bif Nat.blt m 16 then (bif Nat.blt m 15 then (0) else (4)) else (bif Nat.blt m 17 then (3) else (bif Nat.blt m 18 then (1) else (1)))))) else (bif Nat.blt m 28 then (bif Nat.blt m 23 then (bif Nat.blt m 21 then (bif Nat.blt m 20 then (0) else (4)) else (bif Nat.blt m 22 then (0) else (3))) else (bif Nat.blt m 25 then (bif Nat.blt m 24 then (0) else (2)) else (bif Nat.blt m 26 then (0) else (bif Nat.blt m 27 then (0) else (2))))) else (bif Nat.blt m 33 then (bif Nat.blt m 30 then (bif Nat.blt m 29 then (1) else (7)) else (bif Nat.blt m 31 then (7) else (bif Nat.blt m 32 then (7) else (7)))) else (bif Nat.blt m 35 then (bif Nat.blt m 34 then (4) else (7)) else (bif Nat.blt m 36 then (7) else (bif Nat.blt m 37 then (7) else (7))))))) else (bif Nat.blt m 57 then (bif Nat.blt m 47 then (bif Nat.blt m 42 then (bif Nat.blt m 40 then (bif Nat.blt m 39 then (0) else (5)) else (bif Nat.blt m 41 then (7) else (7))) else (bif Nat.blt m 44 then (bif Nat.blt m 43 then (7) else (7)) else (bif Nat.blt m 45 then (7) else (bif Nat.blt m 46 then (7) else (7))))) else (bif Nat.blt m 52 then (bif Nat.blt m 49 then (bif Nat.blt m 48 then (7) else (5)) else (bif Nat.blt m 50 then (5) else (bif Nat.blt m 51 then (5) else (1)))) else (bif Nat.blt m 54 then (bif Nat.blt m 53 then (9) else (8)) else (bif Nat.blt m 55 then (3) else (bif Nat.blt m 56 then (3) else (2)))))) else (bif Nat.blt m 66 then (bif Nat.blt m 61 then (bif Nat.blt m 59 then (bif Nat.blt m 58 then (5) else (6)) else (bif Nat.blt m 60 then (6) else (6))) else (bif Nat.blt m 63 then (bif Nat.blt m 62 then (0) else (1)) else (bif Nat.blt m 64 then (1) else (bif Nat.blt m 65 then (0) else (0))))) else (bif Nat.blt m 71 then (bif Nat.blt m 68 then (bif Nat.blt m 67 then (0) else (0)) else (bif Nat.blt m 69 then (0) else (bif Nat.blt m 70 then (1) else (0)))) else (bif Nat.blt m 73 then (bif Nat.blt m 72 then (0) else (0)) else (bif Nat.blt m 74 then (0) else (bif Nat.blt m 75 then (0) else (0)))))))) else (bif Nat.blt m 114 then (bif Nat.blt m 95 then (bif Nat.blt m 85 then (bif Nat.blt m 80 then (bif Nat.blt m 78 then (bif Nat.blt m 77 then (1) else (2)) else (bif Nat.blt m 79 then (0) else (3))) else (bif Nat.blt m 82 then (bif Nat.blt m 81 then (0) else (3)) else (bif Nat.blt m 83 then (2) else (bif Nat.blt m 84 then (0) else (2))))) else (bif Nat.blt m 90 then (bif Nat.blt m 87 then (bif Nat.blt m 86 then (1) else (0)) else (bif Nat.blt m 88 then (1) else (bif Nat.blt m 89 then (4) else (1)))) else (bif Nat.blt m 92 then (bif Nat.blt m 91 then (0) else (2)) else (bif Nat.blt m 93 then (3) else (bif Nat.blt m 94 then (3) else (2)))))) else (bif Nat.blt m 104 then (bif Nat.blt m 99 then (bif Nat.blt m 97 then (bif Nat.blt m 96 then (1) else (2)) else (bif Nat.blt m 98 then (5) else (1))) else (bif Nat.blt m 101 then (bif Nat.blt m 100 then (1) else (0)) else (bif Nat.blt m 102 then (1) else (bif Nat.blt m 103 then (2) else (3))))) else (bif Nat.blt m 109 then (bif Nat.blt m 106 then (bif Nat.blt m 105 then (5) else (6)) else (bif Nat.blt m 107 then (7) else (bif Nat.blt m 108 then (7) else (1)))) else (bif Nat.blt m 111 then (bif Nat.blt m 110 then (4) else (5)) else (bif Nat.blt m 112 then (0) else (bif Nat.blt m 113 then (1) else (0))))))) else (bif Nat.blt m 133 then (bif Nat.blt m 123 then (bif Nat.blt m 118 then (bif Nat.blt m 116 then (bif Nat.blt m 115 then (0) else (4)) else (bif Nat.blt m 117 then (5) else (1))) else (bif Nat.blt m 120 then (bif Nat.blt m 119 then (3) else (4)) else (bif Nat.blt m 121 then (3) else (bif Nat.blt m 122 then (4) else (4))))) else (bif Nat.blt m 128 then (bif Nat.blt m 125 then (bif Nat.blt m 124 then (5) else (5)) else (bif Nat.blt m 126 then (6) else (bif Nat.blt m 127 then (7) else (6)))) else (bif Nat.blt m 130 then (bif Nat.blt m 129 then (7) else (0)) else (bif Nat.blt m 131 then (1) else (bif Nat.blt m 132 then (0) else (0)))))) else (bif Nat.blt m 142 then (bif Nat.blt m 137 then (bif Nat.blt m 135 then (bif Nat.blt m 134 then (7) else (0)) else (bif Nat.blt m 136 then (8) else (8))) else (bif Nat.blt m 139 then (bif Nat.blt m 138 then (8) else (8)) else (bif Nat.blt m 140 then (8) else (bif Nat.blt m 141 then (8) else (8))))) else (bif Nat.blt m 147 then (bif Nat.blt m 144 then (bif Nat.blt m 143 then (8) else (8)) else (bif Nat.blt m 145 then (8) else (bif Nat.blt m 146 then (8) else (8)))) else (bif Nat.blt m 149 then (bif Nat.blt m 148 then (8) else (8)) else (bif Nat.blt m 150 then (8) else (bif Nat.blt m 151 then (8) else (10))))))))
def z_LR (m : Nat) : Nat := bif Nat.blt m 76 then (bif Nat.blt m 38 then (bif Nat.blt m 19 then (bif Nat.blt m 9 then (bif Nat.blt m 4 then (bif Nat.blt m 2 then (bif Nat.blt m 1 then (60) else (0)) else (bif Nat.blt m 3 then (0) else (0))) else (bif Nat.blt m 6 then (bif Nat.blt m 5 then (0) else (23)) else (bif Nat.blt m 7 then (22) else (bif Nat.blt m 8 then (0) else (0))))) else (bif Nat.blt m 14 then (bif Nat.blt m 11 then (bif Nat.blt m 10 then (0) else (0)) else (bif Nat.blt m 12 then (81) else (bif Nat.blt m 13 then (60) else (0)))) else (bif Nat.blt m 16 then (bif Nat.blt m 15 then (0) else (138)) else (bif Nat.blt m 17 then (115) else (bif Nat.blt m 18 then (60) else (20)))))) else (bif Nat.blt m 28 then (bif Nat.blt m 23 then (bif Nat.blt m 21 then (bif Nat.blt m 20 then (0) else (86)) else (bif Nat.blt m 22 then (0) else (64))) else (bif Nat.blt m 25 then (bif Nat.blt m 24 then (0) else (42)) else (bif Nat.blt m 26 then (0) else (bif Nat.blt m 27 then (0) else (88))))) else (bif Nat.blt m 33 then (bif Nat.blt m 30 then (bif Nat.blt m 29 then (60) else (123)) else (bif Nat.blt m 31 then (123) else (bif Nat.blt m 32 then (123) else (123)))) else (bif Nat.blt m 35 then (bif Nat.blt m 34 then (123) else (123)) else (bif Nat.blt m 36 then (161) else (bif Nat.blt m 37 then (123) else (110))))))) else (bif Nat.blt m 57 then (bif Nat.blt m 47 then (bif Nat.blt m 42 then (bif Nat.blt m 40 then (bif Nat.blt m 39 then (0) else (109)) else (bif Nat.blt m 41 then (184) else (110))) else (bif Nat.blt m 44 then (bif Nat.blt m 43 then (135) else (110)) else (bif Nat.blt m 45 then (135) else (bif Nat.blt m 46 then (110) else (115))))) else (bif Nat.blt m 52 then (bif Nat.blt m 49 then (bif Nat.blt m 48 then (115) else (161)) else (bif Nat.blt m 50 then (161) else (bif Nat.blt m 51 then (161) else (22)))) else (bif Nat.blt m 54 then (bif Nat.blt m 53 then (188) else (143)) else (bif Nat.blt m 55 then (103) else (bif Nat.blt m 56 then (115) else (42)))))) else (bif Nat.blt m 66 then (bif Nat.blt m 61 then (bif Nat.blt m 59 then (bif Nat.blt m 58 then (161) else (90)) else (bif Nat.blt m 60 then (90) else (90))) else (bif Nat.blt m 63 then (bif Nat.blt m 62 then (0) else (22)) else (bif Nat.blt m 64 then (22) else (bif Nat.blt m 65 then (0) else (0))))) else (bif Nat.blt m 71 then (bif Nat.blt m 68 then (bif Nat.blt m 67 then (0) else (0)) else (bif Nat.blt m 69 then (0) else (bif Nat.blt m 70 then (22) else (0)))) else (bif Nat.blt m 73 then (bif Nat.blt m 72 then (0) else (0)) else (bif Nat.blt m 74 then (0) else (bif Nat.blt m 75 then (0) else (0)))))))) else (bif Nat.blt m 114 then (bif Nat.blt m 95 then (bif Nat.blt m 85 then (bif Nat.blt m 80 then (bif Nat.blt m 78 then (bif Nat.blt m 77 then (21) else (45)) else (bif Nat.blt m 79 then (0) else (72))) else (bif Nat.blt m 82 then (bif Nat.blt m 81 then (0) else (72)) else (bif Nat.blt m 83 then (42) else (bif Nat.blt m 84 then (0) else (42))))) else (bif Nat.blt m 90 then (bif Nat.blt m 87 then (bif Nat.blt m 86 then (22) else (0)) else (bif Nat.blt m 88 then (22) else (bif Nat.blt m 89 then (95) else (22)))) else (bif Nat.blt m 92 then (bif Nat.blt m 91 then (0) else (42)) else (bif Nat.blt m 93 then (63) else (bif Nat.blt m 94 then (63) else (42)))))) else (bif Nat.blt m 104 then (bif Nat.blt m 99 then (bif Nat.blt m 97 then (bif Nat.blt m 96 then (21) else (44)) else (bif Nat.blt m 98 then (118) else (23))) else (bif Nat.blt m 101 then (bif Nat.blt m 100 then (22) else (0)) else (bif Nat.blt m 102 then (22) else (bif Nat.blt m 103 then (45) else (68))))) else (bif Nat.blt m 109 then (bif Nat.blt m 106 then (bif Nat.blt m 105 then (118) else (141)) else (bif Nat.blt m 107 then (166) else (bif Nat.blt m 108 then (166) else (21)))) else (bif Nat.blt m 111 then (bif Nat.blt m 110 then (92) else (114)) else (bif Nat.blt m 112 then (0) else (bif Nat.blt m 113 then (22) else (0))))))) else (bif Nat.blt m 133 then (bif Nat.blt m 123 then (bif Nat.blt m 118 then (bif Nat.blt m 116 then (bif Nat.blt m 115 then (0) else (92)) else (bif Nat.blt m 117 then (113) else (22))) else (bif Nat.blt m 120 then (bif Nat.blt m 119 then (72) else (93)) else (bif Nat.blt m 121 then (72) else (bif Nat.blt m 122 then (99) else (95))))) else (bif Nat.blt m 128 then (bif Nat.blt m 125 then (bif Nat.blt m 124 then (117) else (118)) else (bif Nat.blt m 126 then (138) else (bif Nat.blt m 127 then (161) else (138)))) else (bif Nat.blt m 130 then (bif Nat.blt m 129 then (166) else (0)) else (bif Nat.blt m 131 then (20) else (bif Nat.blt m 132 then (0) else (0)))))) else (bif Nat.blt m 142 then (bif Nat.blt m 137 then (bif Nat.blt m 135 then (bif Nat.blt m 134 then (166) else (0)) else (bif Nat.blt m 136 then (149) else (144))) else (bif Nat.blt m 139 then (bif Nat.blt m 138 then (144) else (145)) else (bif Nat.blt m 140 then (146) else (bif Nat.blt m 141 then (183) else (147))))) else (bif Nat.blt m 147 then (bif Nat.blt m 144 then (bif Nat.blt m 143 then (131) else (205)) else (bif Nat.blt m 145 then (130) else (bif Nat.blt m 146 then (158) else (132)))) else (bif Nat.blt m 149 then (bif Nat.blt m 148 then (156) else (131)) else (bif Nat.blt m 150 then (137) else (bif Nat.blt m 151 then (143) else (227))))))))
def z_y (m : Nat) : MethodName := bif Nat.blt m 76 then (bif Nat.blt m 38 then (bif Nat.blt m 19 then (bif Nat.blt m 9 then (bif Nat.blt m 4 then (bif Nat.blt m 2 then (bif Nat.blt m 1 then (yX0_copyFrom) else (yX0_begin)) else (bif Nat.blt m 3 then (yX0_become) else (yX0_isInUse))) else (bif Nat.blt m 6 then (bif Nat.blt m 5 then (yX0_maskOf) else (yX0_sizeOf)) else (bif Nat.blt m 7 then (yX0_warmUpAnHour) else (bif Nat.blt m 8 then (yX0_burnFuel) else (yX0_fuelFor))))) else (bif Nat.blt m 14 then (bif Nat.blt m 11 then (bif Nat.blt m 10 then (yX0_fuelSoFar) else (yX0_firstByMerit)) else (bif Nat.blt m 12 then (yX1_copyFrom) else (bif Nat.blt m 13 then (yX1_hourOfNow) else (yX1_hasStill)))) else (bif Nat.blt m 16 then (bif Nat.blt m 15 then (yX1_loadOf) else (yX1_letHoursGoBy)) else (bif Nat.blt m 17 then (yX1_letAnHourGoBy) else (bif Nat.blt m 18 then (yX1_changeWarmth) else (yX1_darkHours)))))) else (bif Nat.blt m 28 then (bif Nat.blt m 23 then (bif Nat.blt m 21 then (bif Nat.blt m 20 then (yX1_safeHours) else (yX2_read)) else (bif Nat.blt m 22 then (yX2_isWhole) else (yX2_takes))) else (bif Nat.blt m 25 then (bif Nat.blt m 24 then (yX2_takesOrder) else (yX2_takesDigit)) else (bif Nat.blt m 26 then (yX2_begins) else (bif Nat.blt m 27 then (yX2_goesOn) else (yX3_shareOut))))) else (bif Nat.blt m 33 then (bif Nat.blt m 30 then (bif Nat.blt m 29 then (yX3_giveByMerit) else (yX4_rate)) else (bif Nat.blt m 31 then (yX4_start) else (bif Nat.blt m 32 then (yX4_stop) else (yX4_lose)))) else (bif Nat.blt m 35 then (bif Nat.blt m 34 then (yX4_shed) else (yX4_forecast)) else (bif Nat.blt m 36 then (yX4_pass) else (bif Nat.blt m 37 then (yX4_set) else (yX4_append))))))) else (bif Nat.blt m 57 then (bif Nat.blt m 47 then (bif Nat.blt m 42 then (bif Nat.blt m 40 then (bif Nat.blt m 39 then (yX4_clearBuffer) else (yX4_firstError)) else (bif Nat.blt m 41 then (yX4_run) else (yX4_undo))) else (bif Nat.blt m 44 then (bif Nat.blt m 43 then (yX4_setOf) else (yX4_hour)) else (bif Nat.blt m 45 then (yX4_count) else (bif Nat.blt m 46 then (yX4_setting) else (yX4_ifLost))))) else (bif Nat.blt m 52 then (bif Nat.blt m 49 then (bif Nat.blt m 48 then (yX4_cheapest) else (yX4_firstDark)) else (bif Nat.blt m 50 then (yX4_ifShed) else (bif Nat.blt m 51 then (yX4_bestStart) else (yX4_safeShare)))) else (bif Nat.blt m 54 then (bif Nat.blt m 53 then (yX4_digest) else (yX4_withCheapest)) else (bif Nat.blt m 55 then (yX4_saveState) else (bif Nat.blt m 56 then (yX4_shareOutNow) else (yX4_isAllowed)))))) else (bif Nat.blt m 66 then (bif Nat.blt m 61 then (bif Nat.blt m 59 then (bif Nat.blt m 58 then (yX4_obey) else (yX4_requireArgument)) else (bif Nat.blt m 60 then (yX4_requireState) else (yX4_requireSetting))) else (bif Nat.blt m 63 then (bif Nat.blt m 62 then (yX4_isFrom) else (yX4_isSet)) else (bif Nat.blt m 64 then (yX4_isHour) else (bif Nat.blt m 65 then (yX4_oneIf) else (yX4_bitsOfShare))))) else (bif Nat.blt m 71 then (bif Nat.blt m 68 then (bif Nat.blt m 67 then (yX5_thrown) else (yX5_in)) else (bif Nat.blt m 69 then (yX5_holds) else (bif Nat.blt m 70 then (yX5_isSet) else (yX5_save)))) else (bif Nat.blt m 73 then (bif Nat.blt m 72 then (yX5_putAside) else (yX5_putBack)) else (bif Nat.blt m 74 then (yX5_running) else (bif Nat.blt m 75 then (yX5_has) else (yX5_loadOf)))))))) else (bif Nat.blt m 114 then (bif Nat.blt m 95 then (bif Nat.blt m 85 then (bif Nat.blt m 80 then (bif Nat.blt m 78 then (bif Nat.blt m 77 then (yX5_cheapestOf) else (yX5_share)) else (bif Nat.blt m 79 then (yX5_now) else (yX5_shareNow))) else (bif Nat.blt m 82 then (bif Nat.blt m 81 then (yX5_many) else (yX5_goOn)) else (bif Nat.blt m 83 then (yX5_startFault) else (bif Nat.blt m 84 then (yX5_starts) else (yX5_stopFault))))) else (bif Nat.blt m 90 then (bif Nat.blt m 87 then (bif Nat.blt m 86 then (yX5_stops) else (yX5_sheds)) else (bif Nat.blt m 88 then (yX5_passFault) else (bif Nat.blt m 89 then (yX5_passes) else (yX5_forecastFault)))) else (bif Nat.blt m 92 then (bif Nat.blt m 91 then (yX5_puts) else (yX5_rate)) else (bif Nat.blt m 93 then (yX5_start) else (bif Nat.blt m 94 then (yX5_stop) else (yX5_lose)))))) else (bif Nat.blt m 104 then (bif Nat.blt m 99 then (bif Nat.blt m 97 then (bif Nat.blt m 96 then (yX5_shed) else (yX5_forecast)) else (bif Nat.blt m 98 then (yX5_pass) else (yX5_set))) else (bif Nat.blt m 101 then (bif Nat.blt m 100 then (yX5_append) else (yX5_clearBuffer)) else (bif Nat.blt m 102 then (yX5_sign) else (bif Nat.blt m 103 then (yX5_number) else (yX5_order))))) else (bif Nat.blt m 109 then (bif Nat.blt m 106 then (bif Nat.blt m 105 then (yX5_does) else (yX5_go)) else (bif Nat.blt m 107 then (yX5_firstError) else (bif Nat.blt m 108 then (yX5_run) else (yX5_undo)))) else (bif Nat.blt m 111 then (bif Nat.blt m 110 then (yX5_toldOf) else (yX5_setOf)) else (bif Nat.blt m 112 then (yX5_toldOfHour) else (bif Nat.blt m 113 then (yX5_hour) else (yX5_allFuel))))))) else (bif Nat.blt m 133 then (bif Nat.blt m 123 then (bif Nat.blt m 118 then (bif Nat.blt m 116 then (bif Nat.blt m 115 then (yX5_warming) else (yX5_counted)) else (bif Nat.blt m 117 then (yX5_count) else (yX5_setting))) else (bif Nat.blt m 120 then (bif Nat.blt m 119 then (yX5_darkWithout) else (yX5_ifLost)) else (bif Nat.blt m 121 then (yX5_best) else (bif Nat.blt m 122 then (yX5_cheapest) else (yX5_darkFirst))))) else (bif Nat.blt m 128 then (bif Nat.blt m 125 then (bif Nat.blt m 124 then (yX5_firstDark) else (yX5_darkToTheEnd)) else (bif Nat.blt m 126 then (yX5_fewerIfShed) else (bif Nat.blt m 127 then (yX5_ifShed) else (yX5_startBest)))) else (bif Nat.blt m 130 then (bif Nat.blt m 129 then (yX5_bestStart) else (yX5_safe)) else (bif Nat.blt m 131 then (yX5_safeShare) else (bif Nat.blt m 132 then (yX5_bitsOf) else (yX5_digestOne)))))) else (bif Nat.blt m 142 then (bif Nat.blt m 137 then (bif Nat.blt m 135 then (bif Nat.blt m 134 then (yX5_digest) else (yJ6_bitCount_0f7a4)) else (bif Nat.blt m 136 then (yL_rate) else (yL_start))) else (bif Nat.blt m 139 then (bif Nat.blt m 138 then (yL_stop) else (yL_lose)) else (bif Nat.blt m 140 then (yL_forecast) else (bif Nat.blt m 141 then (yL_pass) else (yL_set))))) else (bif Nat.blt m 147 then (bif Nat.blt m 144 then (bif Nat.blt m 143 then (yL_append) else (yL_run)) else (bif Nat.blt m 145 then (yL_undo) else (bif Nat.blt m 146 then (yL_setOf) else (yL_hour)))) else (bif Nat.blt m 149 then (bif Nat.blt m 148 then (yL_count) else (yL_setting)) else (bif Nat.blt m 150 then (yL_ifLost) else (bif Nat.blt m 151 then (yL_cheapest) else (yL_law))))))))
def z_b (m : Nat) : ByteArray := bif Nat.blt m 76 then (bif Nat.blt m 38 then (bif Nat.blt m 19 then (bif Nat.blt m 9 then (bif Nat.blt m 4 then (bif Nat.blt m 2 then (bif Nat.blt m 1 then (cX0_copyFrom) else (cX0_begin)) else (bif Nat.blt m 3 then (cX0_become) else (cX0_isInUse))) else (bif Nat.blt m 6 then (bif Nat.blt m 5 then (cX0_maskOf) else (cX0_sizeOf)) else (bif Nat.blt m 7 then (cX0_warmUpAnHour) else (bif Nat.blt m 8 then (cX0_burnFuel) else (cX0_fuelFor))))) else (bif Nat.blt m 14 then (bif Nat.blt m 11 then (bif Nat.blt m 10 then (cX0_fuelSoFar) else (cX0_firstByMerit)) else (bif Nat.blt m 12 then (cX1_copyFrom) else (bif Nat.blt m 13 then (cX1_hourOfNow) else (cX1_hasStill)))) else (bif Nat.blt m 16 then (bif Nat.blt m 15 then (cX1_loadOf) else (cX1_letHoursGoBy)) else (bif Nat.blt m 17 then (cX1_letAnHourGoBy) else (bif Nat.blt m 18 then (cX1_changeWarmth) else (cX1_darkHours)))))) else (bif Nat.blt m 28 then (bif Nat.blt m 23 then (bif Nat.blt m 21 then (bif Nat.blt m 20 then (cX1_safeHours) else (cX2_read)) else (bif Nat.blt m 22 then (cX2_isWhole) else (cX2_takes))) else (bif Nat.blt m 25 then (bif Nat.blt m 24 then (cX2_takesOrder) else (cX2_takesDigit)) else (bif Nat.blt m 26 then (cX2_begins) else (bif Nat.blt m 27 then (cX2_goesOn) else (cX3_shareOut))))) else (bif Nat.blt m 33 then (bif Nat.blt m 30 then (bif Nat.blt m 29 then (cX3_giveByMerit) else (cX4_rate)) else (bif Nat.blt m 31 then (cX4_start) else (bif Nat.blt m 32 then (cX4_stop) else (cX4_lose)))) else (bif Nat.blt m 35 then (bif Nat.blt m 34 then (cX4_shed) else (cX4_forecast)) else (bif Nat.blt m 36 then (cX4_pass) else (bif Nat.blt m 37 then (cX4_set) else (cX4_append))))))) else (bif Nat.blt m 57 then (bif Nat.blt m 47 then (bif Nat.blt m 42 then (bif Nat.blt m 40 then (bif Nat.blt m 39 then (cX4_clearBuffer) else (cX4_firstError)) else (bif Nat.blt m 41 then (cX4_run) else (cX4_undo))) else (bif Nat.blt m 44 then (bif Nat.blt m 43 then (cX4_setOf) else (cX4_hour)) else (bif Nat.blt m 45 then (cX4_count) else (bif Nat.blt m 46 then (cX4_setting) else (cX4_ifLost))))) else (bif Nat.blt m 52 then (bif Nat.blt m 49 then (bif Nat.blt m 48 then (cX4_cheapest) else (cX4_firstDark)) else (bif Nat.blt m 50 then (cX4_ifShed) else (bif Nat.blt m 51 then (cX4_bestStart) else (cX4_safeShare)))) else (bif Nat.blt m 54 then (bif Nat.blt m 53 then (cX4_digest) else (cX4_withCheapest)) else (bif Nat.blt m 55 then (cX4_saveState) else (bif Nat.blt m 56 then (cX4_shareOutNow) else (cX4_isAllowed)))))) else (bif Nat.blt m 66 then (bif Nat.blt m 61 then (bif Nat.blt m 59 then (bif Nat.blt m 58 then (cX4_obey) else (cX4_requireArgument)) else (bif Nat.blt m 60 then (cX4_requireState) else (cX4_requireSetting))) else (bif Nat.blt m 63 then (bif Nat.blt m 62 then (cX4_isFrom) else (cX4_isSet)) else (bif Nat.blt m 64 then (cX4_isHour) else (bif Nat.blt m 65 then (cX4_oneIf) else (cX4_bitsOfShare))))) else (bif Nat.blt m 71 then (bif Nat.blt m 68 then (bif Nat.blt m 67 then (cX5_thrown) else (cX5_in)) else (bif Nat.blt m 69 then (cX5_holds) else (bif Nat.blt m 70 then (cX5_isSet) else (cX5_save)))) else (bif Nat.blt m 73 then (bif Nat.blt m 72 then (cX5_putAside) else (cX5_putBack)) else (bif Nat.blt m 74 then (cX5_running) else (bif Nat.blt m 75 then (cX5_has) else (cX5_loadOf)))))))) else (bif Nat.blt m 114 then (bif Nat.blt m 95 then (bif Nat.blt m 85 then (bif Nat.blt m 80 then (bif Nat.blt m 78 then (bif Nat.blt m 77 then (cX5_cheapestOf) else (cX5_share)) else (bif Nat.blt m 79 then (cX5_now) else (cX5_shareNow))) else (bif Nat.blt m 82 then (bif Nat.blt m 81 then (cX5_many) else (cX5_goOn)) else (bif Nat.blt m 83 then (cX5_startFault) else (bif Nat.blt m 84 then (cX5_starts) else (cX5_stopFault))))) else (bif Nat.blt m 90 then (bif Nat.blt m 87 then (bif Nat.blt m 86 then (cX5_stops) else (cX5_sheds)) else (bif Nat.blt m 88 then (cX5_passFault) else (bif Nat.blt m 89 then (cX5_passes) else (cX5_forecastFault)))) else (bif Nat.blt m 92 then (bif Nat.blt m 91 then (cX5_puts) else (cX5_rate)) else (bif Nat.blt m 93 then (cX5_start) else (bif Nat.blt m 94 then (cX5_stop) else (cX5_lose)))))) else (bif Nat.blt m 104 then (bif Nat.blt m 99 then (bif Nat.blt m 97 then (bif Nat.blt m 96 then (cX5_shed) else (cX5_forecast)) else (bif Nat.blt m 98 then (cX5_pass) else (cX5_set))) else (bif Nat.blt m 101 then (bif Nat.blt m 100 then (cX5_append) else (cX5_clearBuffer)) else (bif Nat.blt m 102 then (cX5_sign) else (bif Nat.blt m 103 then (cX5_number) else (cX5_order))))) else (bif Nat.blt m 109 then (bif Nat.blt m 106 then (bif Nat.blt m 105 then (cX5_does) else (cX5_go)) else (bif Nat.blt m 107 then (cX5_firstError) else (bif Nat.blt m 108 then (cX5_run) else (cX5_undo)))) else (bif Nat.blt m 111 then (bif Nat.blt m 110 then (cX5_toldOf) else (cX5_setOf)) else (bif Nat.blt m 112 then (cX5_toldOfHour) else (bif Nat.blt m 113 then (cX5_hour) else (cX5_allFuel))))))) else (bif Nat.blt m 133 then (bif Nat.blt m 123 then (bif Nat.blt m 118 then (bif Nat.blt m 116 then (bif Nat.blt m 115 then (cX5_warming) else (cX5_counted)) else (bif Nat.blt m 117 then (cX5_count) else (cX5_setting))) else (bif Nat.blt m 120 then (bif Nat.blt m 119 then (cX5_darkWithout) else (cX5_ifLost)) else (bif Nat.blt m 121 then (cX5_best) else (bif Nat.blt m 122 then (cX5_cheapest) else (cX5_darkFirst))))) else (bif Nat.blt m 128 then (bif Nat.blt m 125 then (bif Nat.blt m 124 then (cX5_firstDark) else (cX5_darkToTheEnd)) else (bif Nat.blt m 126 then (cX5_fewerIfShed) else (bif Nat.blt m 127 then (cX5_ifShed) else (cX5_startBest)))) else (bif Nat.blt m 130 then (bif Nat.blt m 129 then (cX5_bestStart) else (cX5_safe)) else (bif Nat.blt m 131 then (cX5_safeShare) else (bif Nat.blt m 132 then (cX5_bitsOf) else (cX5_digestOne)))))) else (bif Nat.blt m 142 then (bif Nat.blt m 137 then (bif Nat.blt m 135 then (bif Nat.blt m 134 then (cX5_digest) else (cJ6_bitCount_0f7a4)) else (bif Nat.blt m 136 then (cL_rate) else (cL_start))) else (bif Nat.blt m 139 then (bif Nat.blt m 138 then (cL_stop) else (cL_lose)) else (bif Nat.blt m 140 then (cL_forecast) else (bif Nat.blt m 141 then (cL_pass) else (cL_set))))) else (bif Nat.blt m 147 then (bif Nat.blt m 144 then (bif Nat.blt m 143 then (cL_append) else (cL_run)) else (bif Nat.blt m 145 then (cL_undo) else (bif Nat.blt m 146 then (cL_setOf) else (cL_hour)))) else (bif Nat.blt m 149 then (bif Nat.blt m 148 then (cL_count) else (cL_setting)) else (bif Nat.blt m 150 then (cL_ifLost) else (bif Nat.blt m 151 then (cL_cheapest) else (cL_law))))))))
def z_ret (m : Nat) : Option FieldType := match z_rt m with
  | 0 => none
  | 1 => some .int
  | 2 => some .boolean
  | 3 => some .long
  | _ => some .double
def z_hh (m : Nat) : List (Nat × Nat × Nat × Nat) := bif Nat.blt m 143 then (bif Nat.blt m 139 then (bif Nat.blt m 137 then (bif Nat.blt m 136 then (bif Nat.beq m 135 then [(0, 16, 19, 13), (0, 16, 23, 15)] else []) else (bif Nat.beq m 136 then [(0, 9, 12, 13), (0, 9, 15, 15)] else [])) else (bif Nat.blt m 138 then (bif Nat.beq m 137 then [(0, 9, 12, 13), (0, 9, 15, 15)] else []) else (bif Nat.beq m 138 then [(0, 9, 12, 13)] else []))) else (bif Nat.blt m 141 then (bif Nat.blt m 140 then (bif Nat.beq m 139 then [(0, 10, 13, 13)] else []) else (bif Nat.beq m 140 then [(0, 9, 12, 13), (0, 9, 15, 15)] else [])) else (bif Nat.blt m 142 then (bif Nat.beq m 141 then [(0, 10, 13, 37), (0, 10, 17, 13)] else []) else (bif Nat.beq m 142 then [(0, 9, 12, 13), (0, 9, 15, 15)] else [])))) else (bif Nat.blt m 147 then (bif Nat.blt m 145 then (bif Nat.blt m 144 then (bif Nat.beq m 143 then [(0, 8, 11, 13)] else []) else (bif Nat.beq m 144 then [(0, 8, 11, 15)] else [])) else (bif Nat.blt m 146 then (bif Nat.beq m 145 then [(0, 10, 13, 13)] else []) else (bif Nat.beq m 146 then [(0, 10, 13, 13)] else []))) else (bif Nat.blt m 149 then (bif Nat.blt m 148 then (bif Nat.beq m 147 then [(0, 9, 12, 13)] else []) else (bif Nat.beq m 148 then [(0, 9, 12, 37)] else [])) else (bif Nat.blt m 150 then (bif Nat.beq m 149 then [(0, 9, 12, 13)] else []) else (bif Nat.beq m 150 then [(0, 10, 13, 13)] else []))))
def z_on (o : Nat) : String := match o with
  | 0 => RX0
  | 1 => RX1
  | 2 => RX2
  | 3 => RX3
  | 4 => RX4
  | 5 => RX5
  | 6 => RJ6
  | 7 => RJ9
  | _ => RL
def z_T (c : Nat) : u_T := match c with
  | 0 => TX0
  | 1 => TX1
  | 2 => TX2
  | 3 => TX3
  | 4 => TX4
  | _ => TX5
def z_tyT (c : Nat) : Nat → FieldType := match c with
  | 0 => tyX0
  | 1 => tyX1
  | 2 => tyX2
  | 3 => tyX3
  | 4 => tyX4
  | _ => tyX5
def z_nf (c : Nat) : Nat := match c with
  | 0 => 8
  | 1 => 7
  | 2 => 5
  | 3 => 5
  | 4 => 9
  | _ => 19
/-- a field by its class and entry: class, slot, is it a nest mate's, place of its word -/
def z_fld (o i : Nat) : Option (Nat × Nat × Bool × Nat) := bif Nat.blt o 4 then (bif Nat.blt o 2 then (bif Nat.blt o 1 then (bif Nat.blt i 24 then (bif Nat.blt i 18 then (bif Nat.blt i 15 then (bif Nat.beq i 9 then some (0, 0, false, 113) else none) else (bif Nat.beq i 15 then some (0, 1, false, 116) else none)) else (bif Nat.blt i 21 then (bif Nat.beq i 18 then some (0, 2, false, 119) else none) else (bif Nat.beq i 21 then some (0, 3, false, 121) else none))) else (bif Nat.blt i 30 then (bif Nat.blt i 27 then (bif Nat.beq i 24 then some (0, 4, false, 123) else none) else (bif Nat.beq i 27 then some (0, 5, false, 125) else none)) else (bif Nat.blt i 33 then (bif Nat.beq i 30 then some (0, 6, false, 127) else none) else (bif Nat.beq i 33 then some (0, 7, false, 129) else none)))) else (bif Nat.blt i 38 then (bif Nat.blt i 27 then (bif Nat.blt i 20 then (bif Nat.beq i 12 then some (1, 0, false, 152) else none) else (bif Nat.blt i 23 then (bif Nat.beq i 20 then some (1, 1, false, 154) else none) else (bif Nat.beq i 23 then some (1, 2, false, 156) else none))) else (bif Nat.blt i 31 then (bif Nat.beq i 27 then some (1, 3, false, 158) else none) else (bif Nat.blt i 34 then (bif Nat.beq i 31 then some (1, 4, false, 160) else none) else (bif Nat.beq i 34 then some (1, 5, false, 162) else none)))) else (bif Nat.blt i 89 then (bif Nat.blt i 83 then (bif Nat.beq i 38 then some (1, 6, false, 164) else none) else (bif Nat.blt i 86 then (bif Nat.beq i 83 then some (3, 1, true, 218) else none) else (bif Nat.beq i 86 then some (3, 2, true, 221) else none))) else (bif Nat.blt i 92 then (bif Nat.beq i 89 then some (3, 3, true, 224) else none) else (bif Nat.blt i 99 then (bif Nat.beq i 92 then some (3, 4, true, 227) else none) else (bif Nat.beq i 99 then some (3, 0, true, 215) else none)))))) else (bif Nat.blt o 3 then (bif Nat.blt i 18 then (bif Nat.blt i 15 then (bif Nat.beq i 9 then some (2, 0, false, 188) else none) else (bif Nat.beq i 15 then some (2, 1, false, 190) else none)) else (bif Nat.blt i 21 then (bif Nat.beq i 18 then some (2, 2, false, 192) else none) else (bif Nat.blt i 25 then (bif Nat.beq i 21 then some (2, 3, false, 194) else none) else (bif Nat.beq i 25 then some (2, 4, false, 196) else none)))) else (bif Nat.blt i 22 then (bif Nat.blt i 15 then (bif Nat.beq i 9 then some (3, 0, false, 214) else none) else (bif Nat.blt i 19 then (bif Nat.beq i 15 then some (3, 1, false, 217) else none) else (bif Nat.beq i 19 then some (3, 2, false, 220) else none))) else (bif Nat.blt i 29 then (bif Nat.blt i 25 then (bif Nat.beq i 22 then some (3, 3, false, 223) else none) else (bif Nat.beq i 25 then some (3, 4, false, 226) else none)) else (bif Nat.blt i 34 then (bif Nat.beq i 29 then some (0, 1, true, 117) else none) else (bif Nat.beq i 34 then some (0, 0, true, 114) else none)))))) else (bif Nat.blt o 6 then (bif Nat.blt o 5 then (bif Nat.blt i 108 then (bif Nat.blt i 47 then (bif Nat.blt i 27 then (bif Nat.blt i 19 then (bif Nat.blt i 16 then (bif Nat.beq i 12 then some (4, 0, false, 240) else none) else (bif Nat.beq i 16 then some (4, 1, false, 241) else none)) else (bif Nat.blt i 23 then (bif Nat.beq i 19 then some (4, 2, false, 242) else none) else (bif Nat.beq i 23 then some (4, 3, false, 243) else none))) else (bif Nat.blt i 34 then (bif Nat.blt i 30 then (bif Nat.beq i 27 then some (4, 4, false, 244) else none) else (bif Nat.beq i 30 then some (4, 5, false, 245) else none)) else (bif Nat.blt i 40 then (bif Nat.beq i 34 then some (4, 6, false, 246) else none) else (bif Nat.beq i 40 then some (4, 7, false, 247) else none)))) else (bif Nat.blt i 81 then (bif Nat.blt i 67 then (bif Nat.blt i 63 then (bif Nat.beq i 47 then some (4, 8, false, 248) else none) else (bif Nat.beq i 63 then some (1, 0, true, 153) else none)) else (bif Nat.blt i 78 then (bif Nat.beq i 67 then some (0, 4, true, 124) else none) else (bif Nat.beq i 78 then some (0, 0, true, 115) else none))) else (bif Nat.blt i 87 then (bif Nat.blt i 84 then (bif Nat.beq i 81 then some (0, 1, true, 118) else none) else (bif Nat.beq i 84 then some (0, 2, true, 120) else none)) else (bif Nat.blt i 94 then (bif Nat.beq i 87 then some (0, 3, true, 122) else none) else (bif Nat.beq i 94 then some (0, 5, true, 126) else none))))) else (bif Nat.blt i 178 then (bif Nat.blt i 151 then (bif Nat.blt i 137 then (bif Nat.blt i 119 then (bif Nat.beq i 108 then some (1, 6, true, 165) else none) else (bif Nat.beq i 119 then some (1, 1, true, 155) else none)) else (bif Nat.blt i 148 then (bif Nat.beq i 137 then some (1, 2, true, 157) else none) else (bif Nat.beq i 148 then some (2, 3, true, 195) else none))) else (bif Nat.blt i 161 then (bif Nat.blt i 154 then (bif Nat.beq i 151 then some (2, 0, true, 189) else none) else (bif Nat.beq i 154 then some (2, 1, true, 191) else none)) else (bif Nat.blt i 175 then (bif Nat.beq i 161 then some (2, 2, true, 193) else none) else (bif Nat.beq i 175 then some (3, 0, true, 216) else none)))) else (bif Nat.blt i 196 then (bif Nat.blt i 184 then (bif Nat.blt i 181 then (bif Nat.beq i 178 then some (0, 6, true, 128) else none) else (bif Nat.beq i 181 then some (0, 7, true, 130) else none)) else (bif Nat.blt i 193 then (bif Nat.beq i 184 then some (1, 3, true, 159) else none) else (bif Nat.beq i 193 then some (3, 1, true, 219) else none))) else (bif Nat.blt i 202 then (bif Nat.blt i 199 then (bif Nat.beq i 196 then some (3, 2, true, 222) else none) else (bif Nat.beq i 199 then some (3, 3, true, 225) else none)) else (bif Nat.blt i 205 then (bif Nat.beq i 202 then some (3, 4, true, 228) else none) else (bif Nat.blt i 208 then (bif Nat.beq i 205 then some (1, 4, true, 161) else none) else (bif Nat.beq i 208 then some (1, 5, true, 163) else none))))))) else (bif Nat.blt i 50 then (bif Nat.blt i 22 then (bif Nat.blt i 16 then (bif Nat.blt i 13 then (bif Nat.beq i 7 then some (5, 1, false, 724) else none) else (bif Nat.beq i 13 then some (5, 2, false, 725) else none)) else (bif Nat.blt i 19 then (bif Nat.beq i 16 then some (5, 3, false, 726) else none) else (bif Nat.beq i 19 then some (5, 5, false, 728) else none))) else (bif Nat.blt i 33 then (bif Nat.blt i 25 then (bif Nat.beq i 22 then some (5, 7, false, 730) else none) else (bif Nat.beq i 25 then some (5, 0, false, 723) else none)) else (bif Nat.blt i 40 then (bif Nat.beq i 33 then some (5, 4, false, 727) else none) else (bif Nat.blt i 47 then (bif Nat.beq i 40 then some (5, 9, false, 732) else none) else (bif Nat.beq i 47 then some (5, 8, false, 731) else none))))) else (bif Nat.blt i 124 then (bif Nat.blt i 57 then (bif Nat.blt i 53 then (bif Nat.beq i 50 then some (5, 10, false, 733) else none) else (bif Nat.beq i 53 then some (5, 11, false, 734) else none)) else (bif Nat.blt i 118 then (bif Nat.beq i 57 then some (5, 12, false, 735) else none) else (bif Nat.blt i 121 then (bif Nat.beq i 118 then some (5, 6, false, 729) else none) else (bif Nat.beq i 121 then some (5, 13, false, 736) else none)))) else (bif Nat.blt i 136 then (bif Nat.blt i 130 then (bif Nat.beq i 124 then some (5, 14, false, 737) else none) else (bif Nat.beq i 130 then some (5, 15, false, 738) else none)) else (bif Nat.blt i 139 then (bif Nat.beq i 136 then some (5, 16, false, 739) else none) else (bif Nat.blt i 209 then (bif Nat.beq i 139 then some (5, 17, false, 740) else none) else (bif Nat.beq i 209 then some (5, 18, false, 741) else none))))))) else (bif Nat.blt o 7 then (none) else (bif Nat.blt o 8 then (none) else (none))))
/-- a callee: method, is it a nest mate's, place of the link -/
def z_cal (o i : Nat) : Option (Nat × Bool × Nat) := bif Nat.blt o 4 then (bif Nat.blt o 2 then (bif Nat.blt o 1 then (bif Nat.blt i 52 then (bif Nat.beq i 48 then some (4, false, 503) else none) else (bif Nat.blt i 57 then (bif Nat.beq i 52 then some (134, false, 504) else none) else (bif Nat.beq i 57 then some (2, false, 350) else none))) else (bif Nat.blt i 74 then (bif Nat.blt i 67 then (bif Nat.blt i 63 then (bif Nat.beq i 47 then some (0, true, 280) else none) else (bif Nat.beq i 63 then some (16, false, 342) else none)) else (bif Nat.blt i 70 then (bif Nat.beq i 67 then some (6, true, 346) else none) else (bif Nat.beq i 70 then some (14, false, 354) else none))) else (bif Nat.blt i 95 then (bif Nat.blt i 77 then (bif Nat.beq i 74 then some (4, true, 358) else none) else (bif Nat.beq i 77 then some (27, true, 362) else none)) else (bif Nat.blt i 102 then (bif Nat.beq i 95 then some (64, true, 380) else none) else (bif Nat.blt i 106 then (bif Nat.beq i 102 then some (7, true, 381) else none) else (bif Nat.beq i 106 then some (17, false, 385) else none)))))) else (bif Nat.blt o 3 then (bif Nat.blt i 43 then (bif Nat.blt i 35 then (bif Nat.blt i 32 then (bif Nat.beq i 28 then some (22, false, 303) else none) else (bif Nat.beq i 32 then some (23, false, 307) else none)) else (bif Nat.blt i 39 then (bif Nat.beq i 35 then some (21, false, 311) else none) else (bif Nat.beq i 39 then some (61, true, 315) else none))) else (bif Nat.blt i 50 then (bif Nat.blt i 47 then (bif Nat.beq i 43 then some (24, false, 318) else none) else (bif Nat.beq i 47 then some (62, true, 322) else none)) else (bif Nat.blt i 54 then (bif Nat.beq i 50 then some (25, false, 326) else none) else (bif Nat.beq i 54 then some (26, false, 330) else none)))) else (bif Nat.blt i 47 then (bif Nat.beq i 43 then some (28, false, 369) else none) else (bif Nat.beq i 47 then some (10, true, 373) else none)))) else (bif Nat.blt o 6 then (bif Nat.blt o 5 then (bif Nat.blt i 172 then (bif Nat.blt i 116 then (bif Nat.blt i 90 then (bif Nat.blt i 59 then (bif Nat.blt i 55 then (bif Nat.beq i 51 then some (62, false, 549) else none) else (bif Nat.beq i 55 then some (61, false, 325) else none)) else (bif Nat.blt i 72 then (bif Nat.beq i 59 then some (58, false, 428) else none) else (bif Nat.blt i 75 then (bif Nat.beq i 72 then some (59, false, 592) else none) else (bif Nat.beq i 75 then some (54, false, 272) else none)))) else (bif Nat.blt i 100 then (bif Nat.blt i 97 then (bif Nat.beq i 90 then some (1, true, 402) else none) else (bif Nat.beq i 97 then some (3, true, 625) else none)) else (bif Nat.blt i 104 then (bif Nat.beq i 100 then some (2, true, 629) else none) else (bif Nat.blt i 112 then (bif Nat.beq i 104 then some (5, true, 499) else none) else (bif Nat.beq i 112 then some (64, false, 288) else none))))) else (bif Nat.blt i 140 then (bif Nat.blt i 126 then (bif Nat.blt i 123 then (bif Nat.beq i 116 then some (63, false, 558) else none) else (bif Nat.beq i 123 then some (13, true, 651) else none)) else (bif Nat.blt i 130 then (bif Nat.beq i 126 then some (18, true, 394) else none) else (bif Nat.blt i 134 then (bif Nat.beq i 130 then some (15, true, 338) else none) else (bif Nat.beq i 134 then some (60, false, 526) else none)))) else (bif Nat.blt i 157 then (bif Nat.blt i 144 then (bif Nat.beq i 140 then some (20, true, 299) else none) else (bif Nat.beq i 144 then some (21, true, 677) else none)) else (bif Nat.blt i 164 then (bif Nat.beq i 157 then some (56, false, 678) else none) else (bif Nat.blt i 168 then (bif Nat.beq i 164 then some (57, false, 682) else none) else (bif Nat.beq i 168 then some (11, true, 276) else none)))))) else (bif Nat.blt i 238 then (bif Nat.blt i 217 then (bif Nat.blt i 190 then (bif Nat.blt i 187 then (bif Nat.beq i 172 then some (55, false, 516) else none) else (bif Nat.beq i 187 then some (12, true, 510) else none)) else (bif Nat.blt i 211 then (bif Nat.beq i 190 then some (14, true, 515) else none) else (bif Nat.blt i 214 then (bif Nat.beq i 211 then some (19, true, 414) else none) else (bif Nat.beq i 214 then some (9, true, 406) else none)))) else (bif Nat.blt i 224 then (bif Nat.blt i 220 then (bif Nat.beq i 217 then some (4, true, 520) else none) else (bif Nat.beq i 220 then some (27, true, 521) else none)) else (bif Nat.blt i 232 then (bif Nat.beq i 224 then some (8, true, 569) else none) else (bif Nat.blt i 235 then (bif Nat.beq i 232 then some (44, false, 424) else none) else (bif Nat.beq i 235 then some (45, false, 522) else none))))) else (bif Nat.blt i 254 then (bif Nat.blt i 245 then (bif Nat.blt i 242 then (bif Nat.beq i 238 then some (42, false, 545) else none) else (bif Nat.beq i 242 then some (46, false, 550) else none)) else (bif Nat.blt i 247 then (bif Nat.beq i 245 then some (43, false, 554) else none) else (bif Nat.blt i 251 then (bif Nat.beq i 247 then some (53, false, 561) else none) else (bif Nat.beq i 251 then some (48, false, 573) else none)))) else (bif Nat.blt i 260 then (bif Nat.blt i 257 then (bif Nat.beq i 254 then some (49, false, 574) else none) else (bif Nat.beq i 257 then some (50, false, 575) else none)) else (bif Nat.blt i 264 then (bif Nat.beq i 260 then some (51, false, 576) else none) else (bif Nat.blt i 268 then (bif Nat.beq i 264 then some (65, false, 577) else none) else (bif Nat.beq i 268 then some (47, false, 565) else none))))))) else (bif Nat.blt i 127 then (bif Nat.blt i 84 then (bif Nat.blt i 67 then (bif Nat.blt i 43 then (bif Nat.blt i 36 then (bif Nat.beq i 29 then some (67, false, 792) else none) else (bif Nat.beq i 36 then some (74, false, 882) else none)) else (bif Nat.blt i 60 then (bif Nat.beq i 43 then some (76, false, 885) else none) else (bif Nat.blt i 64 then (bif Nat.beq i 60 then some (78, false, 945) else none) else (bif Nat.beq i 64 then some (75, false, 874) else none)))) else (bif Nat.blt i 74 then (bif Nat.blt i 70 then (bif Nat.beq i 67 then some (73, false, 831) else none) else (bif Nat.beq i 70 then some (77, false, 878) else none)) else (bif Nat.blt i 78 then (bif Nat.beq i 74 then some (69, false, 789) else none) else (bif Nat.blt i 81 then (bif Nat.beq i 78 then some (80, false, 835) else none) else (bif Nat.beq i 81 then some (81, false, 870) else none))))) else (bif Nat.blt i 100 then (bif Nat.blt i 90 then (bif Nat.blt i 87 then (bif Nat.beq i 84 then some (68, false, 795) else none) else (bif Nat.beq i 87 then some (70, false, 799) else none)) else (bif Nat.blt i 94 then (bif Nat.beq i 90 then some (90, false, 803) else none) else (bif Nat.blt i 97 then (bif Nat.beq i 94 then some (82, false, 811) else none) else (bif Nat.beq i 97 then some (83, false, 815) else none)))) else (bif Nat.blt i 109 then (bif Nat.blt i 103 then (bif Nat.beq i 100 then some (84, false, 823) else none) else (bif Nat.blt i 106 then (bif Nat.beq i 103 then some (85, false, 827) else none) else (bif Nat.beq i 106 then some (86, false, 846) else none))) else (bif Nat.blt i 112 then (bif Nat.beq i 109 then some (89, false, 854) else none) else (bif Nat.blt i 115 then (bif Nat.beq i 112 then some (87, false, 862) else none) else (bif Nat.beq i 115 then some (88, false, 866) else none)))))) else (bif Nat.blt i 171 then (bif Nat.blt i 153 then (bif Nat.blt i 142 then (bif Nat.blt i 133 then (bif Nat.beq i 127 then some (101, false, 917) else none) else (bif Nat.beq i 133 then some (102, false, 913) else none)) else (bif Nat.blt i 145 then (bif Nat.beq i 142 then some (103, false, 909) else none) else (bif Nat.blt i 149 then (bif Nat.beq i 145 then some (104, false, 921) else none) else (bif Nat.beq i 149 then some (105, false, 905) else none)))) else (bif Nat.blt i 162 then (bif Nat.blt i 156 then (bif Nat.beq i 153 then some (79, false, 941) else none) else (bif Nat.blt i 159 then (bif Nat.beq i 156 then some (109, false, 937) else none) else (bif Nat.beq i 159 then some (111, false, 953) else none))) else (bif Nat.blt i 165 then (bif Nat.beq i 162 then some (114, false, 965) else none) else (bif Nat.blt i 168 then (bif Nat.beq i 165 then some (113, false, 969) else none) else (bif Nat.beq i 168 then some (115, false, 961) else none))))) else (bif Nat.blt i 186 then (bif Nat.blt i 177 then (bif Nat.blt i 174 then (bif Nat.beq i 171 then some (118, false, 981) else none) else (bif Nat.beq i 174 then some (120, false, 989) else none)) else (bif Nat.blt i 180 then (bif Nat.beq i 177 then some (71, false, 1001) else none) else (bif Nat.blt i 183 then (bif Nat.beq i 180 then some (72, false, 1005) else none) else (bif Nat.beq i 183 then some (122, false, 997) else none)))) else (bif Nat.blt i 195 then (bif Nat.blt i 189 then (bif Nat.beq i 186 then some (124, false, 1017) else none) else (bif Nat.blt i 192 then (bif Nat.beq i 189 then some (125, false, 1013) else none) else (bif Nat.beq i 192 then some (127, false, 1025) else none))) else (bif Nat.blt i 215 then (bif Nat.beq i 195 then some (129, false, 1033) else none) else (bif Nat.blt i 219 then (bif Nat.beq i 215 then some (132, false, 1042) else none) else (bif Nat.beq i 219 then some (131, false, 1047) else none)))))))) else (bif Nat.blt o 7 then (none) else (bif Nat.blt o 8 then (none) else (bif Nat.blt i 103 then (bif Nat.blt i 71 then (bif Nat.blt i 42 then (bif Nat.blt i 27 then (bif Nat.blt i 21 then (bif Nat.blt i 17 then (bif Nat.beq i 7 then some (29, false, 588) else none) else (bif Nat.beq i 17 then some (30, false, 614) else none)) else (bif Nat.blt i 24 then (bif Nat.beq i 21 then some (31, false, 621) else none) else (bif Nat.beq i 24 then some (32, false, 633) else none))) else (bif Nat.blt i 34 then (bif Nat.blt i 31 then (bif Nat.beq i 27 then some (34, false, 640) else none) else (bif Nat.beq i 31 then some (35, false, 647) else none)) else (bif Nat.blt i 39 then (bif Nat.beq i 34 then some (36, false, 659) else none) else (bif Nat.beq i 39 then some (37, false, 666) else none)))) else (bif Nat.blt i 55 then (bif Nat.blt i 49 then (bif Nat.blt i 46 then (bif Nat.beq i 42 then some (40, false, 673) else none) else (bif Nat.beq i 46 then some (41, false, 689) else none)) else (bif Nat.blt i 52 then (bif Nat.beq i 49 then some (42, false, 696) else none) else (bif Nat.beq i 52 then some (43, false, 700) else none))) else (bif Nat.blt i 61 then (bif Nat.blt i 58 then (bif Nat.beq i 55 then some (44, false, 704) else none) else (bif Nat.beq i 58 then some (45, false, 708) else none)) else (bif Nat.blt i 64 then (bif Nat.beq i 61 then some (46, false, 712) else none) else (bif Nat.beq i 64 then some (47, false, 716) else none))))) else (bif Nat.blt i 89 then (bif Nat.blt i 83 then (bif Nat.blt i 77 then (bif Nat.blt i 76 then (bif Nat.beq i 71 then some (135, false, 583) else none) else (bif Nat.beq i 76 then some (91, false, 785) else none)) else (bif Nat.blt i 80 then (bif Nat.beq i 77 then some (66, false, 781) else none) else (bif Nat.beq i 80 then some (136, false, 611) else none))) else (bif Nat.blt i 86 then (bif Nat.blt i 84 then (bif Nat.beq i 83 then some (92, false, 807) else none) else (bif Nat.beq i 84 then some (137, false, 618) else none)) else (bif Nat.blt i 87 then (bif Nat.beq i 86 then some (93, false, 819) else none) else (bif Nat.beq i 87 then some (138, false, 630) else none)))) else (bif Nat.blt i 97 then (bif Nat.blt i 93 then (bif Nat.blt i 90 then (bif Nat.beq i 89 then some (94, false, 838) else none) else (bif Nat.beq i 90 then some (33, false, 268) else none)) else (bif Nat.blt i 94 then (bif Nat.beq i 93 then some (95, false, 842) else none) else (bif Nat.beq i 94 then some (139, false, 637) else none))) else (bif Nat.blt i 100 then (bif Nat.blt i 98 then (bif Nat.beq i 97 then some (96, false, 850) else none) else (bif Nat.beq i 98 then some (140, false, 644) else none)) else (bif Nat.blt i 101 then (bif Nat.beq i 100 then some (97, false, 858) else none) else (bif Nat.beq i 101 then some (141, false, 655) else none)))))) else (bif Nat.blt i 130 then (bif Nat.blt i 118 then (bif Nat.blt i 110 then (bif Nat.blt i 106 then (bif Nat.blt i 104 then (bif Nat.beq i 103 then some (98, false, 889) else none) else (bif Nat.beq i 104 then some (142, false, 663) else none)) else (bif Nat.blt i 107 then (bif Nat.beq i 106 then some (99, false, 893) else none) else (bif Nat.beq i 107 then some (38, false, 291) else none))) else (bif Nat.blt i 114 then (bif Nat.blt i 111 then (bif Nat.beq i 110 then some (100, false, 897) else none) else (bif Nat.beq i 111 then some (39, false, 295) else none)) else (bif Nat.blt i 115 then (bif Nat.beq i 114 then some (106, false, 901) else none) else (bif Nat.beq i 115 then some (143, false, 670) else none)))) else (bif Nat.blt i 124 then (bif Nat.blt i 121 then (bif Nat.blt i 119 then (bif Nat.beq i 118 then some (107, false, 925) else none) else (bif Nat.beq i 119 then some (144, false, 686) else none)) else (bif Nat.blt i 122 then (bif Nat.beq i 121 then some (108, false, 929) else none) else (bif Nat.beq i 122 then some (145, false, 693) else none))) else (bif Nat.blt i 127 then (bif Nat.blt i 125 then (bif Nat.beq i 124 then some (110, false, 933) else none) else (bif Nat.beq i 125 then some (146, false, 697) else none)) else (bif Nat.blt i 128 then (bif Nat.beq i 127 then some (112, false, 949) else none) else (bif Nat.beq i 128 then some (147, false, 701) else none))))) else (bif Nat.blt i 143 then (bif Nat.blt i 136 then (bif Nat.blt i 133 then (bif Nat.blt i 131 then (bif Nat.beq i 130 then some (116, false, 957) else none) else (bif Nat.beq i 131 then some (148, false, 705) else none)) else (bif Nat.blt i 134 then (bif Nat.beq i 133 then some (117, false, 973) else none) else (bif Nat.beq i 134 then some (149, false, 709) else none))) else (bif Nat.blt i 139 then (bif Nat.blt i 137 then (bif Nat.beq i 136 then some (119, false, 977) else none) else (bif Nat.beq i 137 then some (150, false, 713) else none)) else (bif Nat.blt i 140 then (bif Nat.beq i 139 then some (121, false, 985) else none) else (bif Nat.beq i 140 then some (48, false, 334) else none)))) else (bif Nat.blt i 151 then (bif Nat.blt i 147 then (bif Nat.blt i 144 then (bif Nat.beq i 143 then some (123, false, 993) else none) else (bif Nat.beq i 144 then some (49, false, 390) else none)) else (bif Nat.blt i 148 then (bif Nat.beq i 147 then some (126, false, 1009) else none) else (bif Nat.beq i 148 then some (50, false, 398) else none))) else (bif Nat.blt i 156 then (bif Nat.blt i 152 then (bif Nat.beq i 151 then some (128, false, 1021) else none) else (bif Nat.beq i 152 then some (51, false, 410) else none)) else (bif Nat.blt i 157 then (bif Nat.beq i 156 then some (130, false, 1029) else none) else (bif Nat.blt i 161 then (bif Nat.beq i 157 then some (52, false, 418) else none) else (bif Nat.beq i 161 then some (133, false, 1037) else none)))))))))))
/-- natives of the JDK that have a row of their own: 1 arraycopy, 2 max, 3 min -/
def z_sp (o i : Nat) : Nat := bif Nat.blt o 4 then (bif Nat.blt o 2 then (bif Nat.blt o 1 then (bif Nat.beq i 42 then 1 else 0) else (bif Nat.blt i 57 then (bif Nat.beq i 51 then 1 else 0) else (bif Nat.blt i 109 then (bif Nat.beq i 57 then 3 else 0) else (bif Nat.beq i 109 then 2 else 0)))) else (bif Nat.blt o 3 then (0) else (bif Nat.blt i 51 then (bif Nat.beq i 37 then 2 else 0) else (bif Nat.beq i 51 then 3 else 0)))) else (bif Nat.blt o 6 then (bif Nat.blt o 5 then (0) else (0)) else (bif Nat.blt o 7 then (0) else (bif Nat.blt o 8 then (0) else (0))))
def z_spv (o i : Nat) : Nat := bif Nat.blt o 4 then (bif Nat.blt o 2 then (bif Nat.blt o 1 then (bif Nat.beq i 42 then 284 else 0) else (bif Nat.blt i 57 then (bif Nat.beq i 51 then 287 else 0) else (bif Nat.blt i 109 then (bif Nat.beq i 57 then 514 else 0) else (bif Nat.beq i 109 then 389 else 0)))) else (bif Nat.blt o 3 then (0) else (bif Nat.blt i 51 then (bif Nat.beq i 37 then 366 else 0) else (bif Nat.beq i 51 then 377 else 0)))) else (bif Nat.blt o 6 then (bif Nat.blt o 5 then (0) else (0)) else (bif Nat.blt o 7 then (0) else (bif Nat.blt o 8 then (0) else (0))))
def z_kl (o i : Nat) : Option (Int64 × Nat) := bif Nat.blt o 4 then (bif Nat.blt o 2 then (bif Nat.blt o 1 then (none) else (none)) else (bif Nat.blt o 3 then (none) else (none))) else (bif Nat.blt o 6 then (bif Nat.blt o 5 then (bif Nat.blt i 230 then (bif Nat.beq i 228 then some (3041, 422) else none) else (bif Nat.blt i 288 then (bif Nat.beq i 230 then some (31, 423) else none) else (bif Nat.beq i 288 then some (1023, 580) else none))) else (bif Nat.blt i 207 then (bif Nat.blt i 203 then (bif Nat.beq i 199 then some (1023, 1050) else none) else (bif Nat.beq i 203 then some (4503599627370496, 1052) else none)) else (bif Nat.blt i 213 then (bif Nat.beq i 207 then some (31, 1046) else none) else (bif Nat.beq i 213 then some (3041, 1041) else none)))) else (bif Nat.blt o 7 then (none) else (bif Nat.blt o 8 then (none) else (none))))
def z_kd (o i : Nat) : Option (UInt64 × Nat) := bif Nat.blt o 4 then (bif Nat.blt o 2 then (bif Nat.blt o 1 then (none) else (none)) else (bif Nat.blt o 3 then (none) else (none))) else (bif Nat.blt o 6 then (bif Nat.blt o 5 then (bif Nat.blt i 292 then (bif Nat.beq i 290 then some (4611686018427387904, 581) else none) else (bif Nat.beq i 292 then some (4841369599423283200, 582) else none)) else (bif Nat.blt i 205 then (bif Nat.beq i 201 then some (4611686018427387904, 1051) else none) else (bif Nat.beq i 205 then some (4841369599423283200, 1053) else none))) else (bif Nat.blt o 7 then (none) else (bif Nat.blt o 8 then (none) else (none))))
def z_ki (o i : Nat) : Option (Int32 × Nat) := bif Nat.blt o 4 then (bif Nat.blt o 2 then (bif Nat.blt o 1 then (none) else (none)) else (bif Nat.blt o 3 then (none) else (none))) else (bif Nat.blt o 6 then (bif Nat.blt o 5 then (none) else (none)) else (bif Nat.blt o 7 then (bif Nat.blt i 266 then (bif Nat.beq i 265 then some (1431655765, 507) else none) else (bif Nat.blt i 267 then (bif Nat.beq i 266 then some (858993459, 508) else none) else (bif Nat.beq i 267 then some (252645135, 509) else none))) else (bif Nat.blt o 8 then (none) else (none))))
/-- where a method makes an exception and throws it: entry of the class, of the text, of the constructor; which exception -/
def z_thr (m pc : Nat) : Option Nat := bif Nat.beq m 58 && Nat.beq pc 4 then some 0 else bif Nat.beq m 59 && Nat.beq pc 4 then some 1 else bif Nat.beq m 60 && Nat.beq pc 9 then some 2 else none
/-- where a method goes on behind its handler of an exception, and the local that takes it -/
def z_han (m e : Nat) : Option (Nat × Nat) := bif Nat.blt e 3 then (bif Nat.blt m 143 then (bif Nat.blt m 139 then (bif Nat.blt m 137 then (bif Nat.blt m 136 then (bif Nat.beq m 135 then bif Nat.blt e 1 then (bif Nat.beq e 0 then some (21, 7) else none) else (bif Nat.beq e 1 then some (25, 7) else none) else none) else (bif Nat.beq m 136 then bif Nat.blt e 1 then (bif Nat.beq e 0 then some (13, 3) else none) else (bif Nat.beq e 1 then some (16, 3) else none) else none)) else (bif Nat.blt m 138 then (bif Nat.beq m 137 then bif Nat.blt e 1 then (bif Nat.beq e 0 then some (13, 3) else none) else (bif Nat.beq e 1 then some (16, 3) else none) else none) else (bif Nat.beq m 138 then bif Nat.beq e 0 then some (13, 3) else none else none))) else (bif Nat.blt m 141 then (bif Nat.blt m 140 then (bif Nat.beq m 139 then bif Nat.beq e 0 then some (15, 4) else none else none) else (bif Nat.beq m 140 then bif Nat.blt e 1 then (bif Nat.beq e 0 then some (13, 3) else none) else (bif Nat.beq e 1 then some (16, 3) else none) else none)) else (bif Nat.blt m 142 then (bif Nat.beq m 141 then bif Nat.blt e 2 then (bif Nat.beq e 0 then some (19, 4) else none) else (bif Nat.beq e 2 then some (15, 4) else none) else none) else (bif Nat.beq m 142 then bif Nat.blt e 1 then (bif Nat.beq e 0 then some (13, 3) else none) else (bif Nat.beq e 1 then some (16, 3) else none) else none)))) else (bif Nat.blt m 147 then (bif Nat.blt m 145 then (bif Nat.blt m 144 then (bif Nat.beq m 143 then bif Nat.beq e 0 then some (12, 2) else none else none) else (bif Nat.beq m 144 then bif Nat.beq e 1 then some (12, 2) else none else none)) else (bif Nat.blt m 146 then (bif Nat.beq m 145 then bif Nat.beq e 0 then some (15, 4) else none else none) else (bif Nat.beq m 146 then bif Nat.beq e 0 then some (15, 4) else none else none))) else (bif Nat.blt m 149 then (bif Nat.blt m 148 then (bif Nat.beq m 147 then bif Nat.beq e 0 then some (13, 3) else none else none) else (bif Nat.beq m 148 then bif Nat.beq e 2 then some (13, 3) else none else none)) else (bif Nat.blt m 150 then (bif Nat.beq m 149 then bif Nat.beq e 0 then some (13, 3) else none else none) else (bif Nat.beq m 150 then bif Nat.beq e 0 then some (15, 4) else none else none))))) else none
def z_cov (m pc : Nat) : Bool := (z_hh m).all (fun x => Nat.ble x.1 pc && Nat.blt pc x.2.1)

/-- words on a stack -/
def z_sl : List AV → Nat
  | [] => 0
  | v :: t => (bif z_cat2 v then 2 else 1) + z_sl t
def z_cal8 (m : Nat) (as r : List AV) : Bool := Nat.blt (z_sl r) 9 && Nat.ble (z_sl as) (z_ml m)
def z_cpo (sp dp n : Int32) (a b : Nat) : Bool := !(decide (sp < 0)) && !(decide (dp < 0)) && !(decide (n < 0)) && Nat.ble (sp.toNatClampNeg + n.toNatClampNeg) a && Nat.ble (dp.toNatClampNeg + n.toNatClampNeg) b
def z_cpy (C : Nat → Nat → Nat → Int32) (f p f' p' sp dp n : Nat) : Nat → Nat → Nat → Int32 := fun h q => if h = f' ∧ q = p' then va_cpy (C f p) (C f' p') sp dp n else C h q
/-- the receiver is of the callee's class -/
def z_rcv (m : Nat) (as : List AV) : Bool := match as with
  | .inr (.inr (.inr (_, p))) :: _ => match z_obj p with
    | some (c, _) => Nat.beq c (z_own m)
    | none => false
  | _ => false


def z_j1 (cnd : ClassFile.Cond) (x : Int32) (t n : Nat) : Nat := match cnd with
  | .eq => if x = 0 then t else n
  | .ne => if x = 0 then n else t
  | .lt => if x < 0 then t else n
  | .ge => if 0 ≤ x then t else n
  | .gt => if 0 < x then t else n
  | .le => if x ≤ 0 then t else n
def z_j2 (cnd : ClassFile.Cond) (x y : Int32) (t n : Nat) : Nat := match cnd with
  | .eq => if x = y then t else n
  | .ne => if x = y then n else t
  | .lt => if x < y then t else n
  | .ge => if y ≤ x then t else n
  | .gt => if y < x then t else n
  | .le => if x ≤ y then t else n
def z_ti (t : Int) : Option Nat := bif decide (0 ≤ t) then some t.toNat else none
def z_tab (pc : Nat) (d lo hi : Int) (offs : Array Int) (x : Int32) : Option Nat :=
  bif decide (x.toInt < lo) || decide (hi < x.toInt) then z_ti ((pc : Int) + d) else match offs[(x.toInt - lo).toNat]? with
    | some o => z_ti ((pc : Int) + o)
    | none => none
def z_lkp (pc : Nat) (d : Int) (ps : Array (Int × Int)) (x : Int32) : Option Nat :=
  bif (ps.toList.zip (ps.toList.drop 1)).all (fun (a, next) => a.1 < next.1) then z_ti ((pc : Int) + Op.lookupswitch.offset ps.toList d x.toInt) else none
def z_nf2 (r : UInt64) (c : Cf) : Option (Cf × List Prop) := some (c, [vf_n64 r])
abbrev z_O : Type := Option (Cf × List Prop)
/-- one instruction that calls nothing and does not return -/
def z_st1 (xs : Nat → Int32) (L : Nat) (o : Nat) (i : Instr) (t : Nat) (cs : Int32) (pc : Nat) (ls : Lc) (st : List AV) (M : Mem) : z_O :=
  match i with
  | .aload k => match z_get ls k with
    | some (.inr (.inr (.inr r))) => some ((pc + 2, ls, .inr (.inr (.inr r)) :: st, M), [])
    | _ => none
  | .aload_n k => match z_get ls k.val with
    | some (.inr (.inr (.inr r))) => some ((pc + 1, ls, .inr (.inr (.inr r)) :: st, M), [])
    | _ => none
  | .iload k => match z_get ls k with
    | some (.inl x) => some ((pc + 2, ls, .inl x :: st, M), [])
    | _ => none
  | .iload_n k => match z_get ls k.val with
    | some (.inl x) => some ((pc + 1, ls, .inl x :: st, M), [])
    | _ => none
  | .lload k => match z_get ls k with
    | some (.inr (.inl x)) => some ((pc + 2, ls, .inr (.inl x) :: st, M), [])
    | _ => none
  | .lload_n k => match z_get ls k.val with
    | some (.inr (.inl x)) => some ((pc + 1, ls, .inr (.inl x) :: st, M), [])
    | _ => none
  | .dload k => match z_get ls k with
    | some (.inr (.inr (.inl x))) => some ((pc + 2, ls, .inr (.inr (.inl x)) :: st, M), [])
    | _ => none
  | .dload_n k => match z_get ls k.val with
    | some (.inr (.inr (.inl x))) => some ((pc + 1, ls, .inr (.inr (.inl x)) :: st, M), [])
    | _ => none
  | .istore k => match st with
    | .inl x :: r => some ((pc + 2, z_st1w ls k (.inl x), r, M), [])
    | _ => none
  | .istore_n k => match st with
    | .inl x :: r => some ((pc + 1, z_st1w ls k.val (.inl x), r, M), [])
    | _ => none
  | .astore k => match st with
    | .inr (.inr (.inr x)) :: r => some ((pc + 2, z_st1w ls k (.inr (.inr (.inr x))), r, M), [])
    | _ => none
  | .astore_n k => match st with
    | .inr (.inr (.inr x)) :: r => some ((pc + 1, z_st1w ls k.val (.inr (.inr (.inr x))), r, M), [])
    | _ => none
  | .lstore k => match st with
    | .inr (.inl x) :: r => some ((pc + 2, z_st2w ls k (.inr (.inl x)), r, M), [])
    | _ => none
  | .lstore_n k => match st with
    | .inr (.inl x) :: r => some ((pc + 1, z_st2w ls k.val (.inr (.inl x)), r, M), [])
    | _ => none
  | .dstore k => match st with
    | .inr (.inr (.inl x)) :: r => some ((pc + 2, z_st2w ls k (.inr (.inr (.inl x))), r, M), [])
    | _ => none
  | .dstore_n k => match st with
    | .inr (.inr (.inl x)) :: r => some ((pc + 1, z_st2w ls k.val (.inr (.inr (.inl x))), r, M), [])
    | _ => none
  | .iconst _ => some ((pc + 1, ls, .inl cs :: st, M), [])
  | .bipush _ => some ((pc + 2, ls, .inl cs :: st, M), [])
  | .sipush _ => some ((pc + 3, ls, .inl cs :: st, M), [])
  | .ldc_w k => match z_ki o k with
    | some (v, _) => some ((pc + 3, ls, .inl v :: st, M), [])
    | none => none
  | .ldc2_w k => match z_kl o k with
    | some (v, _) => some ((pc + 3, ls, .inr (.inl v) :: st, M), [])
    | none => match z_kd o k with
      | some (v, _) => some ((pc + 3, ls, .inr (.inr (.inl v)) :: st, M), [])
      | none => none
  | .lconst k => some ((pc + 1, ls, .inr (.inl (Int64.ofNat k.val)) :: st, M), [])
  | .dconst k => match k.val with
    | 0 => some ((pc + 1, ls, .inr (.inr (.inl 0)) :: st, M), [])
    | _ => some ((pc + 1, ls, .inr (.inr (.inl 0x3ff0000000000000)) :: st, M), [])
  | .iinc k _ => match z_get ls k with
    | some (.inl x) => some ((pc + 3, z_st1w ls k (.inl (x + cs)), st, M), [])
    | _ => none
  | .goto _ => some ((t, ls, st, M), [])
  | .ifCond c _ => match st with
    | .inl x :: r => some ((z_j1 c x t (pc + 3), ls, r, M), [])
    | _ => none
  | .if_icmp c _ => match st with
    | .inl y :: .inl x :: r => some ((z_j2 c x y t (pc + 3), ls, r, M), [])
    | _ => none
  | .tableswitch d lo hi offs => match st with
    | .inl x :: r => match z_tab pc d lo hi offs x with
      | some q => some ((q, ls, r, M), [])
      | none => none
    | _ => none
  | .lookupswitch d ps => match st with
    | .inl x :: r => match z_lkp pc d ps x with
      | some q => some ((q, ls, r, M), [])
      | none => none
    | _ => none
  | .iadd => match st with
    | .inl y :: .inl x :: r => some ((pc + 1, ls, .inl (x + y) :: r, M), [])
    | _ => none
  | .isub => match st with
    | .inl y :: .inl x :: r => some ((pc + 1, ls, .inl (x - y) :: r, M), [])
    | _ => none
  | .imul => match st with
    | .inl y :: .inl x :: r => some ((pc + 1, ls, .inl (x * y) :: r, M), [])
    | _ => none
  | .idiv => match st with
    | .inl y :: .inl x :: r => some ((pc + 1, ls, .inl (x / y) :: r, M), [¬ y = 0])
    | _ => none
  | .irem => match st with
    | .inl y :: .inl x :: r => some ((pc + 1, ls, .inl (x - x / y * y) :: r, M), [¬ y = 0])
    | _ => none
  | .ineg => match st with
    | .inl x :: r => some ((pc + 1, ls, .inl (-x) :: r, M), [])
    | _ => none
  | .iand => match st with
    | .inl y :: .inl x :: r => some ((pc + 1, ls, .inl (x &&& y) :: r, M), [])
    | _ => none
  | .ior => match st with
    | .inl y :: .inl x :: r => some ((pc + 1, ls, .inl (x ||| y) :: r, M), [])
    | _ => none
  | .ixor => match st with
    | .inl y :: .inl x :: r => some ((pc + 1, ls, .inl (x ^^^ y) :: r, M), [])
    | _ => none
  | .ishl => match st with
    | .inl y :: .inl x :: r => some ((pc + 1, ls, .inl (x <<< (y &&& 31)) :: r, M), [])
    | _ => none
  | .ishr => match st with
    | .inl y :: .inl x :: r => some ((pc + 1, ls, .inl (x >>> (y &&& 31)) :: r, M), [])
    | _ => none
  | .iushr => match st with
    | .inl y :: .inl x :: r => some ((pc + 1, ls, .inl ((x.toUInt32 >>> (y.toUInt32 &&& Int32.toUInt32 31)).toInt32) :: r, M), [])
    | _ => none
  | .i2l => match st with
    | .inl x :: r => some ((pc + 1, ls, .inr (.inl x.toInt64) :: r, M), [])
    | _ => none
  | .i2d => match st with
    | .inl x :: r => some ((pc + 1, ls, .inr (.inr (.inl (FP.i2d x))) :: r, M), [])
    | _ => none
  | .d2l => match st with
    | .inr (.inr (.inl x)) :: r => some ((pc + 1, ls, .inr (.inl (FP.d2l x)) :: r, M), [])
    | _ => none
  | .ladd => match st with
    | .inr (.inl y) :: .inr (.inl x) :: r => some ((pc + 1, ls, .inr (.inl (x + y)) :: r, M), [])
    | _ => none
  | .lsub => match st with
    | .inr (.inl y) :: .inr (.inl x) :: r => some ((pc + 1, ls, .inr (.inl (x - y)) :: r, M), [])
    | _ => none
  | .lmul => match st with
    | .inr (.inl y) :: .inr (.inl x) :: r => some ((pc + 1, ls, .inr (.inl (x * y)) :: r, M), [])
    | _ => none
  | .lshl => match st with
    | .inl y :: .inr (.inl x) :: r => some ((pc + 1, ls, .inr (.inl (x <<< (y.toInt64 &&& 63))) :: r, M), [])
    | _ => none
  | .lcmp => match st with
    | .inr (.inl y) :: .inr (.inl x) :: r => some ((pc + 1, ls, .inl (lg_cmp x y) :: r, M), [])
    | _ => none
  | .dcmp c => match st with
    | .inr (.inr (.inl y)) :: .inr (.inr (.inl x)) :: r => some ((pc + 1, ls, .inl (Op.cmpValue (FP.dcmp x y) c) :: r, M), [])
    | _ => none
  | .dmul => match st with
    | .inr (.inr (.inl y)) :: .inr (.inr (.inl x)) :: r => z_nf2 (FP.dmul x y) (pc + 1, ls, .inr (.inr (.inl (FP.dmul x y))) :: r, M)
    | _ => none
  | .dsub => match st with
    | .inr (.inr (.inl y)) :: .inr (.inr (.inl x)) :: r => z_nf2 (FP.dsub x y) (pc + 1, ls, .inr (.inr (.inl (FP.dsub x y))) :: r, M)
    | _ => none
  | .ddiv => match st with
    | .inr (.inr (.inl y)) :: .inr (.inr (.inl x)) :: r => z_nf2 (FP.ddiv x y) (pc + 1, ls, .inr (.inr (.inl (FP.ddiv x y))) :: r, M)
    | _ => none
  | .dup => match st with
    | a :: r => bif z_cat2 a then none else some ((pc + 1, ls, a :: a :: r, M), [])
    | _ => none
  | .dup2 => match st with
    | b :: a :: r => bif z_cat2 b || z_cat2 a then none else some ((pc + 1, ls, b :: a :: b :: a :: r, M), [])
    | _ => none
  | .arraylength => match st with
    | .inr (.inr (.inr (f, p))) :: r => match z_obj p with
      | none => some ((pc + 1, ls, .inl (bif Nat.beq p 41 then Int32.ofNat L else Int32.ofNat (z_sz p)) :: r, M), [])
      | some _ => none
    | _ => none
  | .iaload => match st with
    | .inl i :: .inr (.inr (.inr (f, p))) :: r => match z_obj p with
      | some _ => none
      | none => match z_ak p with
        | 0 => bif Nat.beq p 41 then some ((pc + 1, ls, .inl (xs i.toNatClampNeg) :: r, M), [z_inb i L = true]) else some ((pc + 1, ls, .inl (z_ri M f p i.toNatClampNeg) :: r, M), [z_inb i (z_sz p) = true])
        | _ => none
    | _ => none
  | .iastore => match st with
    | .inl x :: .inl i :: .inr (.inr (.inr (f, p))) :: r => match z_obj p with
      | some _ => none
      | none => match z_ak p with
        | 0 => bif Nat.beq p 41 then none else some ((pc + 1, ls, r, z_wi M f p i.toNatClampNeg x), [z_inb i (z_sz p) = true])
        | _ => none
    | _ => none
  | .laload => match st with
    | .inl i :: .inr (.inr (.inr (f, p))) :: r => bif Nat.beq p 40 then some ((pc + 1, ls, .inr (.inl (M.2.2 1)) :: r, M), [z_inb i 1 = true]) else none
    | _ => none
  | .lastore => match st with
    | .inr (.inl x) :: .inl i :: .inr (.inr (.inr (f, p))) :: r => bif Nat.beq p 40 then some ((pc + 1, ls, r, (M.1, M.2.1, vp_updL M.2.2 1 x)), [z_inb i 1 = true]) else none
    | _ => none
  | .aaload => match st with
    | .inl i :: .inr (.inr (.inr (f, p))) :: r => match z_ak p with
      | 2 => some ((pc + 1, ls, aR (2 + i.toNatClampNeg) 0 :: r, M), [z_inb i 6 = true])
      | 3 => some ((pc + 1, ls, aR (7 * f + i.toNatClampNeg) 11 :: r, M), [z_inb i 7 = true])
      | _ => none
    | _ => none
  | .getfield k => match st with
    | .inr (.inr (.inr (f, p))) :: r => match z_fld o k, z_obj p with
      | some (c, s, _), some (c', n) => bif Nat.beq c c' && Nat.blt s n then some ((pc + 3, ls, z_rd M f p s :: r, M), []) else none
      | _, _ => none
    | _ => none
  | .putfield k => match st with
    | .inl x :: .inr (.inr (.inr (f, p))) :: r => match z_fld o k, z_obj p with
      | some (c, s, _), some (c', n) => bif Nat.beq c c' && Nat.blt s n then match z_rd M f p s with
          | .inl _ => bif z_fb p s then some ((pc + 3, ls, r, z_wi M f p s x), [z_isB x = true]) else some ((pc + 3, ls, r, z_wi M f p s x), [])
          | _ => none
        else none
      | _, _ => none
    | .inr (.inl x) :: .inr (.inr (.inr (f, p))) :: r => match z_fld o k, z_obj p with
      | some (c, s, _), some (c', n) => bif Nat.beq c c' && Nat.beq c 5 && Nat.beq s 18 && Nat.beq p 32 then some ((pc + 3, ls, r, (M.1, M.2.1, vp_updL M.2.2 0 x)), []) else none
      | _, _ => none
    | _ => none
  | .invokestatic k => match z_sp o k with
    | 1 => match st with
      | .inl n :: .inl dp :: .inr (.inr (.inr (f', p'))) :: .inl sp :: .inr (.inr (.inr (f, p))) :: r => match z_obj p, z_obj p' with
        | none, none => bif Nat.beq (z_ak p) 0 && Nat.beq (z_ak p') 0 && Nat.blt p 32 && Nat.blt p' 32 && Nat.blt (z_sl r) 9 then
            some ((pc + 3, ls, r, (z_cpy M.1 f p f' p' sp.toNatClampNeg dp.toNatClampNeg n.toNatClampNeg, M.2)), [z_cpo sp dp n (z_sz p) (z_sz p') = true]) else none
        | _, _ => none
      | _ => none
    | 2 => match st with
      | .inl y :: .inl x :: r => bif Nat.blt (z_sl r) 9 then some ((pc + 3, ls, .inl (if x < y then y else x) :: r, M), []) else none
      | _ => none
    | 3 => match st with
      | .inl y :: .inl x :: r => bif Nat.blt (z_sl r) 9 then some ((pc + 3, ls, .inl (if y < x then y else x) :: r, M), []) else none
      | _ => none
    | _ => none
  | _ => none
def z_blk (xs : Nat → Int32) (L m : Nat) : Nat → Cf → z_O
  | 0, c => some (c, [])
  | n + 1, (pc, ls, st, M) => match z_ins m pc with
    | none => none
    | some (i, t, cs) => match z_st1 xs L (z_own m) i t cs pc ls st M with
      | none => none
      | some (c', O) => match z_blk xs L m n c' with
        | none => none
        | some (c2, O2) => some (c2, O ++ O2)
/-- what a method answers: nothing, a value, or an exception (0: an argument, 1: a state, 2: an index) -/
abbrev z_Rs : Type := Option AV ⊕ Nat
def z_Ex (xs : Nat → Int32) (L : Nat) : Nat → Nat → Cf → z_Rs → Mem → Nat → Prop
  | 0, _, _, _, _, _ => False
  | n + 1, m, (pc, ls, st, M), o, M', k => match z_ins m pc with
    | none => st = [] ∧ ∃ e, z_thr m pc = some e ∧ o = .inr e ∧ M' = M ∧ k = 1
    | some (i, t, cs) => match i with
      | .return_ => z_rt m = 0 ∧ st = [] ∧ o = .inl none ∧ M' = M ∧ k = 0
      | .ireturn => ∃ x, st = [.inl x] ∧ o = .inl (some (.inl x)) ∧ M' = M ∧ k = 0 ∧ (z_rt m = 1 ∨ (z_rt m = 2 ∧ z_isB x = true))
      | .lreturn => ∃ x, st = [.inr (.inl x)] ∧ o = .inl (some (.inr (.inl x))) ∧ M' = M ∧ k = 0 ∧ z_rt m = 3
      | .dreturn => ∃ x, st = [.inr (.inr (.inl x))] ∧ o = .inl (some (.inr (.inr (.inl x)))) ∧ M' = M ∧ k = 0 ∧ z_rt m = 4
      | .invokevirtual j => ∃ (m' : Nat) (b : Bool) (w : Nat) (as r : List AV) (o1 : z_Rs) (M1 : Mem) (k1 k2 : Nat), z_cal (z_own m) j = some (m', b, w) ∧ z_stc m' = false ∧ st = as.reverse ++ r ∧ as.length = z_na m' ∧ z_rcv m' as = true ∧ z_cal8 m' as r = true ∧
          z_Ex xs L n m' (0, z_pad (z_ml m') (z_entL as), [], M) o1 M1 k1 ∧ k = k1 + k2 ∧ (match o1 with
            | .inl v => z_Ex xs L n m (pc + 3, ls, v.toList ++ r, M1) o M' k2
            | .inr e => z_hh m = [] ∧ o = .inr e ∧ M' = M1 ∧ k2 = 0 ∨ ∃ h s, z_han m e = some (h, s) ∧ z_cov m pc = true ∧ z_Ex xs L n m (h, z_set (z_clr ls s) s none, [], M1) o M' k2)
      | .invokestatic j => match z_sp (z_own m) j with
        | l + 1 => ∃ c' O, z_st1 xs L (z_own m) i t cs pc ls st M = some (c', O) ∧ z_all O ∧ z_Ex xs L n m c' o M' k
        | 0 => ∃ (m' : Nat) (b : Bool) (w : Nat) (as r : List AV) (o1 : z_Rs) (M1 : Mem) (k1 k2 : Nat), z_cal (z_own m) j = some (m', b, w) ∧ z_stc m' = true ∧ st = as.reverse ++ r ∧ as.length = z_na m' ∧ z_cal8 m' as r = true ∧
          z_Ex xs L n m' (0, z_pad (z_ml m') (z_entL as), [], M) o1 M1 k1 ∧ k = k1 + k2 ∧ (match o1 with
            | .inl v => z_Ex xs L n m (pc + 3, ls, v.toList ++ r, M1) o M' k2
            | .inr e => (z_hh m = [] ∧ o = .inr e ∧ M' = M1 ∧ k2 = 0))
      | _ => ∃ c' O, z_st1 xs L (z_own m) i t cs pc ls st M = some (c', O) ∧ z_all O ∧ z_Ex xs L n m c' o M' k
end
section
/-! THE WORLD: the cells of both systems as one list, out of the memory -/
abbrev z_ad : Type := Nat → Nat → Nat
def cv (ad : z_ad) : AV → Value
  | .inl x => .int x
  | .inr (.inl x) => .long x
  | .inr (.inr (.inl x)) => .double x
  | .inr (.inr (.inr r)) => .ref (ad r.1 r.2)
theorem cv_cat (ad : z_ad) (v : AV) : (cv ad v).category = if z_cat2 v = true then 2 else 1 := by
  rcases v with x | x | x | x <;> rfl
def z_pts : List (Nat × Nat) :=
  (List.range 8).flatMap (fun f => [(f, 0), (f, 1), (f, 2), (f, 3), (f, 4), (f, 5), (f, 6), (f, 7), (f, 8), (f, 9), (f, 10), (f, 12)]) ++
  ((List.range 56).map (fun f => (f, 11)) ++ [(0, 16), (0, 17), (0, 18), (0, 19), (0, 20), (0, 21), (0, 22), (0, 23), (0, 24), (0, 32), (0, 33), (0, 34), (0, 35), (0, 36), (0, 37), (0, 40)])
def z_ix (f p : Nat) : Nat := z_pts.findIdx (fun q => Nat.beq q.1 f && Nat.beq q.2 p)
theorem z_ix_all : (List.range 56).all (fun f => (List.range 41).all (fun p => !(z_val f p) || decide (z_pts[z_ix f p]? = some (f, p)))) = true := by decide +kernel
theorem z_val_lt {f p : Nat} (h : z_val f p = true) : f < 56 ∧ p < 41 := by
  unfold z_val at h
  split at h <;> first | (have h1 := Nat.ble_eq.mp h; omega) | (have h1 := Nat.eq_of_beq_eq_true h; omega) | cases h
theorem z_ix_ok {f p : Nat} (h : z_val f p = true) : z_pts[z_ix f p]? = some (f, p) := by
  obtain ⟨h1, h2⟩ := z_val_lt h
  have h3 := List.all_eq_true.mp (List.all_eq_true.mp z_ix_all f (List.mem_range.mpr h1)) p (List.mem_range.mpr h2)
  rw [h] at h3
  simpa using h3
theorem z_pts_ix : (List.range z_pts.length).all (fun i => match z_pts[i]? with | some r => decide (z_ix r.1 r.2 = i) | none => true) = true := by decide +kernel
theorem z_pts_at {i : Nat} {r : Nat × Nat} (h : z_pts[i]? = some r) : z_ix r.1 r.2 = i := by
  have h1 := List.all_eq_true.mp z_pts_ix i (List.mem_range.mpr (List.getElem?_eq_some_iff.mp h).1)
  rw [h] at h1
  exact of_decide_eq_true h1
theorem z_pts_inj {i j : Nat} {r : Nat × Nat} (h : z_pts[i]? = some r) (h2 : z_pts[j]? = some r) : i = j := (z_pts_at h).symm.trans (z_pts_at h2)
theorem z_pts_val : z_pts.all (fun q => z_val q.1 q.2) = true := by decide +kernel
/-- an entry of the world -/
def z_en (ad : z_ad) (cs : Nat → ClassId) (M : Mem) (f p : Nat) : va_E := match z_obj p with
  | some (c, n) => .inr (c, (List.range n).map fun k => cv ad (z_rd M f p k))
  | none => match z_ak p with
    | 0 => .inl (cs 0, z_sz p, .inl (fun k => z_ri M f p k))
    | 1 => .inl (cs 1, 1, .inr (.inl (fun _ => M.2.2 1)))
    | 2 => .inl (cs 2, 6, .inr (.inr (.inr (.inr (fun k => some (ad (2 + k) 0))))))
    | _ => .inl (cs 3, 7, .inr (.inr (.inr (.inr (fun k => some (ad (7 * f + k) 11))))))
def z_W (ad : z_ad) (cs : Nat → ClassId) (M : Mem) : va_W := z_pts.map fun q => (ad q.1 q.2, z_en ad cs M q.1 q.2)
theorem z_W_get {ad : z_ad} {cs : Nat → ClassId} {M : Mem} {f p : Nat} (h : z_val f p = true) : (z_W ad cs M)[z_ix f p]? = some (ad f p, z_en ad cs M f p) := by
  unfold z_W
  rw [List.getElem?_map, z_ix_ok h]
  rfl
theorem z_W_set {ad : z_ad} {cs : Nat → ClassId} {M M' : Mem} {f p : Nat} {e : va_E} (h : z_val f p = true) (he : z_en ad cs M' f p = e) (ho : ∀ f' p', z_val f' p' = true → (f', p') ≠ (f, p) → z_en ad cs M f' p' = z_en ad cs M' f' p') :
    (z_W ad cs M).set (z_ix f p) (ad f p, e) = z_W ad cs M' := by
  apply List.ext_getElem?
  intro j
  rw [List.getElem?_set]
  unfold z_W
  have hix := z_ix_ok h
  by_cases hj : z_ix f p = j
  · subst hj
    rw [if_pos rfl]
    have hl : z_ix f p < z_pts.length := (List.getElem?_eq_some_iff.mp hix).1
    rw [if_pos (by rw [List.length_map]; exact hl), List.getElem?_map, hix, ← he]
    rfl
  · rw [if_neg hj, List.getElem?_map, List.getElem?_map]
    cases hq : z_pts[j]? with
    | none => rfl
    | some q =>
      have hne : (q.1, q.2) ≠ (f, p) := by
        intro e0
        have e1 : z_pts[j]? = some (f, p) := by rw [hq, ← e0]
        exact hj (z_pts_inj hix e1)
      show some (ad q.1 q.2, z_en ad cs M q.1 q.2) = some (ad q.1 q.2, z_en ad cs M' q.1 q.2)
      rw [ho q.1 q.2 (List.all_eq_true.mp z_pts_val q (List.mem_of_getElem? hq)) hne]
/-- the addresses are apart and new -/
def z_AD (A : Nat → Prop) (ad : z_ad) : Prop := (∀ f p f' p', z_val f p = true → z_val f' p' = true → ad f p = ad f' p' → (f, p) = (f', p')) ∧ ∀ f p, z_val f p = true → A (ad f p)
theorem z_W_D {A : Nat → Prop} {ad : z_ad} {cs : Nat → ClassId} {M : Mem} (h : z_AD A ad) : va_D A (z_W ad cs M) := by
  have hv : ∀ (i : Nat) (q : Nat × va_E), (z_W ad cs M)[i]? = some q → ∃ r, z_pts[i]? = some r ∧ z_val r.1 r.2 = true ∧ q.1 = ad r.1 r.2 := by
    intro i q hq
    unfold z_W at hq
    rw [List.getElem?_map] at hq
    cases hr : z_pts[i]? with
    | none => rw [hr] at hq; cases hq
    | some r =>
      rw [hr] at hq
      cases hq
      exact ⟨r, rfl, List.all_eq_true.mp z_pts_val r (List.mem_of_getElem? hr), rfl⟩
  refine ⟨fun i j x y hx hy e => ?_, fun i x hx => ?_⟩
  · obtain ⟨r, r1, r2, r3⟩ := hv i x hx
    obtain ⟨t, t1, t2, t3⟩ := hv j y hy
    have e2 := h.1 _ _ _ _ r2 t2 (by rw [← r3, ← t3]; exact e)
    have e3 : r = t := e2
    subst e3
    exact z_pts_inj r1 t1
  · obtain ⟨r, r1, r2, r3⟩ := hv i x hx
    rw [r3]
    exact h.2 _ _ r2
-- locals
/-- the known locals as the kit has them -/
def z_asc (ad : z_ad) : Nat → Lc → List (Nat × Value)
  | _, [] => []
  | i, some v :: t => (i, cv ad v) :: z_asc ad (i + 1) t
  | i, none :: t => z_asc ad (i + 1) t
theorem z_asc_in {ad : z_ad} : ∀ (ls : Lc) (i : Nat) (q : Nat × Value), q ∈ z_asc ad i ls ↔ ∃ j v, z_get ls j = some v ∧ q = (i + j, cv ad v)
  | [], i, q => by
    constructor
    · intro h; cases h
    · rintro ⟨j, v, h, -⟩; cases h
  | o :: t, i, q => by
    have ih := z_asc_in (ad := ad) t (i + 1) q
    cases o with
    | none =>
      show q ∈ z_asc ad (i + 1) t ↔ _
      rw [ih]
      constructor
      · rintro ⟨j, v, h, e⟩
        exact ⟨j + 1, v, h, by rw [e]; congr 1; omega⟩
      · rintro ⟨j, v, h, e⟩
        cases j with
        | zero => cases h
        | succ j => exact ⟨j, v, h, by rw [e]; congr 1; omega⟩
    | some w =>
      show q ∈ (i, cv ad w) :: z_asc ad (i + 1) t ↔ _
      rw [List.mem_cons, ih]
      constructor
      · rintro (e | ⟨j, v, h, e⟩)
        · exact ⟨0, w, rfl, e⟩
        · exact ⟨j + 1, v, h, by rw [e]; congr 1; omega⟩
      · rintro ⟨j, v, h, e⟩
        cases j with
        | zero => cases h; exact Or.inl e
        | succ j => exact Or.inr ⟨j, v, h, by rw [e]; congr 1; omega⟩
theorem z_get_set : ∀ (ls : Lc) (k : Nat) (o : Option AV) (j : Nat) (v : AV), z_get (z_set ls k o) j = some v → (j = k ∧ o = some v) ∨ (j ≠ k ∧ z_get ls j = some v)
  | [], _, _, _, _, h => by cases h
  | x :: t, 0, o, 0, v, h => Or.inl ⟨rfl, h⟩
  | x :: t, 0, o, j + 1, v, h => Or.inr ⟨by omega, h⟩
  | x :: t, k + 1, o, 0, v, h => Or.inr ⟨by omega, h⟩
  | x :: t, k + 1, o, j + 1, v, h => by
    rcases z_get_set t k o j v h with ⟨e1, e2⟩ | ⟨e1, e2⟩
    · exact Or.inl ⟨by omega, e2⟩
    · exact Or.inr ⟨by omega, e2⟩
theorem z_get_clr {ls : Lc} {k j : Nat} {v : AV} (h : z_get (z_clr ls k) j = some v) : z_get ls j = some v ∧ ¬ (j + 1 = k ∧ z_cat2 v = true) := by
  cases k with
  | zero => exact ⟨h, fun e => by omega⟩
  | succ k =>
    unfold z_clr at h
    dsimp only at h
    split at h
    · rename_i w hw
      cases hc : z_cat2 w with
      | true =>
        rw [hc] at h
        rcases z_get_set _ _ _ _ _ h with ⟨-, e2⟩ | ⟨e1, e2⟩
        · cases e2
        · exact ⟨e2, fun e => e1 (by omega)⟩
      | false =>
        rw [hc] at h
        refine ⟨h, fun e => ?_⟩
        have : j = k := by omega
        subst this
        have h' : z_get ls j = some v := h
        rw [hw] at h'
        cases h'
        rw [hc] at e
        cases e.2
    · rename_i hn
      refine ⟨h, fun e => ?_⟩
      have : j = k := by omega
      subst this
      rw [hn] at h
      cases h
theorem z_has_mem {LS : Array Slot} {n : Nat} {l l' : List (Nat × Value)} (h : lv_has LS n l) (hm : ∀ q ∈ l', q ∈ l) : lv_has LS n l' := ⟨h.1, h.2.1, fun q hq => h.2.2 q (hm q hq)⟩
theorem z_store1 {ad : z_ad} {LS' : Array Slot} {n k : Nat} {ls : Lc} {v : AV} (h : lv_has LS' n ((k, cv ad v) :: (z_asc ad 0 ls).filter (fun q => !(q.1 == k) && !(q.1 + 1 == k && q.2.category == 2)))) : lv_has LS' n (z_asc ad 0 (z_st1w ls k v)) := by
  refine z_has_mem h fun q hq => ?_
  obtain ⟨j, w, h1, h2⟩ := (z_asc_in _ _ _).mp hq
  unfold z_st1w at h1
  rcases z_get_set _ _ _ _ _ h1 with ⟨e1, e2⟩ | ⟨e1, e2⟩
  · subst e1
    cases e2
    rw [h2]
    simp
  · obtain ⟨g1, g2⟩ := z_get_clr e2
    refine List.mem_cons.mpr (Or.inr (List.mem_filter.mpr ⟨(z_asc_in _ _ _).mpr ⟨j, w, g1, h2⟩, ?_⟩))
    rw [h2]
    have hz : 0 + j = j := by omega
    simp only [hz]
    have a1 : (j == k) = false := by simpa using e1
    rw [a1]
    by_cases hk : j + 1 = k
    · have a2 : z_cat2 w = false := by
        cases hc : z_cat2 w
        · rfl
        · exact absurd ⟨hk, hc⟩ g2
      rw [cv_cat, a2]
      simp
    · have a3 : (j + 1 == k) = false := by simpa using hk
      rw [a3]
      rfl
theorem z_store2 {ad : z_ad} {LS' : Array Slot} {n k : Nat} {ls : Lc} {v : AV} (h : lv_has LS' n ((k, cv ad v) :: (z_asc ad 0 ls).filter (fun q => !(q.1 == k) && (!(q.1 == k + 1) && !(q.1 + 1 == k && q.2.category == 2))))) : lv_has LS' n (z_asc ad 0 (z_st2w ls k v)) := by
  refine z_has_mem h fun q hq => ?_
  obtain ⟨j, w, h1, h2⟩ := (z_asc_in _ _ _).mp hq
  unfold z_st2w at h1
  rcases z_get_set _ _ _ _ _ h1 with ⟨-, e2⟩ | ⟨e0, h1⟩
  · cases e2
  · rcases z_get_set _ _ _ _ _ h1 with ⟨e1, e2⟩ | ⟨e1, e2⟩
    · subst e1
      cases e2
      rw [h2]
      simp
    · obtain ⟨g1, g2⟩ := z_get_clr e2
      refine List.mem_cons.mpr (Or.inr (List.mem_filter.mpr ⟨(z_asc_in _ _ _).mpr ⟨j, w, g1, h2⟩, ?_⟩))
      rw [h2]
      have hz : 0 + j = j := by omega
      simp only [hz]
      have a1 : (j == k) = false := by simpa using e1
      have a4 : (j == k + 1) = false := by simpa using e0
      rw [a1, a4]
      by_cases hk : j + 1 = k
      · have a2 : z_cat2 w = false := by
          cases hc : z_cat2 w
          · rfl
          · exact absurd ⟨hk, hc⟩ g2
        rw [cv_cat, a2]
        simp
      · have a3 : (j + 1 == k) = false := by simpa using hk
        rw [a3]
        rfl
theorem z_store0 {ad : z_ad} {LS' : Array Slot} {n k : Nat} {ls : Lc} {V : Value} (h : lv_has LS' n ((k, V) :: (z_asc ad 0 ls).filter (fun q => !(q.1 == k) && !(q.1 + 1 == k && q.2.category == 2)))) : lv_has LS' n (z_asc ad 0 (z_set (z_clr ls k) k none)) := by
  refine z_has_mem h fun q hq => ?_
  obtain ⟨j, w, h1, h2⟩ := (z_asc_in _ _ _).mp hq
  rcases z_get_set _ _ _ _ _ h1 with ⟨e1, e2⟩ | ⟨e1, e2⟩
  · cases e2
  · obtain ⟨g1, g2⟩ := z_get_clr e2
    refine List.mem_cons.mpr (Or.inr (List.mem_filter.mpr ⟨(z_asc_in _ _ _).mpr ⟨j, w, g1, h2⟩, ?_⟩))
    rw [h2]
    have hz : 0 + j = j := by omega
    simp only [hz]
    have a1 : (j == k) = false := by simpa using e1
    rw [a1]
    by_cases hk : j + 1 = k
    · have a2 : z_cat2 w = false := by
        cases hc : z_cat2 w
        · rfl
        · exact absurd ⟨hk, hc⟩ g2
      rw [cv_cat, a2]
      simp
    · have a3 : (j + 1 == k) = false := by simpa using hk
      rw [a3]
      rfl
theorem z_at {ad : z_ad} {LS : Array Slot} {n k : Nat} {ls : Lc} {v : AV} (h : lv_has LS n (z_asc ad 0 ls)) (hg : z_get ls k = some v) : LS[k]? = some (.val (cv ad v)) := by
  have h1 := h.2.2 (k, cv ad v) ((z_asc_in _ _ _).mpr ⟨k, v, hg, by rw [Nat.zero_add]⟩)
  exact h1
-- references stay good
theorem z_okL_get : ∀ {ls : Lc} {k : Nat} {v : AV}, z_okL ls = true → z_get ls k = some v → z_okv v = true
  | x :: t, 0, v, h, hg => by
    have e : x = some v := hg
    subst e
    have h' : (z_okv v && z_okL t) = true := h
    exact (Bool.and_eq_true_iff.mp h').1
  | x :: t, k + 1, v, h, hg => by
    refine z_okL_get (ls := t) (k := k) ?_ hg
    cases x with
    | none => exact h
    | some w =>
      have h' : (z_okv w && z_okL t) = true := h
      exact (Bool.and_eq_true_iff.mp h').2
theorem z_okL_set : ∀ {ls : Lc} {k : Nat} {o : Option AV}, z_okL ls = true → (∀ v, o = some v → z_okv v = true) → z_okL (z_set ls k o) = true
  | [], _, _, h, _ => h
  | x :: t, 0, o, h, ho => by
    have ht : z_okL t = true := by
      cases x with
      | none => exact h
      | some w =>
        have h' : (z_okv w && z_okL t) = true := h
        exact (Bool.and_eq_true_iff.mp h').2
    cases o with
    | none => exact ht
    | some w =>
      show (z_okv w && z_okL t) = true
      rw [ho w rfl, ht]
      rfl
  | x :: t, k + 1, o, h, ho => by
    cases x with
    | none => exact z_okL_set (ls := t) (k := k) h ho
    | some w =>
      have h' : (z_okv w && z_okL t) = true := h
      show (z_okv w && z_okL (z_set t k o)) = true
      rw [(Bool.and_eq_true_iff.mp h').1, z_okL_set (Bool.and_eq_true_iff.mp h').2 ho]
      rfl
theorem z_okL_clr {ls : Lc} {k : Nat} (h : z_okL ls = true) : z_okL (z_clr ls k) = true := by
  cases k with
  | zero => exact h
  | succ k =>
    unfold z_clr
    dsimp only
    split
    · rename_i v hv
      cases z_cat2 v
      · exact h
      · exact z_okL_set h (fun _ e => by cases e)
    · exact h
theorem z_okL_1 {ls : Lc} {k : Nat} {v : AV} (h : z_okL ls = true) (hv : z_okv v = true) : z_okL (z_st1w ls k v) = true := z_okL_set (z_okL_clr h) (fun w e => by cases e; exact hv)
theorem z_okL_2 {ls : Lc} {k : Nat} {v : AV} (h : z_okL ls = true) (hv : z_okv v = true) : z_okL (z_st2w ls k v) = true := z_okL_set (z_okL_set (z_okL_clr h) (fun w e => by cases e; exact hv)) (fun w e => by cases e)

-- what a store does to the entries
theorem z_val_m {f p : Nat} (h : z_val f p = true) (hp : Nat.blt p 32 = false) : f = 0 := by
  unfold z_val at h
  split at h <;> first | exact Nat.eq_of_beq_eq_true h | (exact absurd hp (by decide)) | cases h
theorem z_ri_wi {M : Mem} {f p k f' p' k' : Nat} {v : Int32} (h : z_val f p = true) (h' : z_val f' p' = true) : z_ri (z_wi M f p k v) f' p' k' = if f' = f ∧ p' = p ∧ k' = k then v else z_ri M f' p' k' := by
  have hm := z_val_m h
  have hm' := z_val_m h'
  unfold z_ri z_wi
  cases e : Nat.blt p 32 <;> cases e' : Nat.blt p' 32
  · have a := hm e
    have a' := hm' e'
    subst a; subst a'
    show up2 M.2.1 p k v p' k' = _
    unfold up2
    by_cases c : p' = p
    · subst c
      rw [if_pos rfl]
      unfold upd
      by_cases d : k' = k
      · rw [if_pos d, if_pos ⟨rfl, rfl, d⟩]
      · rw [if_neg d, if_neg (fun q => d q.2.2)]
        rfl
    · rw [if_neg c, if_neg (fun q => c q.2.1)]
      rfl
  · have c : ¬ p' = p := fun q => by rw [q, e] at e'; cases e'
    rw [if_neg (fun q => c q.2.1)]
    rfl
  · have c : ¬ p' = p := fun q => by rw [q, e] at e'; cases e'
    rw [if_neg (fun q => c q.2.1)]
    rfl
  · show up3 M.1 f p k v f' p' k' = _
    unfold up3
    by_cases b : f' = f
    · subst b
      rw [if_pos rfl]
      unfold up2
      by_cases c : p' = p
      · subst c
        rw [if_pos rfl]
        unfold upd
        by_cases d : k' = k
        · rw [if_pos d, if_pos ⟨rfl, rfl, d⟩]
        · rw [if_neg d, if_neg (fun q => d q.2.2)]
          rfl
      · rw [if_neg c, if_neg (fun q => c q.2.1)]
        rfl
    · rw [if_neg b, if_neg (fun q => b q.1)]
      rfl
theorem z_wi_L {M : Mem} {f p k : Nat} {v : Int32} : (z_wi M f p k v).2.2 = M.2.2 := by
  unfold z_wi
  cases Nat.blt p 32 <;> rfl
theorem z_rd_wi {M : Mem} {f p k f' p' k' : Nat} {v y : Int32} (h : z_val f p = true) (h' : z_val f' p' = true) (hy : z_rd M f p k = .inl y) : z_rd (z_wi M f p k v) f' p' k' = if f' = f ∧ p' = p ∧ k' = k then .inl v else z_rd M f' p' k' := by
  unfold z_rd at hy ⊢
  rw [z_wi_L, z_ri_wi h h']
  cases hr : z_rk f' p' k' with
  | some r =>
    have c : ¬ (f' = f ∧ p' = p ∧ k' = k) := by
      rintro ⟨rfl, rfl, rfl⟩
      rw [hr] at hy
      dsimp only at hy
      subst hy
      revert hr
      unfold z_rk
      repeat' split
      all_goals (intro q; cases q)
    simp only [if_neg c]
  | none =>
    dsimp only
    by_cases c : f' = f ∧ p' = p ∧ k' = k
    · rw [if_pos c, if_pos c]
      obtain ⟨rfl, rfl, rfl⟩ := c
      rw [hr] at hy
      dsimp only at hy
      cases e : (Nat.beq p' 32 && Nat.beq k' 18)
      · rfl
      · rw [e] at hy; cases hy
    · rw [if_neg c, if_neg c]
/-- a cell of ints, written at a place -/
theorem z_en_arr {ad : z_ad} {cs : Nat → ClassId} {M : Mem} {f p k : Nat} {v : Int32} (h : z_val f p = true) (ho : z_obj p = none) (ha : z_ak p = 0) :
    z_en ad cs (z_wi M f p k v) f p = .inl (cs 0, z_sz p, .inl (upd (fun j => z_ri M f p j) k v)) := by
  unfold z_en
  rw [ho]
  dsimp only
  rw [ha]
  show (Sum.inl (cs 0, z_sz p, Sum.inl (fun j => z_ri (z_wi M f p k v) f p j)) : va_E) = _
  refine congrArg (fun g => (Sum.inl (cs 0, z_sz p, Sum.inl g) : va_E)) (funext fun j => ?_)
  rw [z_ri_wi h h]
  unfold upd
  by_cases d : j = k
  · rw [if_pos ⟨rfl, rfl, d⟩, if_pos d]
  · rw [if_neg (fun q => d q.2.2), if_neg d]
theorem z_en_ne {ad : z_ad} {cs : Nat → ClassId} {M M' : Mem} {f' p' : Nat} (hi : ∀ k, z_ri M' f' p' k = z_ri M f' p' k) (hd : ∀ k, z_rd M' f' p' k = z_rd M f' p' k) (hl : M'.2.2 1 = M.2.2 1) : z_en ad cs M f' p' = z_en ad cs M' f' p' := by
  unfold z_en
  simp only [hi, hd, hl]
theorem z_en_obj {ad : z_ad} {cs : Nat → ClassId} {M : Mem} {f p k c n : Nat} {v y : Int32} (h : z_val f p = true) (ho : z_obj p = some (c, n)) (hy : z_rd M f p k = .inl y) (hk : k < n) :
    z_en ad cs (z_wi M f p k v) f p = .inr (c, ((List.range n).map fun j => cv ad (z_rd M f p j)).set k (.int v)) := by
  unfold z_en
  rw [ho]
  dsimp only
  congr 2
  apply List.ext_getElem?
  intro j
  rw [List.getElem?_set, List.getElem?_map, List.getElem?_map]
  by_cases hj : k = j
  · subst hj
    rw [if_pos rfl, if_pos (by simpa using hk), List.getElem?_range hk]
    show some (cv ad (z_rd (z_wi M f p k v) f p k)) = _
    rw [z_rd_wi h h hy, if_pos ⟨rfl, rfl, rfl⟩]
    rfl
  · rw [if_neg hj]
    cases hq : (List.range n)[j]? with
    | none => rfl
    | some q =>
      have e : q = j := by
        have h1 := (List.getElem?_eq_some_iff.mp hq).2
        simpa using h1.symm
      subst e
      show some (cv ad (z_rd (z_wi M f p k v) f p q)) = some (cv ad (z_rd M f p q))
      rw [z_rd_wi h h hy, if_neg (fun w => hj w.2.2.symm)]
theorem z_wi_ne {ad : z_ad} {cs : Nat → ClassId} {M : Mem} {f p k f' p' : Nat} {v : Int32} (h : z_val f p = true) (h' : z_val f' p' = true) (hne : (f', p') ≠ (f, p)) : z_en ad cs M f' p' = z_en ad cs (z_wi M f p k v) f' p' := by
  have hx : ∀ k' : Nat, ¬ (f' = f ∧ p' = p ∧ k' = k) := fun k' q => hne (by rw [q.1, q.2.1])
  refine z_en_ne (fun j => by rw [z_ri_wi h h', if_neg (hx j)]) (fun j => ?_) (by rw [z_wi_L])
  unfold z_rd
  rw [z_wi_L, z_ri_wi h h', if_neg (hx j)]
end
section

/-! ONE STEP IS SOUND: an instruction as the interpreter does it is what the machine does -/
def z_tys (cs : Nat → ClassId) : List (ClassId × FieldType) := [(cs 0, .int), (cs 1, .long), (cs 2, .object RX1), (cs 3, .array .int)]
def z_isM : Cond → Bool
  | .fieldLinkNest .. => true
  | .methodLinkNest .. => true
  | .castable .. => true
  | .declares _ => true
  | _ => false
def z_good : List Cond := lw_tbl.filter goodWord
def z_misc : List Cond := lw_tbl.filter z_isM
/-- what every state of the run knows -/
def z_cx (D : va_G) (cs : Nat → ClassId) (A : Nat → Prop) (b L : Nat) (xs : Nat → Int32) (sa : Nat → Nat) (U : State) : Prop :=
  va_K D vwCl (z_tys cs) U ∧ vx_Zq Bundle.tN "UNASSIGNED_STACK" Bundle.steD A U U.heap ∧ vx_Zq Bundle.tN "SUPPRESSED_SENTINEL" Bundle.listD A U U.heap ∧ (∀ w ∈ z_misc, va_Nw w U) ∧
  vk_R RX4 273 "out of range, or the buffer is no plan" (sa 0) U ∧ vk_R RX4 280 "the state does not allow this" (sa 1) U ∧ vk_R RX4 285 "there is no such setting" (sa 2) U ∧
  va_Nc "java/lang/IllegalStateException" "java/lang/IllegalArgumentException" U ∧ va_Nc "java/lang/IllegalArgumentException" "java/lang/IndexOutOfBoundsException" U ∧
  va_X b L xs U U.heap ∧ b < U.heap.size ∧ ¬ A b
theorem z_nw_warm {w : Cond} {s U : State} (hm : z_isM w = true) (hW : s.WarmedH U.vm) (h : va_Nw w s) : va_Nw w U := by
  cases w <;> first | exact va_Nw.warmF hW h | exact va_Nw.warmM hW h | exact va_Nw.warmC hW h | exact va_Nw.warmD hW h | cases hm
theorem z_X_kept {b L : Nat} {xs : Nat → Int32} {s U : State} {H : Heap} (hvm : s.vm.Alike U.vm) (h : va_X b L xs s H) : va_X b L xs U H := by
  obtain ⟨scr, h1, h2, h3, h4, h5⟩ := h
  refine ⟨scr, h1, ?_, h3, h4, h5⟩
  exact State.isArrayOf_alike hvm h2
theorem z_cx_moved {D : va_G} {cs : Nat → ClassId} {A : Nat → Prop} {b L : Nat} {xs : Nat → Int32} {sa : Nat → Nat} {s U : State} {locs : List Loc} (hW : s.WarmedH U.vm) (hS : va_S A s.heap U.heap locs) (h : z_cx D cs A b L xs sa s) : z_cx D cs A b L xs sa U := by
  obtain ⟨h1, h2, h3, h4, h5, h6, h7, h8, h9, h10, h11, h12⟩ := h
  refine ⟨va_K.moved hW.alike h1, vx_Zq.moved hW.alike (h2.kept hS.2.1), vx_Zq.moved hW.alike (h3.kept hS.2.1), fun w hw => z_nw_warm (List.mem_filter.mp hw).2 hW (h4 w hw), vk_R.warm hW h5, vk_R.warm hW h6, vk_R.warm hW h7, h8.moved hW.alike, h9.moved hW.alike, ?_, Nat.lt_of_lt_of_le h11 hS.1, h12⟩
  obtain ⟨scr, g1, g2⟩ := z_X_kept hW.alike h10
  exact ⟨scr, by rw [hS.2.1 b h11 h12]; exact g1, g2⟩
-- the tables' check
def z_sw : Instr → Bool
  | .tableswitch .. => true
  | .lookupswitch .. => true
  | _ => false
def z_il : Instr → Nat
  | .aload _ => 2
  | .iload _ => 2
  | .lload _ => 2
  | .dload _ => 2
  | .istore _ => 2
  | .astore _ => 2
  | .lstore _ => 2
  | .dstore _ => 2
  | .bipush _ => 2
  | .sipush _ => 3
  | .ldc_w _ => 3
  | .ldc2_w _ => 3
  | .iinc _ _ => 3
  | .goto _ => 3
  | .ifCond _ _ => 3
  | .if_icmp _ _ => 3
  | .getfield _ => 3
  | .putfield _ => 3
  | .invokevirtual _ => 3
  | .invokestatic _ => 3
  | .invokespecial _ => 3
  | _ => 1
def z_ccB (pc : Nat) (i : Instr) (t : Nat) (cs : Int32) : Bool := match i with
  | .iconst n => decide (Int32.ofInt n = cs)
  | .bipush n => decide ((Int8.ofInt n).toInt32 = cs)
  | .sipush n => decide ((Int16.ofInt n).toInt32 = cs)
  | .iinc _ n => decide (Int32.ofInt n = cs)
  | .goto off => decide ((pc : Int) + off = (t : Int))
  | .ifCond _ off => decide ((pc : Int) + off = (t : Int))
  | .if_icmp _ off => decide ((pc : Int) + off = (t : Int))
  | _ => true
def z_fw (o k c s : Nat) (n : Bool) : Cond := bif n then .fieldLinkNest (z_on o) k (z_T c s).1 (z_T c s).2.1 (z_T c s).2.2.1 "IslandReserve" else .fieldLink (z_on o) k (z_T c s).1 (z_T c s).2.1 (z_T c s).2.2.1
/-- is the word w the v-th of the tables -/
def z_isW (v : Nat) (w : Cond) : Bool := match lw_tbl[v]? with
  | some x => decide (x = w)
  | none => false
def z_mw (o k m : Nat) (n : Bool) : Cond := bif n then .methodLinkNest (z_on o) k (z_y m) "IslandReserve" else .methodLink (z_on o) k (z_y m)
def z_codeW (m : Nat) : Cond := match z_hh m with
  | [] => .code (z_y m) (z_b m) (z_ml m) (z_ret m)
  | h => .codeWith (z_y m) (z_b m) (z_ml m) (z_ret m) h

def z_pcode (m : Nat) : Nat := bif Nat.blt m 76 then (bif Nat.blt m 38 then (bif Nat.blt m 19 then (bif Nat.blt m 9 then (bif Nat.blt m 4 then (bif Nat.blt m 2 then (bif Nat.blt m 1 then (283) else (405)) else (bif Nat.blt m 3 then (353) else (628))) else (bif Nat.blt m 6 then (bif Nat.blt m 5 then (361) else (502)) else (bif Nat.blt m 7 then (349) else (bif Nat.blt m 8 then (384) else (572))))) else (bif Nat.blt m 14 then (bif Nat.blt m 11 then (bif Nat.blt m 10 then (409) else (376)) else (bif Nat.blt m 12 then (279) else (bif Nat.blt m 13 then (513) else (654)))) else (bif Nat.blt m 16 then (bif Nat.blt m 15 then (357) else (341)) else (bif Nat.blt m 17 then (345) else (bif Nat.blt m 18 then (388) else (397)))))) else (bif Nat.blt m 28 then (bif Nat.blt m 23 then (bif Nat.blt m 21 then (bif Nat.blt m 20 then (417) else (302)) else (bif Nat.blt m 22 then (314) else (306))) else (bif Nat.blt m 25 then (bif Nat.blt m 24 then (310) else (321)) else (bif Nat.blt m 26 then (329) else (bif Nat.blt m 27 then (333) else (365))))) else (bif Nat.blt m 33 then (bif Nat.blt m 30 then (bif Nat.blt m 29 then (372) else (591)) else (bif Nat.blt m 31 then (617) else (bif Nat.blt m 32 then (624) else (636)))) else (bif Nat.blt m 35 then (bif Nat.blt m 34 then (271) else (643)) else (bif Nat.blt m 36 then (650) else (bif Nat.blt m 37 then (662) else (669))))))) else (bif Nat.blt m 57 then (bif Nat.blt m 47 then (bif Nat.blt m 42 then (bif Nat.blt m 40 then (bif Nat.blt m 39 then (294) else (298)) else (bif Nat.blt m 41 then (676) else (692))) else (bif Nat.blt m 44 then (bif Nat.blt m 43 then (548) else (557)) else (bif Nat.blt m 45 then (427) else (bif Nat.blt m 46 then (525) else (553))))) else (bif Nat.blt m 52 then (bif Nat.blt m 49 then (bif Nat.blt m 48 then (568) else (337)) else (bif Nat.blt m 50 then (393) else (bif Nat.blt m 51 then (401) else (413)))) else (bif Nat.blt m 54 then (bif Nat.blt m 53 then (421) else (564)) else (bif Nat.blt m 55 then (275) else (bif Nat.blt m 56 then (519) else (681)))))) else (bif Nat.blt m 66 then (bif Nat.blt m 61 then (bif Nat.blt m 59 then (bif Nat.blt m 58 then (685) else (430)) else (bif Nat.blt m 60 then (594) else (528))) else (bif Nat.blt m 63 then (bif Nat.blt m 62 then (317) else (324)) else (bif Nat.blt m 64 then (560) else (bif Nat.blt m 65 then (290) else (579))))) else (bif Nat.blt m 71 then (bif Nat.blt m 68 then (bif Nat.blt m 67 then (784) else (794)) else (bif Nat.blt m 69 then (798) else (bif Nat.blt m 70 then (791) else (802)))) else (bif Nat.blt m 73 then (bif Nat.blt m 72 then (1004) else (1008)) else (bif Nat.blt m 74 then (834) else (bif Nat.blt m 75 then (884) else (877)))))))) else (bif Nat.blt m 114 then (bif Nat.blt m 95 then (bif Nat.blt m 85 then (bif Nat.blt m 80 then (bif Nat.blt m 78 then (bif Nat.blt m 77 then (888) else (881)) else (bif Nat.blt m 79 then (948) else (944))) else (bif Nat.blt m 82 then (bif Nat.blt m 81 then (837) else (873)) else (bif Nat.blt m 83 then (814) else (bif Nat.blt m 84 then (818) else (826))))) else (bif Nat.blt m 90 then (bif Nat.blt m 87 then (bif Nat.blt m 86 then (830) else (849)) else (bif Nat.blt m 88 then (865) else (bif Nat.blt m 89 then (869) else (857)))) else (bif Nat.blt m 92 then (bif Nat.blt m 91 then (806) else (788)) else (bif Nat.blt m 93 then (810) else (bif Nat.blt m 94 then (822) else (841)))))) else (bif Nat.blt m 104 then (bif Nat.blt m 99 then (bif Nat.blt m 97 then (bif Nat.blt m 96 then (845) else (853)) else (bif Nat.blt m 98 then (861) else (892))) else (bif Nat.blt m 101 then (bif Nat.blt m 100 then (896) else (900)) else (bif Nat.blt m 102 then (920) else (bif Nat.blt m 103 then (916) else (912))))) else (bif Nat.blt m 109 then (bif Nat.blt m 106 then (bif Nat.blt m 105 then (924) else (908)) else (bif Nat.blt m 107 then (904) else (bif Nat.blt m 108 then (928) else (932)))) else (bif Nat.blt m 111 then (bif Nat.blt m 110 then (940) else (936)) else (bif Nat.blt m 112 then (956) else (bif Nat.blt m 113 then (952) else (972))))))) else (bif Nat.blt m 133 then (bif Nat.blt m 123 then (bif Nat.blt m 118 then (bif Nat.blt m 116 then (bif Nat.blt m 115 then (968) else (964)) else (bif Nat.blt m 117 then (960) else (976))) else (bif Nat.blt m 120 then (bif Nat.blt m 119 then (984) else (980)) else (bif Nat.blt m 121 then (992) else (bif Nat.blt m 122 then (988) else (1000))))) else (bif Nat.blt m 128 then (bif Nat.blt m 125 then (bif Nat.blt m 124 then (996) else (1020)) else (bif Nat.blt m 126 then (1016) else (bif Nat.blt m 127 then (1012) else (1028)))) else (bif Nat.blt m 130 then (bif Nat.blt m 129 then (1024) else (1036)) else (bif Nat.blt m 131 then (1032) else (bif Nat.blt m 132 then (1049) else (1045)))))) else (bif Nat.blt m 142 then (bif Nat.blt m 137 then (bif Nat.blt m 135 then (bif Nat.blt m 134 then (1040) else (506)) else (bif Nat.blt m 136 then (585) else (613))) else (bif Nat.blt m 139 then (bif Nat.blt m 138 then (620) else (632)) else (bif Nat.blt m 140 then (639) else (bif Nat.blt m 141 then (646) else (657))))) else (bif Nat.blt m 147 then (bif Nat.blt m 144 then (bif Nat.blt m 143 then (665) else (672)) else (bif Nat.blt m 145 then (688) else (bif Nat.blt m 146 then (695) else (699)))) else (bif Nat.blt m 149 then (bif Nat.blt m 148 then (703) else (707)) else (bif Nat.blt m 150 then (711) else (bif Nat.blt m 151 then (715) else (0))))))))
def z_pinit (m : Nat) : Nat := bif Nat.blt m 76 then (bif Nat.blt m 38 then (bif Nat.blt m 19 then (bif Nat.blt m 9 then (bif Nat.blt m 4 then (bif Nat.blt m 2 then (bif Nat.blt m 1 then (76) else (76)) else (bif Nat.blt m 3 then (76) else (76))) else (bif Nat.blt m 6 then (bif Nat.blt m 5 then (76) else (76)) else (bif Nat.blt m 7 then (76) else (bif Nat.blt m 8 then (76) else (76))))) else (bif Nat.blt m 14 then (bif Nat.blt m 11 then (bif Nat.blt m 10 then (76) else (76)) else (bif Nat.blt m 12 then (75) else (bif Nat.blt m 13 then (75) else (75)))) else (bif Nat.blt m 16 then (bif Nat.blt m 15 then (75) else (75)) else (bif Nat.blt m 17 then (75) else (bif Nat.blt m 18 then (75) else (75)))))) else (bif Nat.blt m 28 then (bif Nat.blt m 23 then (bif Nat.blt m 21 then (bif Nat.blt m 20 then (75) else (78)) else (bif Nat.blt m 22 then (78) else (78))) else (bif Nat.blt m 25 then (bif Nat.blt m 24 then (78) else (78)) else (bif Nat.blt m 26 then (78) else (bif Nat.blt m 27 then (78) else (79))))) else (bif Nat.blt m 33 then (bif Nat.blt m 30 then (bif Nat.blt m 29 then (79) else (74)) else (bif Nat.blt m 31 then (74) else (bif Nat.blt m 32 then (74) else (74)))) else (bif Nat.blt m 35 then (bif Nat.blt m 34 then (74) else (74)) else (bif Nat.blt m 36 then (74) else (bif Nat.blt m 37 then (74) else (74))))))) else (bif Nat.blt m 57 then (bif Nat.blt m 47 then (bif Nat.blt m 42 then (bif Nat.blt m 40 then (bif Nat.blt m 39 then (74) else (74)) else (bif Nat.blt m 41 then (74) else (74))) else (bif Nat.blt m 44 then (bif Nat.blt m 43 then (74) else (74)) else (bif Nat.blt m 45 then (74) else (bif Nat.blt m 46 then (74) else (74))))) else (bif Nat.blt m 52 then (bif Nat.blt m 49 then (bif Nat.blt m 48 then (74) else (74)) else (bif Nat.blt m 50 then (74) else (bif Nat.blt m 51 then (74) else (74)))) else (bif Nat.blt m 54 then (bif Nat.blt m 53 then (74) else (74)) else (bif Nat.blt m 55 then (74) else (bif Nat.blt m 56 then (74) else (74)))))) else (bif Nat.blt m 66 then (bif Nat.blt m 61 then (bif Nat.blt m 59 then (bif Nat.blt m 58 then (74) else (74)) else (bif Nat.blt m 60 then (74) else (74))) else (bif Nat.blt m 63 then (bif Nat.blt m 62 then (74) else (74)) else (bif Nat.blt m 64 then (74) else (bif Nat.blt m 65 then (74) else (74))))) else (bif Nat.blt m 71 then (bif Nat.blt m 68 then (bif Nat.blt m 67 then (80) else (80)) else (bif Nat.blt m 69 then (80) else (bif Nat.blt m 70 then (80) else (80)))) else (bif Nat.blt m 73 then (bif Nat.blt m 72 then (80) else (80)) else (bif Nat.blt m 74 then (80) else (bif Nat.blt m 75 then (80) else (80)))))))) else (bif Nat.blt m 114 then (bif Nat.blt m 95 then (bif Nat.blt m 85 then (bif Nat.blt m 80 then (bif Nat.blt m 78 then (bif Nat.blt m 77 then (80) else (80)) else (bif Nat.blt m 79 then (80) else (80))) else (bif Nat.blt m 82 then (bif Nat.blt m 81 then (80) else (80)) else (bif Nat.blt m 83 then (80) else (bif Nat.blt m 84 then (80) else (80))))) else (bif Nat.blt m 90 then (bif Nat.blt m 87 then (bif Nat.blt m 86 then (80) else (80)) else (bif Nat.blt m 88 then (80) else (bif Nat.blt m 89 then (80) else (80)))) else (bif Nat.blt m 92 then (bif Nat.blt m 91 then (80) else (80)) else (bif Nat.blt m 93 then (80) else (bif Nat.blt m 94 then (80) else (80)))))) else (bif Nat.blt m 104 then (bif Nat.blt m 99 then (bif Nat.blt m 97 then (bif Nat.blt m 96 then (80) else (80)) else (bif Nat.blt m 98 then (80) else (80))) else (bif Nat.blt m 101 then (bif Nat.blt m 100 then (80) else (80)) else (bif Nat.blt m 102 then (80) else (bif Nat.blt m 103 then (80) else (80))))) else (bif Nat.blt m 109 then (bif Nat.blt m 106 then (bif Nat.blt m 105 then (80) else (80)) else (bif Nat.blt m 107 then (80) else (bif Nat.blt m 108 then (80) else (80)))) else (bif Nat.blt m 111 then (bif Nat.blt m 110 then (80) else (80)) else (bif Nat.blt m 112 then (80) else (bif Nat.blt m 113 then (80) else (80))))))) else (bif Nat.blt m 133 then (bif Nat.blt m 123 then (bif Nat.blt m 118 then (bif Nat.blt m 116 then (bif Nat.blt m 115 then (80) else (80)) else (bif Nat.blt m 117 then (80) else (80))) else (bif Nat.blt m 120 then (bif Nat.blt m 119 then (80) else (80)) else (bif Nat.blt m 121 then (80) else (bif Nat.blt m 122 then (80) else (80))))) else (bif Nat.blt m 128 then (bif Nat.blt m 125 then (bif Nat.blt m 124 then (80) else (80)) else (bif Nat.blt m 126 then (80) else (bif Nat.blt m 127 then (80) else (80)))) else (bif Nat.blt m 130 then (bif Nat.blt m 129 then (80) else (80)) else (bif Nat.blt m 131 then (80) else (bif Nat.blt m 132 then (80) else (80)))))) else (bif Nat.blt m 142 then (bif Nat.blt m 137 then (bif Nat.blt m 135 then (bif Nat.blt m 134 then (80) else (87)) else (bif Nat.blt m 136 then (73) else (73))) else (bif Nat.blt m 139 then (bif Nat.blt m 138 then (73) else (73)) else (bif Nat.blt m 140 then (73) else (bif Nat.blt m 141 then (73) else (73))))) else (bif Nat.blt m 147 then (bif Nat.blt m 144 then (bif Nat.blt m 143 then (73) else (73)) else (bif Nat.blt m 145 then (73) else (bif Nat.blt m 146 then (73) else (73)))) else (bif Nat.blt m 149 then (bif Nat.blt m 148 then (73) else (73)) else (bif Nat.blt m 150 then (73) else (bif Nat.blt m 151 then (73) else (0))))))))
def z_pkind (m : Nat) : Nat := bif Nat.blt m 76 then (bif Nat.blt m 38 then (bif Nat.blt m 19 then (bif Nat.blt m 9 then (bif Nat.blt m 4 then (bif Nat.blt m 2 then (bif Nat.blt m 1 then (282) else (404)) else (bif Nat.blt m 3 then (352) else (627))) else (bif Nat.blt m 6 then (bif Nat.blt m 5 then (360) else (501)) else (bif Nat.blt m 7 then (348) else (bif Nat.blt m 8 then (383) else (571))))) else (bif Nat.blt m 14 then (bif Nat.blt m 11 then (bif Nat.blt m 10 then (408) else (375)) else (bif Nat.blt m 12 then (278) else (bif Nat.blt m 13 then (512) else (653)))) else (bif Nat.blt m 16 then (bif Nat.blt m 15 then (356) else (340)) else (bif Nat.blt m 17 then (344) else (bif Nat.blt m 18 then (387) else (396)))))) else (bif Nat.blt m 28 then (bif Nat.blt m 23 then (bif Nat.blt m 21 then (bif Nat.blt m 20 then (416) else (301)) else (bif Nat.blt m 22 then (313) else (305))) else (bif Nat.blt m 25 then (bif Nat.blt m 24 then (309) else (320)) else (bif Nat.blt m 26 then (328) else (bif Nat.blt m 27 then (332) else (364))))) else (bif Nat.blt m 33 then (bif Nat.blt m 30 then (bif Nat.blt m 29 then (371) else (589)) else (bif Nat.blt m 31 then (615) else (bif Nat.blt m 32 then (622) else (634)))) else (bif Nat.blt m 35 then (bif Nat.blt m 34 then (269) else (641)) else (bif Nat.blt m 36 then (648) else (bif Nat.blt m 37 then (660) else (667))))))) else (bif Nat.blt m 57 then (bif Nat.blt m 47 then (bif Nat.blt m 42 then (bif Nat.blt m 40 then (bif Nat.blt m 39 then (292) else (296)) else (bif Nat.blt m 41 then (674) else (690))) else (bif Nat.blt m 44 then (bif Nat.blt m 43 then (546) else (555)) else (bif Nat.blt m 45 then (425) else (bif Nat.blt m 46 then (523) else (551))))) else (bif Nat.blt m 52 then (bif Nat.blt m 49 then (bif Nat.blt m 48 then (566) else (335)) else (bif Nat.blt m 50 then (391) else (bif Nat.blt m 51 then (399) else (411)))) else (bif Nat.blt m 54 then (bif Nat.blt m 53 then (419) else (563)) else (bif Nat.blt m 55 then (274) else (bif Nat.blt m 56 then (518) else (680)))))) else (bif Nat.blt m 66 then (bif Nat.blt m 61 then (bif Nat.blt m 59 then (bif Nat.blt m 58 then (684) else (429)) else (bif Nat.blt m 60 then (593) else (527))) else (bif Nat.blt m 63 then (bif Nat.blt m 62 then (316) else (323)) else (bif Nat.blt m 64 then (559) else (bif Nat.blt m 65 then (289) else (578))))) else (bif Nat.blt m 71 then (bif Nat.blt m 68 then (bif Nat.blt m 67 then (782) else (793)) else (bif Nat.blt m 69 then (797) else (bif Nat.blt m 70 then (790) else (801)))) else (bif Nat.blt m 73 then (bif Nat.blt m 72 then (1003) else (1007)) else (bif Nat.blt m 74 then (833) else (bif Nat.blt m 75 then (883) else (876)))))))) else (bif Nat.blt m 114 then (bif Nat.blt m 95 then (bif Nat.blt m 85 then (bif Nat.blt m 80 then (bif Nat.blt m 78 then (bif Nat.blt m 77 then (887) else (880)) else (bif Nat.blt m 79 then (947) else (943))) else (bif Nat.blt m 82 then (bif Nat.blt m 81 then (836) else (872)) else (bif Nat.blt m 83 then (813) else (bif Nat.blt m 84 then (817) else (825))))) else (bif Nat.blt m 90 then (bif Nat.blt m 87 then (bif Nat.blt m 86 then (829) else (848)) else (bif Nat.blt m 88 then (864) else (bif Nat.blt m 89 then (868) else (856)))) else (bif Nat.blt m 92 then (bif Nat.blt m 91 then (805) else (786)) else (bif Nat.blt m 93 then (808) else (bif Nat.blt m 94 then (820) else (839)))))) else (bif Nat.blt m 104 then (bif Nat.blt m 99 then (bif Nat.blt m 97 then (bif Nat.blt m 96 then (843) else (851)) else (bif Nat.blt m 98 then (859) else (890))) else (bif Nat.blt m 101 then (bif Nat.blt m 100 then (894) else (898)) else (bif Nat.blt m 102 then (919) else (bif Nat.blt m 103 then (915) else (911))))) else (bif Nat.blt m 109 then (bif Nat.blt m 106 then (bif Nat.blt m 105 then (923) else (907)) else (bif Nat.blt m 107 then (902) else (bif Nat.blt m 108 then (926) else (930)))) else (bif Nat.blt m 111 then (bif Nat.blt m 110 then (939) else (934)) else (bif Nat.blt m 112 then (955) else (bif Nat.blt m 113 then (950) else (971))))))) else (bif Nat.blt m 133 then (bif Nat.blt m 123 then (bif Nat.blt m 118 then (bif Nat.blt m 116 then (bif Nat.blt m 115 then (967) else (963)) else (bif Nat.blt m 117 then (958) else (974))) else (bif Nat.blt m 120 then (bif Nat.blt m 119 then (983) else (978)) else (bif Nat.blt m 121 then (991) else (bif Nat.blt m 122 then (986) else (999))))) else (bif Nat.blt m 128 then (bif Nat.blt m 125 then (bif Nat.blt m 124 then (994) else (1019)) else (bif Nat.blt m 126 then (1015) else (bif Nat.blt m 127 then (1010) else (1027)))) else (bif Nat.blt m 130 then (bif Nat.blt m 129 then (1022) else (1035)) else (bif Nat.blt m 131 then (1030) else (bif Nat.blt m 132 then (1048) else (1044)))))) else (bif Nat.blt m 142 then (bif Nat.blt m 137 then (bif Nat.blt m 135 then (bif Nat.blt m 134 then (1038) else (505)) else (bif Nat.blt m 136 then (584) else (612))) else (bif Nat.blt m 139 then (bif Nat.blt m 138 then (619) else (631)) else (bif Nat.blt m 140 then (638) else (bif Nat.blt m 141 then (645) else (656))))) else (bif Nat.blt m 147 then (bif Nat.blt m 144 then (bif Nat.blt m 143 then (664) else (671)) else (bif Nat.blt m 145 then (687) else (bif Nat.blt m 146 then (694) else (698)))) else (bif Nat.blt m 149 then (bif Nat.blt m 148 then (702) else (706)) else (bif Nat.blt m 150 then (710) else (bif Nat.blt m 151 then (714) else (0))))))))
def z_psel (m : Nat) : Nat := bif Nat.blt m 76 then (bif Nat.blt m 38 then (bif Nat.blt m 19 then (bif Nat.blt m 9 then (bif Nat.blt m 4 then (bif Nat.blt m 2 then (bif Nat.blt m 1 then (2) else (22)) else (bif Nat.blt m 3 then (13) else (31))) else (bif Nat.blt m 6 then (bif Nat.blt m 5 then (15) else (26)) else (bif Nat.blt m 7 then (12) else (bif Nat.blt m 8 then (19) else (30))))) else (bif Nat.blt m 14 then (bif Nat.blt m 11 then (bif Nat.blt m 10 then (23) else (18)) else (bif Nat.blt m 12 then (1) else (bif Nat.blt m 13 then (27) else (32)))) else (bif Nat.blt m 16 then (bif Nat.blt m 15 then (14) else (10)) else (bif Nat.blt m 17 then (11) else (bif Nat.blt m 18 then (20) else (21)))))) else (bif Nat.blt m 28 then (bif Nat.blt m 23 then (bif Nat.blt m 21 then (bif Nat.blt m 20 then (24) else (3)) else (bif Nat.blt m 22 then (6) else (4))) else (bif Nat.blt m 25 then (bif Nat.blt m 24 then (5) else (7)) else (bif Nat.blt m 26 then (8) else (bif Nat.blt m 27 then (9) else (16))))) else (bif Nat.blt m 33 then (bif Nat.blt m 30 then (bif Nat.blt m 29 then (17) else (590)) else (bif Nat.blt m 31 then (616) else (bif Nat.blt m 32 then (623) else (635)))) else (bif Nat.blt m 35 then (bif Nat.blt m 34 then (270) else (642)) else (bif Nat.blt m 36 then (649) else (bif Nat.blt m 37 then (661) else (668))))))) else (bif Nat.blt m 57 then (bif Nat.blt m 47 then (bif Nat.blt m 42 then (bif Nat.blt m 40 then (bif Nat.blt m 39 then (293) else (297)) else (bif Nat.blt m 41 then (675) else (691))) else (bif Nat.blt m 44 then (bif Nat.blt m 43 then (547) else (556)) else (bif Nat.blt m 45 then (426) else (bif Nat.blt m 46 then (524) else (552))))) else (bif Nat.blt m 52 then (bif Nat.blt m 49 then (bif Nat.blt m 48 then (567) else (336)) else (bif Nat.blt m 50 then (392) else (bif Nat.blt m 51 then (400) else (412)))) else (bif Nat.blt m 54 then (bif Nat.blt m 53 then (420) else (29)) else (bif Nat.blt m 55 then (0) else (bif Nat.blt m 56 then (28) else (33)))))) else (bif Nat.blt m 66 then (bif Nat.blt m 61 then (bif Nat.blt m 59 then (bif Nat.blt m 58 then (34) else (0)) else (bif Nat.blt m 60 then (0) else (0))) else (bif Nat.blt m 63 then (bif Nat.blt m 62 then (0) else (0)) else (bif Nat.blt m 64 then (0) else (bif Nat.blt m 65 then (0) else (0))))) else (bif Nat.blt m 71 then (bif Nat.blt m 68 then (bif Nat.blt m 67 then (783) else (0)) else (bif Nat.blt m 69 then (35) else (bif Nat.blt m 70 then (0) else (36)))) else (bif Nat.blt m 73 then (bif Nat.blt m 72 then (66) else (67)) else (bif Nat.blt m 74 then (42) else (bif Nat.blt m 75 then (0) else (48)))))))) else (bif Nat.blt m 114 then (bif Nat.blt m 95 then (bif Nat.blt m 85 then (bif Nat.blt m 80 then (bif Nat.blt m 78 then (bif Nat.blt m 77 then (50) else (49)) else (bif Nat.blt m 79 then (58) else (57))) else (bif Nat.blt m 82 then (bif Nat.blt m 81 then (0) else (47)) else (bif Nat.blt m 83 then (38) else (bif Nat.blt m 84 then (39) else (40))))) else (bif Nat.blt m 90 then (bif Nat.blt m 87 then (bif Nat.blt m 86 then (41) else (43)) else (bif Nat.blt m 88 then (45) else (bif Nat.blt m 89 then (46) else (44)))) else (bif Nat.blt m 92 then (bif Nat.blt m 91 then (37) else (787)) else (bif Nat.blt m 93 then (809) else (bif Nat.blt m 94 then (821) else (840)))))) else (bif Nat.blt m 104 then (bif Nat.blt m 99 then (bif Nat.blt m 97 then (bif Nat.blt m 96 then (844) else (852)) else (bif Nat.blt m 98 then (860) else (891))) else (bif Nat.blt m 101 then (bif Nat.blt m 100 then (895) else (899)) else (bif Nat.blt m 102 then (54) else (bif Nat.blt m 103 then (53) else (52))))) else (bif Nat.blt m 109 then (bif Nat.blt m 106 then (bif Nat.blt m 105 then (55) else (51)) else (bif Nat.blt m 107 then (903) else (bif Nat.blt m 108 then (927) else (931)))) else (bif Nat.blt m 111 then (bif Nat.blt m 110 then (56) else (935)) else (bif Nat.blt m 112 then (59) else (bif Nat.blt m 113 then (951) else (62))))))) else (bif Nat.blt m 133 then (bif Nat.blt m 123 then (bif Nat.blt m 118 then (bif Nat.blt m 116 then (bif Nat.blt m 115 then (61) else (60)) else (bif Nat.blt m 117 then (959) else (975))) else (bif Nat.blt m 120 then (bif Nat.blt m 119 then (63) else (979)) else (bif Nat.blt m 121 then (64) else (bif Nat.blt m 122 then (987) else (65))))) else (bif Nat.blt m 128 then (bif Nat.blt m 125 then (bif Nat.blt m 124 then (995) else (69)) else (bif Nat.blt m 126 then (68) else (bif Nat.blt m 127 then (1011) else (70)))) else (bif Nat.blt m 130 then (bif Nat.blt m 129 then (1023) else (71)) else (bif Nat.blt m 131 then (1031) else (bif Nat.blt m 132 then (0) else (72)))))) else (bif Nat.blt m 142 then (bif Nat.blt m 137 then (bif Nat.blt m 135 then (bif Nat.blt m 134 then (1039) else (0)) else (bif Nat.blt m 136 then (0) else (0))) else (bif Nat.blt m 139 then (bif Nat.blt m 138 then (0) else (0)) else (bif Nat.blt m 140 then (0) else (bif Nat.blt m 141 then (0) else (0))))) else (bif Nat.blt m 147 then (bif Nat.blt m 144 then (bif Nat.blt m 143 then (0) else (0)) else (bif Nat.blt m 145 then (0) else (bif Nat.blt m 146 then (0) else (0)))) else (bif Nat.blt m 149 then (bif Nat.blt m 148 then (0) else (0)) else (bif Nat.blt m 150 then (0) else (bif Nat.blt m 151 then (0) else (0))))))))

/-- the words of a callee -/
def z_mB (m : Nat) : Bool := z_isW (z_pinit m) (.initialized (z_y m).cls) && (bif z_stc m then z_isW (z_pkind m) (.static (z_y m)) else z_isW (z_pkind m) (.instanceMethod (z_y m)) && z_isW (z_psel m) (.selects (z_on (z_own m)) (z_y m) (z_y m))) &&
  decide ((z_y m).cls = z_on (z_own m)) && plainName (z_y m).cls && decide ((z_y m).cls ≠ "java/lang/invoke/MethodHandle") && decide ((z_y m).cls ≠ "java/lang/invoke/VarHandle") &&
  decide ((parseMethodDescriptor (z_y m).desc).map (fun d => d.parameters.length) = some (bif z_stc m then z_na m else z_na m - 1)) && (bif z_stc m then true else Nat.blt 0 (z_na m))
/-- what the links of an instruction are -/
def z_lnk (m : Nat) (i : Instr) : Bool := match i with
  | .getfield k => match z_fld (z_own m) k with
    | some (c, s, n, v) => z_isW v (z_fw (z_own m) k c s n) && Nat.blt s (z_nf c) && Nat.blt c 6
    | none => true
  | .putfield k => match z_fld (z_own m) k with
    | some (c, s, n, v) => z_isW v (z_fw (z_own m) k c s n) && Nat.blt s (z_nf c) && Nat.blt c 6
    | none => true
  | .ldc_w k => match z_ki (z_own m) k with
    | some (x, v) => z_isW v (.constant (z_on (z_own m)) k x)
    | none => true
  | .ldc2_w k => (match z_kl (z_own m) k with
    | some (x, v) => z_isW v (.constantLong (z_on (z_own m)) k x)
    | none => true) && (match z_kd (z_own m) k with
    | some (x, v) => z_isW v (.constantDouble (z_on (z_own m)) k x)
    | none => true)
  | .invokestatic k => match z_sp (z_own m) k with
    | l + 1 => z_isW (z_spv (z_own m) k) (.methodLink (z_on (z_own m)) k (match l with | 0 => arraycopyName | 1 => Lib.Math.max.name | _ => Lib.Math.min.name)) && Nat.ble 1 (z_FR m) && Nat.ble 40 (z_LR m) && Nat.ble l 2
    | 0 => match z_cal (z_own m) k with
      | some (m', n, v) => z_isW v (z_mw (z_own m) k m' n) && Nat.blt (z_FR m') (z_FR m) && Nat.ble (8 + (z_ml m' + 11) + z_LR m') (z_LR m) && Nat.blt m' 151 && (bif n then decide (z_hh m' = []) else true)
      | none => true
  | .invokevirtual k => match z_cal (z_own m) k with
      | some (m', n, v) => z_isW v (z_mw (z_own m) k m' n) && Nat.blt (z_FR m') (z_FR m) && Nat.ble (8 + (z_ml m' + 11) + z_LR m') (z_LR m) && Nat.blt m' 151 && decide (z_hh m' = [])
      | none => true
  | _ => true
def z_ckI (m pc : Nat) : Bool := match z_ins m pc with
  | none => true
  | some (i, t, cs) => (match decode (z_b m) pc with
    | .ok (j, n) => decide (j = i) && (z_sw i || Nat.beq n (z_il i))
    | .error _ => false) && z_ccB pc i t cs && z_lnk m i
end
section
theorem z_mB_0 : (List.range 20).all (fun j => z_mB (0 + j)) = true := by decide +kernel
theorem z_mB_20 : (List.range 20).all (fun j => z_mB (20 + j)) = true := by decide +kernel
theorem z_mB_40 : (List.range 20).all (fun j => z_mB (40 + j)) = true := by decide +kernel
theorem z_mB_60 : (List.range 20).all (fun j => z_mB (60 + j)) = true := by decide +kernel
theorem z_mB_80 : (List.range 20).all (fun j => z_mB (80 + j)) = true := by decide +kernel
theorem z_mB_100 : (List.range 20).all (fun j => z_mB (100 + j)) = true := by decide +kernel
theorem z_mB_120 : (List.range 20).all (fun j => z_mB (120 + j)) = true := by decide +kernel
theorem z_mB_140 : (List.range 11).all (fun j => z_mB (140 + j)) = true := by decide +kernel
theorem z_mB_all {m : Nat} (hm : m < 151) : z_mB m = true := by
  rcases Nat.lt_or_ge m 20 with h | h
  · have h1 := List.all_eq_true.mp z_mB_0 (m - 0) (List.mem_range.mpr (by omega))
    rw [show 0 + (m - 0) = m by omega] at h1
    exact h1
  rcases Nat.lt_or_ge m 40 with h | h
  · have h1 := List.all_eq_true.mp z_mB_20 (m - 20) (List.mem_range.mpr (by omega))
    rw [show 20 + (m - 20) = m by omega] at h1
    exact h1
  rcases Nat.lt_or_ge m 60 with h | h
  · have h1 := List.all_eq_true.mp z_mB_40 (m - 40) (List.mem_range.mpr (by omega))
    rw [show 40 + (m - 40) = m by omega] at h1
    exact h1
  rcases Nat.lt_or_ge m 80 with h | h
  · have h1 := List.all_eq_true.mp z_mB_60 (m - 60) (List.mem_range.mpr (by omega))
    rw [show 60 + (m - 60) = m by omega] at h1
    exact h1
  rcases Nat.lt_or_ge m 100 with h | h
  · have h1 := List.all_eq_true.mp z_mB_80 (m - 80) (List.mem_range.mpr (by omega))
    rw [show 80 + (m - 80) = m by omega] at h1
    exact h1
  rcases Nat.lt_or_ge m 120 with h | h
  · have h1 := List.all_eq_true.mp z_mB_100 (m - 100) (List.mem_range.mpr (by omega))
    rw [show 100 + (m - 100) = m by omega] at h1
    exact h1
  rcases Nat.lt_or_ge m 140 with h | h
  · have h1 := List.all_eq_true.mp z_mB_120 (m - 120) (List.mem_range.mpr (by omega))
    rw [show 120 + (m - 120) = m by omega] at h1
    exact h1
  rcases Nat.lt_or_ge m 151 with h | h
  · have h1 := List.all_eq_true.mp z_mB_140 (m - 140) (List.mem_range.mpr (by omega))
    rw [show 140 + (m - 140) = m by omega] at h1
    exact h1
  omega
set_option maxRecDepth 100000 in
theorem z_cw_0 : lw_tbl[283]? = some (z_codeW 0) := by rfl
set_option maxRecDepth 100000 in
theorem z_cw_1 : lw_tbl[405]? = some (z_codeW 1) := by rfl
set_option maxRecDepth 100000 in
theorem z_cw_2 : lw_tbl[353]? = some (z_codeW 2) := by rfl
set_option maxRecDepth 100000 in
theorem z_cw_3 : lw_tbl[628]? = some (z_codeW 3) := by rfl
set_option maxRecDepth 100000 in
theorem z_cw_4 : lw_tbl[361]? = some (z_codeW 4) := by rfl
set_option maxRecDepth 100000 in
theorem z_cw_5 : lw_tbl[502]? = some (z_codeW 5) := by rfl
set_option maxRecDepth 100000 in
theorem z_cw_6 : lw_tbl[349]? = some (z_codeW 6) := by rfl
set_option maxRecDepth 100000 in
theorem z_cw_7 : lw_tbl[384]? = some (z_codeW 7) := by rfl
set_option maxRecDepth 100000 in
theorem z_cw_8 : lw_tbl[572]? = some (z_codeW 8) := by rfl
set_option maxRecDepth 100000 in
theorem z_cw_9 : lw_tbl[409]? = some (z_codeW 9) := by rfl
set_option maxRecDepth 100000 in
theorem z_cw_10 : lw_tbl[376]? = some (z_codeW 10) := by rfl
set_option maxRecDepth 100000 in
theorem z_cw_11 : lw_tbl[279]? = some (z_codeW 11) := by rfl
set_option maxRecDepth 100000 in
theorem z_cw_12 : lw_tbl[513]? = some (z_codeW 12) := by rfl
set_option maxRecDepth 100000 in
theorem z_cw_13 : lw_tbl[654]? = some (z_codeW 13) := by rfl
set_option maxRecDepth 100000 in
theorem z_cw_14 : lw_tbl[357]? = some (z_codeW 14) := by rfl
set_option maxRecDepth 100000 in
theorem z_cw_15 : lw_tbl[341]? = some (z_codeW 15) := by rfl
set_option maxRecDepth 100000 in
theorem z_cw_16 : lw_tbl[345]? = some (z_codeW 16) := by rfl
set_option maxRecDepth 100000 in
theorem z_cw_17 : lw_tbl[388]? = some (z_codeW 17) := by rfl
set_option maxRecDepth 100000 in
theorem z_cw_18 : lw_tbl[397]? = some (z_codeW 18) := by rfl
set_option maxRecDepth 100000 in
theorem z_cw_19 : lw_tbl[417]? = some (z_codeW 19) := by rfl
set_option maxRecDepth 100000 in
theorem z_cw_20 : lw_tbl[302]? = some (z_codeW 20) := by rfl
set_option maxRecDepth 100000 in
theorem z_cw_21 : lw_tbl[314]? = some (z_codeW 21) := by rfl
set_option maxRecDepth 100000 in
theorem z_cw_22 : lw_tbl[306]? = some (z_codeW 22) := by rfl
set_option maxRecDepth 100000 in
theorem z_cw_23 : lw_tbl[310]? = some (z_codeW 23) := by rfl
set_option maxRecDepth 100000 in
theorem z_cw_24 : lw_tbl[321]? = some (z_codeW 24) := by rfl
set_option maxRecDepth 100000 in
theorem z_cw_25 : lw_tbl[329]? = some (z_codeW 25) := by rfl
set_option maxRecDepth 100000 in
theorem z_cw_26 : lw_tbl[333]? = some (z_codeW 26) := by rfl
set_option maxRecDepth 100000 in
theorem z_cw_27 : lw_tbl[365]? = some (z_codeW 27) := by rfl
set_option maxRecDepth 100000 in
theorem z_cw_28 : lw_tbl[372]? = some (z_codeW 28) := by rfl
set_option maxRecDepth 100000 in
theorem z_cw_29 : lw_tbl[591]? = some (z_codeW 29) := by rfl
set_option maxRecDepth 100000 in
theorem z_cw_30 : lw_tbl[617]? = some (z_codeW 30) := by rfl
set_option maxRecDepth 100000 in
theorem z_cw_31 : lw_tbl[624]? = some (z_codeW 31) := by rfl
set_option maxRecDepth 100000 in
theorem z_cw_32 : lw_tbl[636]? = some (z_codeW 32) := by rfl
set_option maxRecDepth 100000 in
theorem z_cw_33 : lw_tbl[271]? = some (z_codeW 33) := by rfl
set_option maxRecDepth 100000 in
theorem z_cw_34 : lw_tbl[643]? = some (z_codeW 34) := by rfl
set_option maxRecDepth 100000 in
theorem z_cw_35 : lw_tbl[650]? = some (z_codeW 35) := by rfl
set_option maxRecDepth 100000 in
theorem z_cw_36 : lw_tbl[662]? = some (z_codeW 36) := by rfl
set_option maxRecDepth 100000 in
theorem z_cw_37 : lw_tbl[669]? = some (z_codeW 37) := by rfl
set_option maxRecDepth 100000 in
theorem z_cw_38 : lw_tbl[294]? = some (z_codeW 38) := by rfl
set_option maxRecDepth 100000 in
theorem z_cw_39 : lw_tbl[298]? = some (z_codeW 39) := by rfl
set_option maxRecDepth 100000 in
theorem z_cw_40 : lw_tbl[676]? = some (z_codeW 40) := by rfl
set_option maxRecDepth 100000 in
theorem z_cw_41 : lw_tbl[692]? = some (z_codeW 41) := by rfl
set_option maxRecDepth 100000 in
theorem z_cw_42 : lw_tbl[548]? = some (z_codeW 42) := by rfl
set_option maxRecDepth 100000 in
theorem z_cw_43 : lw_tbl[557]? = some (z_codeW 43) := by rfl
set_option maxRecDepth 100000 in
theorem z_cw_44 : lw_tbl[427]? = some (z_codeW 44) := by rfl
set_option maxRecDepth 100000 in
theorem z_cw_45 : lw_tbl[525]? = some (z_codeW 45) := by rfl
set_option maxRecDepth 100000 in
theorem z_cw_46 : lw_tbl[553]? = some (z_codeW 46) := by rfl
set_option maxRecDepth 100000 in
theorem z_cw_47 : lw_tbl[568]? = some (z_codeW 47) := by rfl
set_option maxRecDepth 100000 in
theorem z_cw_48 : lw_tbl[337]? = some (z_codeW 48) := by rfl
set_option maxRecDepth 100000 in
theorem z_cw_49 : lw_tbl[393]? = some (z_codeW 49) := by rfl
set_option maxRecDepth 100000 in
theorem z_cw_50 : lw_tbl[401]? = some (z_codeW 50) := by rfl
set_option maxRecDepth 100000 in
theorem z_cw_51 : lw_tbl[413]? = some (z_codeW 51) := by rfl
set_option maxRecDepth 100000 in
theorem z_cw_52 : lw_tbl[421]? = some (z_codeW 52) := by rfl
set_option maxRecDepth 100000 in
theorem z_cw_53 : lw_tbl[564]? = some (z_codeW 53) := by rfl
set_option maxRecDepth 100000 in
theorem z_cw_54 : lw_tbl[275]? = some (z_codeW 54) := by rfl
set_option maxRecDepth 100000 in
theorem z_cw_55 : lw_tbl[519]? = some (z_codeW 55) := by rfl
set_option maxRecDepth 100000 in
theorem z_cw_56 : lw_tbl[681]? = some (z_codeW 56) := by rfl
set_option maxRecDepth 100000 in
theorem z_cw_57 : lw_tbl[685]? = some (z_codeW 57) := by rfl
set_option maxRecDepth 100000 in
theorem z_cw_58 : lw_tbl[430]? = some (z_codeW 58) := by rfl
set_option maxRecDepth 100000 in
theorem z_cw_59 : lw_tbl[594]? = some (z_codeW 59) := by rfl
set_option maxRecDepth 100000 in
theorem z_cw_60 : lw_tbl[528]? = some (z_codeW 60) := by rfl
set_option maxRecDepth 100000 in
theorem z_cw_61 : lw_tbl[317]? = some (z_codeW 61) := by rfl
set_option maxRecDepth 100000 in
theorem z_cw_62 : lw_tbl[324]? = some (z_codeW 62) := by rfl
set_option maxRecDepth 100000 in
theorem z_cw_63 : lw_tbl[560]? = some (z_codeW 63) := by rfl
set_option maxRecDepth 100000 in
theorem z_cw_64 : lw_tbl[290]? = some (z_codeW 64) := by rfl
set_option maxRecDepth 100000 in
theorem z_cw_65 : lw_tbl[579]? = some (z_codeW 65) := by rfl
set_option maxRecDepth 100000 in
theorem z_cw_66 : lw_tbl[784]? = some (z_codeW 66) := by rfl
set_option maxRecDepth 100000 in
theorem z_cw_67 : lw_tbl[794]? = some (z_codeW 67) := by rfl
set_option maxRecDepth 100000 in
theorem z_cw_68 : lw_tbl[798]? = some (z_codeW 68) := by rfl
set_option maxRecDepth 100000 in
theorem z_cw_69 : lw_tbl[791]? = some (z_codeW 69) := by rfl
set_option maxRecDepth 100000 in
theorem z_cw_70 : lw_tbl[802]? = some (z_codeW 70) := by rfl
set_option maxRecDepth 100000 in
theorem z_cw_71 : lw_tbl[1004]? = some (z_codeW 71) := by rfl
set_option maxRecDepth 100000 in
theorem z_cw_72 : lw_tbl[1008]? = some (z_codeW 72) := by rfl
set_option maxRecDepth 100000 in
theorem z_cw_73 : lw_tbl[834]? = some (z_codeW 73) := by rfl
set_option maxRecDepth 100000 in
theorem z_cw_74 : lw_tbl[884]? = some (z_codeW 74) := by rfl
set_option maxRecDepth 100000 in
theorem z_cw_75 : lw_tbl[877]? = some (z_codeW 75) := by rfl
set_option maxRecDepth 100000 in
theorem z_cw_76 : lw_tbl[888]? = some (z_codeW 76) := by rfl
set_option maxRecDepth 100000 in
theorem z_cw_77 : lw_tbl[881]? = some (z_codeW 77) := by rfl
set_option maxRecDepth 100000 in
theorem z_cw_78 : lw_tbl[948]? = some (z_codeW 78) := by rfl
set_option maxRecDepth 100000 in
theorem z_cw_79 : lw_tbl[944]? = some (z_codeW 79) := by rfl
set_option maxRecDepth 100000 in
theorem z_cw_80 : lw_tbl[837]? = some (z_codeW 80) := by rfl
set_option maxRecDepth 100000 in
theorem z_cw_81 : lw_tbl[873]? = some (z_codeW 81) := by rfl
set_option maxRecDepth 100000 in
theorem z_cw_82 : lw_tbl[814]? = some (z_codeW 82) := by rfl
set_option maxRecDepth 100000 in
theorem z_cw_83 : lw_tbl[818]? = some (z_codeW 83) := by rfl
set_option maxRecDepth 100000 in
theorem z_cw_84 : lw_tbl[826]? = some (z_codeW 84) := by rfl
set_option maxRecDepth 100000 in
theorem z_cw_85 : lw_tbl[830]? = some (z_codeW 85) := by rfl
set_option maxRecDepth 100000 in
theorem z_cw_86 : lw_tbl[849]? = some (z_codeW 86) := by rfl
set_option maxRecDepth 100000 in
theorem z_cw_87 : lw_tbl[865]? = some (z_codeW 87) := by rfl
set_option maxRecDepth 100000 in
theorem z_cw_88 : lw_tbl[869]? = some (z_codeW 88) := by rfl
set_option maxRecDepth 100000 in
theorem z_cw_89 : lw_tbl[857]? = some (z_codeW 89) := by rfl
set_option maxRecDepth 100000 in
theorem z_cw_90 : lw_tbl[806]? = some (z_codeW 90) := by rfl
set_option maxRecDepth 100000 in
theorem z_cw_91 : lw_tbl[788]? = some (z_codeW 91) := by rfl
set_option maxRecDepth 100000 in
theorem z_cw_92 : lw_tbl[810]? = some (z_codeW 92) := by rfl
set_option maxRecDepth 100000 in
theorem z_cw_93 : lw_tbl[822]? = some (z_codeW 93) := by rfl
set_option maxRecDepth 100000 in
theorem z_cw_94 : lw_tbl[841]? = some (z_codeW 94) := by rfl
set_option maxRecDepth 100000 in
theorem z_cw_95 : lw_tbl[845]? = some (z_codeW 95) := by rfl
set_option maxRecDepth 100000 in
theorem z_cw_96 : lw_tbl[853]? = some (z_codeW 96) := by rfl
set_option maxRecDepth 100000 in
theorem z_cw_97 : lw_tbl[861]? = some (z_codeW 97) := by rfl
set_option maxRecDepth 100000 in
theorem z_cw_98 : lw_tbl[892]? = some (z_codeW 98) := by rfl
set_option maxRecDepth 100000 in
theorem z_cw_99 : lw_tbl[896]? = some (z_codeW 99) := by rfl
set_option maxRecDepth 100000 in
theorem z_cw_100 : lw_tbl[900]? = some (z_codeW 100) := by rfl
set_option maxRecDepth 100000 in
theorem z_cw_101 : lw_tbl[920]? = some (z_codeW 101) := by rfl
set_option maxRecDepth 100000 in
theorem z_cw_102 : lw_tbl[916]? = some (z_codeW 102) := by rfl
set_option maxRecDepth 100000 in
theorem z_cw_103 : lw_tbl[912]? = some (z_codeW 103) := by rfl
set_option maxRecDepth 100000 in
theorem z_cw_104 : lw_tbl[924]? = some (z_codeW 104) := by rfl
set_option maxRecDepth 100000 in
theorem z_cw_105 : lw_tbl[908]? = some (z_codeW 105) := by rfl
set_option maxRecDepth 100000 in
theorem z_cw_106 : lw_tbl[904]? = some (z_codeW 106) := by rfl
set_option maxRecDepth 100000 in
theorem z_cw_107 : lw_tbl[928]? = some (z_codeW 107) := by rfl
set_option maxRecDepth 100000 in
theorem z_cw_108 : lw_tbl[932]? = some (z_codeW 108) := by rfl
set_option maxRecDepth 100000 in
theorem z_cw_109 : lw_tbl[940]? = some (z_codeW 109) := by rfl
set_option maxRecDepth 100000 in
theorem z_cw_110 : lw_tbl[936]? = some (z_codeW 110) := by rfl
set_option maxRecDepth 100000 in
theorem z_cw_111 : lw_tbl[956]? = some (z_codeW 111) := by rfl
set_option maxRecDepth 100000 in
theorem z_cw_112 : lw_tbl[952]? = some (z_codeW 112) := by rfl
set_option maxRecDepth 100000 in
theorem z_cw_113 : lw_tbl[972]? = some (z_codeW 113) := by rfl
set_option maxRecDepth 100000 in
theorem z_cw_114 : lw_tbl[968]? = some (z_codeW 114) := by rfl
set_option maxRecDepth 100000 in
theorem z_cw_115 : lw_tbl[964]? = some (z_codeW 115) := by rfl
set_option maxRecDepth 100000 in
theorem z_cw_116 : lw_tbl[960]? = some (z_codeW 116) := by rfl
set_option maxRecDepth 100000 in
theorem z_cw_117 : lw_tbl[976]? = some (z_codeW 117) := by rfl
set_option maxRecDepth 100000 in
theorem z_cw_118 : lw_tbl[984]? = some (z_codeW 118) := by rfl
set_option maxRecDepth 100000 in
theorem z_cw_119 : lw_tbl[980]? = some (z_codeW 119) := by rfl
set_option maxRecDepth 100000 in
theorem z_cw_120 : lw_tbl[992]? = some (z_codeW 120) := by rfl
set_option maxRecDepth 100000 in
theorem z_cw_121 : lw_tbl[988]? = some (z_codeW 121) := by rfl
set_option maxRecDepth 100000 in
theorem z_cw_122 : lw_tbl[1000]? = some (z_codeW 122) := by rfl
set_option maxRecDepth 100000 in
theorem z_cw_123 : lw_tbl[996]? = some (z_codeW 123) := by rfl
set_option maxRecDepth 100000 in
theorem z_cw_124 : lw_tbl[1020]? = some (z_codeW 124) := by rfl
set_option maxRecDepth 100000 in
theorem z_cw_125 : lw_tbl[1016]? = some (z_codeW 125) := by rfl
set_option maxRecDepth 100000 in
theorem z_cw_126 : lw_tbl[1012]? = some (z_codeW 126) := by rfl
set_option maxRecDepth 100000 in
theorem z_cw_127 : lw_tbl[1028]? = some (z_codeW 127) := by rfl
set_option maxRecDepth 100000 in
theorem z_cw_128 : lw_tbl[1024]? = some (z_codeW 128) := by rfl
set_option maxRecDepth 100000 in
theorem z_cw_129 : lw_tbl[1036]? = some (z_codeW 129) := by rfl
set_option maxRecDepth 100000 in
theorem z_cw_130 : lw_tbl[1032]? = some (z_codeW 130) := by rfl
set_option maxRecDepth 100000 in
theorem z_cw_131 : lw_tbl[1049]? = some (z_codeW 131) := by rfl
set_option maxRecDepth 100000 in
theorem z_cw_132 : lw_tbl[1045]? = some (z_codeW 132) := by rfl
set_option maxRecDepth 100000 in
theorem z_cw_133 : lw_tbl[1040]? = some (z_codeW 133) := by rfl
set_option maxRecDepth 100000 in
theorem z_cw_134 : lw_tbl[506]? = some (z_codeW 134) := by rfl
set_option maxRecDepth 100000 in
theorem z_cw_135 : lw_tbl[585]? = some (z_codeW 135) := by rfl
set_option maxRecDepth 100000 in
theorem z_cw_136 : lw_tbl[613]? = some (z_codeW 136) := by rfl
set_option maxRecDepth 100000 in
theorem z_cw_137 : lw_tbl[620]? = some (z_codeW 137) := by rfl
set_option maxRecDepth 100000 in
theorem z_cw_138 : lw_tbl[632]? = some (z_codeW 138) := by rfl
set_option maxRecDepth 100000 in
theorem z_cw_139 : lw_tbl[639]? = some (z_codeW 139) := by rfl
set_option maxRecDepth 100000 in
theorem z_cw_140 : lw_tbl[646]? = some (z_codeW 140) := by rfl
set_option maxRecDepth 100000 in
theorem z_cw_141 : lw_tbl[657]? = some (z_codeW 141) := by rfl
set_option maxRecDepth 100000 in
theorem z_cw_142 : lw_tbl[665]? = some (z_codeW 142) := by rfl
set_option maxRecDepth 100000 in
theorem z_cw_143 : lw_tbl[672]? = some (z_codeW 143) := by rfl
set_option maxRecDepth 100000 in
theorem z_cw_144 : lw_tbl[688]? = some (z_codeW 144) := by rfl
set_option maxRecDepth 100000 in
theorem z_cw_145 : lw_tbl[695]? = some (z_codeW 145) := by rfl
set_option maxRecDepth 100000 in
theorem z_cw_146 : lw_tbl[699]? = some (z_codeW 146) := by rfl
set_option maxRecDepth 100000 in
theorem z_cw_147 : lw_tbl[703]? = some (z_codeW 147) := by rfl
set_option maxRecDepth 100000 in
theorem z_cw_148 : lw_tbl[707]? = some (z_codeW 148) := by rfl
set_option maxRecDepth 100000 in
theorem z_cw_149 : lw_tbl[711]? = some (z_codeW 149) := by rfl
set_option maxRecDepth 100000 in
theorem z_cw_150 : lw_tbl[715]? = some (z_codeW 150) := by rfl
theorem z_cwa_0 (m : Nat) (h1 : 0 ≤ m) (h2 : m < 20) : z_codeW m ∈ lw_tbl := by
  rcases Nat.eq_or_lt_of_le h1 with h | h1
  · rw [← h]; exact List.mem_of_getElem? z_cw_0
  rcases Nat.eq_or_lt_of_le h1 with h | h1
  · rw [← h]; exact List.mem_of_getElem? z_cw_1
  rcases Nat.eq_or_lt_of_le h1 with h | h1
  · rw [← h]; exact List.mem_of_getElem? z_cw_2
  rcases Nat.eq_or_lt_of_le h1 with h | h1
  · rw [← h]; exact List.mem_of_getElem? z_cw_3
  rcases Nat.eq_or_lt_of_le h1 with h | h1
  · rw [← h]; exact List.mem_of_getElem? z_cw_4
  rcases Nat.eq_or_lt_of_le h1 with h | h1
  · rw [← h]; exact List.mem_of_getElem? z_cw_5
  rcases Nat.eq_or_lt_of_le h1 with h | h1
  · rw [← h]; exact List.mem_of_getElem? z_cw_6
  rcases Nat.eq_or_lt_of_le h1 with h | h1
  · rw [← h]; exact List.mem_of_getElem? z_cw_7
  rcases Nat.eq_or_lt_of_le h1 with h | h1
  · rw [← h]; exact List.mem_of_getElem? z_cw_8
  rcases Nat.eq_or_lt_of_le h1 with h | h1
  · rw [← h]; exact List.mem_of_getElem? z_cw_9
  rcases Nat.eq_or_lt_of_le h1 with h | h1
  · rw [← h]; exact List.mem_of_getElem? z_cw_10
  rcases Nat.eq_or_lt_of_le h1 with h | h1
  · rw [← h]; exact List.mem_of_getElem? z_cw_11
  rcases Nat.eq_or_lt_of_le h1 with h | h1
  · rw [← h]; exact List.mem_of_getElem? z_cw_12
  rcases Nat.eq_or_lt_of_le h1 with h | h1
  · rw [← h]; exact List.mem_of_getElem? z_cw_13
  rcases Nat.eq_or_lt_of_le h1 with h | h1
  · rw [← h]; exact List.mem_of_getElem? z_cw_14
  rcases Nat.eq_or_lt_of_le h1 with h | h1
  · rw [← h]; exact List.mem_of_getElem? z_cw_15
  rcases Nat.eq_or_lt_of_le h1 with h | h1
  · rw [← h]; exact List.mem_of_getElem? z_cw_16
  rcases Nat.eq_or_lt_of_le h1 with h | h1
  · rw [← h]; exact List.mem_of_getElem? z_cw_17
  rcases Nat.eq_or_lt_of_le h1 with h | h1
  · rw [← h]; exact List.mem_of_getElem? z_cw_18
  rcases Nat.eq_or_lt_of_le h1 with h | h1
  · rw [← h]; exact List.mem_of_getElem? z_cw_19
  omega
theorem z_cwa_20 (m : Nat) (h1 : 20 ≤ m) (h2 : m < 40) : z_codeW m ∈ lw_tbl := by
  rcases Nat.eq_or_lt_of_le h1 with h | h1
  · rw [← h]; exact List.mem_of_getElem? z_cw_20
  rcases Nat.eq_or_lt_of_le h1 with h | h1
  · rw [← h]; exact List.mem_of_getElem? z_cw_21
  rcases Nat.eq_or_lt_of_le h1 with h | h1
  · rw [← h]; exact List.mem_of_getElem? z_cw_22
  rcases Nat.eq_or_lt_of_le h1 with h | h1
  · rw [← h]; exact List.mem_of_getElem? z_cw_23
  rcases Nat.eq_or_lt_of_le h1 with h | h1
  · rw [← h]; exact List.mem_of_getElem? z_cw_24
  rcases Nat.eq_or_lt_of_le h1 with h | h1
  · rw [← h]; exact List.mem_of_getElem? z_cw_25
  rcases Nat.eq_or_lt_of_le h1 with h | h1
  · rw [← h]; exact List.mem_of_getElem? z_cw_26
  rcases Nat.eq_or_lt_of_le h1 with h | h1
  · rw [← h]; exact List.mem_of_getElem? z_cw_27
  rcases Nat.eq_or_lt_of_le h1 with h | h1
  · rw [← h]; exact List.mem_of_getElem? z_cw_28
  rcases Nat.eq_or_lt_of_le h1 with h | h1
  · rw [← h]; exact List.mem_of_getElem? z_cw_29
  rcases Nat.eq_or_lt_of_le h1 with h | h1
  · rw [← h]; exact List.mem_of_getElem? z_cw_30
  rcases Nat.eq_or_lt_of_le h1 with h | h1
  · rw [← h]; exact List.mem_of_getElem? z_cw_31
  rcases Nat.eq_or_lt_of_le h1 with h | h1
  · rw [← h]; exact List.mem_of_getElem? z_cw_32
  rcases Nat.eq_or_lt_of_le h1 with h | h1
  · rw [← h]; exact List.mem_of_getElem? z_cw_33
  rcases Nat.eq_or_lt_of_le h1 with h | h1
  · rw [← h]; exact List.mem_of_getElem? z_cw_34
  rcases Nat.eq_or_lt_of_le h1 with h | h1
  · rw [← h]; exact List.mem_of_getElem? z_cw_35
  rcases Nat.eq_or_lt_of_le h1 with h | h1
  · rw [← h]; exact List.mem_of_getElem? z_cw_36
  rcases Nat.eq_or_lt_of_le h1 with h | h1
  · rw [← h]; exact List.mem_of_getElem? z_cw_37
  rcases Nat.eq_or_lt_of_le h1 with h | h1
  · rw [← h]; exact List.mem_of_getElem? z_cw_38
  rcases Nat.eq_or_lt_of_le h1 with h | h1
  · rw [← h]; exact List.mem_of_getElem? z_cw_39
  omega
theorem z_cwa_40 (m : Nat) (h1 : 40 ≤ m) (h2 : m < 60) : z_codeW m ∈ lw_tbl := by
  rcases Nat.eq_or_lt_of_le h1 with h | h1
  · rw [← h]; exact List.mem_of_getElem? z_cw_40
  rcases Nat.eq_or_lt_of_le h1 with h | h1
  · rw [← h]; exact List.mem_of_getElem? z_cw_41
  rcases Nat.eq_or_lt_of_le h1 with h | h1
  · rw [← h]; exact List.mem_of_getElem? z_cw_42
  rcases Nat.eq_or_lt_of_le h1 with h | h1
  · rw [← h]; exact List.mem_of_getElem? z_cw_43
  rcases Nat.eq_or_lt_of_le h1 with h | h1
  · rw [← h]; exact List.mem_of_getElem? z_cw_44
  rcases Nat.eq_or_lt_of_le h1 with h | h1
  · rw [← h]; exact List.mem_of_getElem? z_cw_45
  rcases Nat.eq_or_lt_of_le h1 with h | h1
  · rw [← h]; exact List.mem_of_getElem? z_cw_46
  rcases Nat.eq_or_lt_of_le h1 with h | h1
  · rw [← h]; exact List.mem_of_getElem? z_cw_47
  rcases Nat.eq_or_lt_of_le h1 with h | h1
  · rw [← h]; exact List.mem_of_getElem? z_cw_48
  rcases Nat.eq_or_lt_of_le h1 with h | h1
  · rw [← h]; exact List.mem_of_getElem? z_cw_49
  rcases Nat.eq_or_lt_of_le h1 with h | h1
  · rw [← h]; exact List.mem_of_getElem? z_cw_50
  rcases Nat.eq_or_lt_of_le h1 with h | h1
  · rw [← h]; exact List.mem_of_getElem? z_cw_51
  rcases Nat.eq_or_lt_of_le h1 with h | h1
  · rw [← h]; exact List.mem_of_getElem? z_cw_52
  rcases Nat.eq_or_lt_of_le h1 with h | h1
  · rw [← h]; exact List.mem_of_getElem? z_cw_53
  rcases Nat.eq_or_lt_of_le h1 with h | h1
  · rw [← h]; exact List.mem_of_getElem? z_cw_54
  rcases Nat.eq_or_lt_of_le h1 with h | h1
  · rw [← h]; exact List.mem_of_getElem? z_cw_55
  rcases Nat.eq_or_lt_of_le h1 with h | h1
  · rw [← h]; exact List.mem_of_getElem? z_cw_56
  rcases Nat.eq_or_lt_of_le h1 with h | h1
  · rw [← h]; exact List.mem_of_getElem? z_cw_57
  rcases Nat.eq_or_lt_of_le h1 with h | h1
  · rw [← h]; exact List.mem_of_getElem? z_cw_58
  rcases Nat.eq_or_lt_of_le h1 with h | h1
  · rw [← h]; exact List.mem_of_getElem? z_cw_59
  omega
theorem z_cwa_60 (m : Nat) (h1 : 60 ≤ m) (h2 : m < 80) : z_codeW m ∈ lw_tbl := by
  rcases Nat.eq_or_lt_of_le h1 with h | h1
  · rw [← h]; exact List.mem_of_getElem? z_cw_60
  rcases Nat.eq_or_lt_of_le h1 with h | h1
  · rw [← h]; exact List.mem_of_getElem? z_cw_61
  rcases Nat.eq_or_lt_of_le h1 with h | h1
  · rw [← h]; exact List.mem_of_getElem? z_cw_62
  rcases Nat.eq_or_lt_of_le h1 with h | h1
  · rw [← h]; exact List.mem_of_getElem? z_cw_63
  rcases Nat.eq_or_lt_of_le h1 with h | h1
  · rw [← h]; exact List.mem_of_getElem? z_cw_64
  rcases Nat.eq_or_lt_of_le h1 with h | h1
  · rw [← h]; exact List.mem_of_getElem? z_cw_65
  rcases Nat.eq_or_lt_of_le h1 with h | h1
  · rw [← h]; exact List.mem_of_getElem? z_cw_66
  rcases Nat.eq_or_lt_of_le h1 with h | h1
  · rw [← h]; exact List.mem_of_getElem? z_cw_67
  rcases Nat.eq_or_lt_of_le h1 with h | h1
  · rw [← h]; exact List.mem_of_getElem? z_cw_68
  rcases Nat.eq_or_lt_of_le h1 with h | h1
  · rw [← h]; exact List.mem_of_getElem? z_cw_69
  rcases Nat.eq_or_lt_of_le h1 with h | h1
  · rw [← h]; exact List.mem_of_getElem? z_cw_70
  rcases Nat.eq_or_lt_of_le h1 with h | h1
  · rw [← h]; exact List.mem_of_getElem? z_cw_71
  rcases Nat.eq_or_lt_of_le h1 with h | h1
  · rw [← h]; exact List.mem_of_getElem? z_cw_72
  rcases Nat.eq_or_lt_of_le h1 with h | h1
  · rw [← h]; exact List.mem_of_getElem? z_cw_73
  rcases Nat.eq_or_lt_of_le h1 with h | h1
  · rw [← h]; exact List.mem_of_getElem? z_cw_74
  rcases Nat.eq_or_lt_of_le h1 with h | h1
  · rw [← h]; exact List.mem_of_getElem? z_cw_75
  rcases Nat.eq_or_lt_of_le h1 with h | h1
  · rw [← h]; exact List.mem_of_getElem? z_cw_76
  rcases Nat.eq_or_lt_of_le h1 with h | h1
  · rw [← h]; exact List.mem_of_getElem? z_cw_77
  rcases Nat.eq_or_lt_of_le h1 with h | h1
  · rw [← h]; exact List.mem_of_getElem? z_cw_78
  rcases Nat.eq_or_lt_of_le h1 with h | h1
  · rw [← h]; exact List.mem_of_getElem? z_cw_79
  omega
theorem z_cwa_80 (m : Nat) (h1 : 80 ≤ m) (h2 : m < 100) : z_codeW m ∈ lw_tbl := by
  rcases Nat.eq_or_lt_of_le h1 with h | h1
  · rw [← h]; exact List.mem_of_getElem? z_cw_80
  rcases Nat.eq_or_lt_of_le h1 with h | h1
  · rw [← h]; exact List.mem_of_getElem? z_cw_81
  rcases Nat.eq_or_lt_of_le h1 with h | h1
  · rw [← h]; exact List.mem_of_getElem? z_cw_82
  rcases Nat.eq_or_lt_of_le h1 with h | h1
  · rw [← h]; exact List.mem_of_getElem? z_cw_83
  rcases Nat.eq_or_lt_of_le h1 with h | h1
  · rw [← h]; exact List.mem_of_getElem? z_cw_84
  rcases Nat.eq_or_lt_of_le h1 with h | h1
  · rw [← h]; exact List.mem_of_getElem? z_cw_85
  rcases Nat.eq_or_lt_of_le h1 with h | h1
  · rw [← h]; exact List.mem_of_getElem? z_cw_86
  rcases Nat.eq_or_lt_of_le h1 with h | h1
  · rw [← h]; exact List.mem_of_getElem? z_cw_87
  rcases Nat.eq_or_lt_of_le h1 with h | h1
  · rw [← h]; exact List.mem_of_getElem? z_cw_88
  rcases Nat.eq_or_lt_of_le h1 with h | h1
  · rw [← h]; exact List.mem_of_getElem? z_cw_89
  rcases Nat.eq_or_lt_of_le h1 with h | h1
  · rw [← h]; exact List.mem_of_getElem? z_cw_90
  rcases Nat.eq_or_lt_of_le h1 with h | h1
  · rw [← h]; exact List.mem_of_getElem? z_cw_91
  rcases Nat.eq_or_lt_of_le h1 with h | h1
  · rw [← h]; exact List.mem_of_getElem? z_cw_92
  rcases Nat.eq_or_lt_of_le h1 with h | h1
  · rw [← h]; exact List.mem_of_getElem? z_cw_93
  rcases Nat.eq_or_lt_of_le h1 with h | h1
  · rw [← h]; exact List.mem_of_getElem? z_cw_94
  rcases Nat.eq_or_lt_of_le h1 with h | h1
  · rw [← h]; exact List.mem_of_getElem? z_cw_95
  rcases Nat.eq_or_lt_of_le h1 with h | h1
  · rw [← h]; exact List.mem_of_getElem? z_cw_96
  rcases Nat.eq_or_lt_of_le h1 with h | h1
  · rw [← h]; exact List.mem_of_getElem? z_cw_97
  rcases Nat.eq_or_lt_of_le h1 with h | h1
  · rw [← h]; exact List.mem_of_getElem? z_cw_98
  rcases Nat.eq_or_lt_of_le h1 with h | h1
  · rw [← h]; exact List.mem_of_getElem? z_cw_99
  omega
theorem z_cwa_100 (m : Nat) (h1 : 100 ≤ m) (h2 : m < 120) : z_codeW m ∈ lw_tbl := by
  rcases Nat.eq_or_lt_of_le h1 with h | h1
  · rw [← h]; exact List.mem_of_getElem? z_cw_100
  rcases Nat.eq_or_lt_of_le h1 with h | h1
  · rw [← h]; exact List.mem_of_getElem? z_cw_101
  rcases Nat.eq_or_lt_of_le h1 with h | h1
  · rw [← h]; exact List.mem_of_getElem? z_cw_102
  rcases Nat.eq_or_lt_of_le h1 with h | h1
  · rw [← h]; exact List.mem_of_getElem? z_cw_103
  rcases Nat.eq_or_lt_of_le h1 with h | h1
  · rw [← h]; exact List.mem_of_getElem? z_cw_104
  rcases Nat.eq_or_lt_of_le h1 with h | h1
  · rw [← h]; exact List.mem_of_getElem? z_cw_105
  rcases Nat.eq_or_lt_of_le h1 with h | h1
  · rw [← h]; exact List.mem_of_getElem? z_cw_106
  rcases Nat.eq_or_lt_of_le h1 with h | h1
  · rw [← h]; exact List.mem_of_getElem? z_cw_107
  rcases Nat.eq_or_lt_of_le h1 with h | h1
  · rw [← h]; exact List.mem_of_getElem? z_cw_108
  rcases Nat.eq_or_lt_of_le h1 with h | h1
  · rw [← h]; exact List.mem_of_getElem? z_cw_109
  rcases Nat.eq_or_lt_of_le h1 with h | h1
  · rw [← h]; exact List.mem_of_getElem? z_cw_110
  rcases Nat.eq_or_lt_of_le h1 with h | h1
  · rw [← h]; exact List.mem_of_getElem? z_cw_111
  rcases Nat.eq_or_lt_of_le h1 with h | h1
  · rw [← h]; exact List.mem_of_getElem? z_cw_112
  rcases Nat.eq_or_lt_of_le h1 with h | h1
  · rw [← h]; exact List.mem_of_getElem? z_cw_113
  rcases Nat.eq_or_lt_of_le h1 with h | h1
  · rw [← h]; exact List.mem_of_getElem? z_cw_114
  rcases Nat.eq_or_lt_of_le h1 with h | h1
  · rw [← h]; exact List.mem_of_getElem? z_cw_115
  rcases Nat.eq_or_lt_of_le h1 with h | h1
  · rw [← h]; exact List.mem_of_getElem? z_cw_116
  rcases Nat.eq_or_lt_of_le h1 with h | h1
  · rw [← h]; exact List.mem_of_getElem? z_cw_117
  rcases Nat.eq_or_lt_of_le h1 with h | h1
  · rw [← h]; exact List.mem_of_getElem? z_cw_118
  rcases Nat.eq_or_lt_of_le h1 with h | h1
  · rw [← h]; exact List.mem_of_getElem? z_cw_119
  omega
theorem z_cwa_120 (m : Nat) (h1 : 120 ≤ m) (h2 : m < 140) : z_codeW m ∈ lw_tbl := by
  rcases Nat.eq_or_lt_of_le h1 with h | h1
  · rw [← h]; exact List.mem_of_getElem? z_cw_120
  rcases Nat.eq_or_lt_of_le h1 with h | h1
  · rw [← h]; exact List.mem_of_getElem? z_cw_121
  rcases Nat.eq_or_lt_of_le h1 with h | h1
  · rw [← h]; exact List.mem_of_getElem? z_cw_122
  rcases Nat.eq_or_lt_of_le h1 with h | h1
  · rw [← h]; exact List.mem_of_getElem? z_cw_123
  rcases Nat.eq_or_lt_of_le h1 with h | h1
  · rw [← h]; exact List.mem_of_getElem? z_cw_124
  rcases Nat.eq_or_lt_of_le h1 with h | h1
  · rw [← h]; exact List.mem_of_getElem? z_cw_125
  rcases Nat.eq_or_lt_of_le h1 with h | h1
  · rw [← h]; exact List.mem_of_getElem? z_cw_126
  rcases Nat.eq_or_lt_of_le h1 with h | h1
  · rw [← h]; exact List.mem_of_getElem? z_cw_127
  rcases Nat.eq_or_lt_of_le h1 with h | h1
  · rw [← h]; exact List.mem_of_getElem? z_cw_128
  rcases Nat.eq_or_lt_of_le h1 with h | h1
  · rw [← h]; exact List.mem_of_getElem? z_cw_129
  rcases Nat.eq_or_lt_of_le h1 with h | h1
  · rw [← h]; exact List.mem_of_getElem? z_cw_130
  rcases Nat.eq_or_lt_of_le h1 with h | h1
  · rw [← h]; exact List.mem_of_getElem? z_cw_131
  rcases Nat.eq_or_lt_of_le h1 with h | h1
  · rw [← h]; exact List.mem_of_getElem? z_cw_132
  rcases Nat.eq_or_lt_of_le h1 with h | h1
  · rw [← h]; exact List.mem_of_getElem? z_cw_133
  rcases Nat.eq_or_lt_of_le h1 with h | h1
  · rw [← h]; exact List.mem_of_getElem? z_cw_134
  rcases Nat.eq_or_lt_of_le h1 with h | h1
  · rw [← h]; exact List.mem_of_getElem? z_cw_135
  rcases Nat.eq_or_lt_of_le h1 with h | h1
  · rw [← h]; exact List.mem_of_getElem? z_cw_136
  rcases Nat.eq_or_lt_of_le h1 with h | h1
  · rw [← h]; exact List.mem_of_getElem? z_cw_137
  rcases Nat.eq_or_lt_of_le h1 with h | h1
  · rw [← h]; exact List.mem_of_getElem? z_cw_138
  rcases Nat.eq_or_lt_of_le h1 with h | h1
  · rw [← h]; exact List.mem_of_getElem? z_cw_139
  omega
theorem z_cwa_140 (m : Nat) (h1 : 140 ≤ m) (h2 : m < 151) : z_codeW m ∈ lw_tbl := by
  rcases Nat.eq_or_lt_of_le h1 with h | h1
  · rw [← h]; exact List.mem_of_getElem? z_cw_140
  rcases Nat.eq_or_lt_of_le h1 with h | h1
  · rw [← h]; exact List.mem_of_getElem? z_cw_141
  rcases Nat.eq_or_lt_of_le h1 with h | h1
  · rw [← h]; exact List.mem_of_getElem? z_cw_142
  rcases Nat.eq_or_lt_of_le h1 with h | h1
  · rw [← h]; exact List.mem_of_getElem? z_cw_143
  rcases Nat.eq_or_lt_of_le h1 with h | h1
  · rw [← h]; exact List.mem_of_getElem? z_cw_144
  rcases Nat.eq_or_lt_of_le h1 with h | h1
  · rw [← h]; exact List.mem_of_getElem? z_cw_145
  rcases Nat.eq_or_lt_of_le h1 with h | h1
  · rw [← h]; exact List.mem_of_getElem? z_cw_146
  rcases Nat.eq_or_lt_of_le h1 with h | h1
  · rw [← h]; exact List.mem_of_getElem? z_cw_147
  rcases Nat.eq_or_lt_of_le h1 with h | h1
  · rw [← h]; exact List.mem_of_getElem? z_cw_148
  rcases Nat.eq_or_lt_of_le h1 with h | h1
  · rw [← h]; exact List.mem_of_getElem? z_cw_149
  rcases Nat.eq_or_lt_of_le h1 with h | h1
  · rw [← h]; exact List.mem_of_getElem? z_cw_150
  omega
theorem z_cw {m : Nat} (hm : m < 151) : z_codeW m ∈ lw_tbl := by
  rcases Nat.lt_or_ge m 20 with h | h
  · exact z_cwa_0 m (by omega) h
  rcases Nat.lt_or_ge m 40 with h | h
  · exact z_cwa_20 m (by omega) h
  rcases Nat.lt_or_ge m 60 with h | h
  · exact z_cwa_40 m (by omega) h
  rcases Nat.lt_or_ge m 80 with h | h
  · exact z_cwa_60 m (by omega) h
  rcases Nat.lt_or_ge m 100 with h | h
  · exact z_cwa_80 m (by omega) h
  rcases Nat.lt_or_ge m 120 with h | h
  · exact z_cwa_100 m (by omega) h
  rcases Nat.lt_or_ge m 140 with h | h
  · exact z_cwa_120 m (by omega) h
  rcases Nat.lt_or_ge m 151 with h | h
  · exact z_cwa_140 m (by omega) h
  omega
end
section
theorem z_ck_0 : (List.range 8).all (fun j => (List.range (z_len (0 + j))).all (z_ckI (0 + j))) = true := by decide +kernel
theorem z_ck_8 : (List.range 8).all (fun j => (List.range (z_len (8 + j))).all (z_ckI (8 + j))) = true := by decide +kernel
theorem z_ck_16 : (List.range 8).all (fun j => (List.range (z_len (16 + j))).all (z_ckI (16 + j))) = true := by decide +kernel
theorem z_ck_24 : (List.range 8).all (fun j => (List.range (z_len (24 + j))).all (z_ckI (24 + j))) = true := by decide +kernel
theorem z_ck_32 : (List.range 8).all (fun j => (List.range (z_len (32 + j))).all (z_ckI (32 + j))) = true := by decide +kernel
theorem z_ck_40 : (List.range 8).all (fun j => (List.range (z_len (40 + j))).all (z_ckI (40 + j))) = true := by decide +kernel
theorem z_ck_48 : (List.range 8).all (fun j => (List.range (z_len (48 + j))).all (z_ckI (48 + j))) = true := by decide +kernel
theorem z_ck_56 : (List.range 8).all (fun j => (List.range (z_len (56 + j))).all (z_ckI (56 + j))) = true := by decide +kernel
theorem z_ck_64 : (List.range 8).all (fun j => (List.range (z_len (64 + j))).all (z_ckI (64 + j))) = true := by decide +kernel
theorem z_ck_72 : (List.range 8).all (fun j => (List.range (z_len (72 + j))).all (z_ckI (72 + j))) = true := by decide +kernel
theorem z_ck_80 : (List.range 8).all (fun j => (List.range (z_len (80 + j))).all (z_ckI (80 + j))) = true := by decide +kernel
theorem z_ck_88 : (List.range 8).all (fun j => (List.range (z_len (88 + j))).all (z_ckI (88 + j))) = true := by decide +kernel
theorem z_ck_96 : (List.range 8).all (fun j => (List.range (z_len (96 + j))).all (z_ckI (96 + j))) = true := by decide +kernel
theorem z_ck_104 : (List.range 8).all (fun j => (List.range (z_len (104 + j))).all (z_ckI (104 + j))) = true := by decide +kernel
theorem z_ck_112 : (List.range 8).all (fun j => (List.range (z_len (112 + j))).all (z_ckI (112 + j))) = true := by decide +kernel
theorem z_ck_120 : (List.range 8).all (fun j => (List.range (z_len (120 + j))).all (z_ckI (120 + j))) = true := by decide +kernel
theorem z_ck_128 : (List.range 8).all (fun j => (List.range (z_len (128 + j))).all (z_ckI (128 + j))) = true := by decide +kernel
theorem z_ck_136 : (List.range 8).all (fun j => (List.range (z_len (136 + j))).all (z_ckI (136 + j))) = true := by decide +kernel
theorem z_ck_144 : (List.range 7).all (fun j => (List.range (z_len (144 + j))).all (z_ckI (144 + j))) = true := by decide +kernel
end
section
theorem z_ckl_0 : (List.range 64).all (fun j => z_ckI 151 (0 + j)) = true := by decide +kernel
theorem z_ckl_64 : (List.range 64).all (fun j => z_ckI 151 (64 + j)) = true := by decide +kernel
theorem z_ckl_128 : (List.range 64).all (fun j => z_ckI 151 (128 + j)) = true := by decide +kernel
theorem z_ckl_192 : (List.range 64).all (fun j => z_ckI 151 (192 + j)) = true := by decide +kernel
theorem z_ckl_256 : (List.range 64).all (fun j => z_ckI 151 (256 + j)) = true := by decide +kernel
theorem z_ckl_320 : (List.range 64).all (fun j => z_ckI 151 (320 + j)) = true := by decide +kernel
theorem z_ckl_384 : (List.range 64).all (fun j => z_ckI 151 (384 + j)) = true := by decide +kernel
theorem z_ckl_448 : (List.range 64).all (fun j => z_ckI 151 (448 + j)) = true := by decide +kernel
theorem z_ckl_512 : (List.range 64).all (fun j => z_ckI 151 (512 + j)) = true := by decide +kernel
theorem z_ckl_576 : (List.range 64).all (fun j => z_ckI 151 (576 + j)) = true := by decide +kernel
theorem z_ckl_640 : (List.range 64).all (fun j => z_ckI 151 (640 + j)) = true := by decide +kernel
theorem z_ckl_704 : (List.range 64).all (fun j => z_ckI 151 (704 + j)) = true := by decide +kernel
theorem z_ckl_768 : (List.range 64).all (fun j => z_ckI 151 (768 + j)) = true := by decide +kernel
theorem z_ckl_832 : (List.range 64).all (fun j => z_ckI 151 (832 + j)) = true := by decide +kernel
theorem z_ckl_896 : (List.range 64).all (fun j => z_ckI 151 (896 + j)) = true := by decide +kernel
theorem z_ckl_960 : (List.range 64).all (fun j => z_ckI 151 (960 + j)) = true := by decide +kernel
theorem z_ckl_1024 : (List.range 64).all (fun j => z_ckI 151 (1024 + j)) = true := by decide +kernel
theorem z_ckl_1088 : (List.range 64).all (fun j => z_ckI 151 (1088 + j)) = true := by decide +kernel
theorem z_ckl_1152 : (List.range 64).all (fun j => z_ckI 151 (1152 + j)) = true := by decide +kernel
theorem z_ckl_1216 : (List.range 57).all (fun j => z_ckI 151 (1216 + j)) = true := by decide +kernel
theorem z_ckl {pc : Nat} (hp : pc < 1273) : z_ckI 151 pc = true := by
  rcases Nat.lt_or_ge pc 64 with h | h
  · have h1 := List.all_eq_true.mp z_ckl_0 (pc - 0) (List.mem_range.mpr (by omega))
    rw [show 0 + (pc - 0) = pc by omega] at h1
    exact h1
  rcases Nat.lt_or_ge pc 128 with h | h
  · have h1 := List.all_eq_true.mp z_ckl_64 (pc - 64) (List.mem_range.mpr (by omega))
    rw [show 64 + (pc - 64) = pc by omega] at h1
    exact h1
  rcases Nat.lt_or_ge pc 192 with h | h
  · have h1 := List.all_eq_true.mp z_ckl_128 (pc - 128) (List.mem_range.mpr (by omega))
    rw [show 128 + (pc - 128) = pc by omega] at h1
    exact h1
  rcases Nat.lt_or_ge pc 256 with h | h
  · have h1 := List.all_eq_true.mp z_ckl_192 (pc - 192) (List.mem_range.mpr (by omega))
    rw [show 192 + (pc - 192) = pc by omega] at h1
    exact h1
  rcases Nat.lt_or_ge pc 320 with h | h
  · have h1 := List.all_eq_true.mp z_ckl_256 (pc - 256) (List.mem_range.mpr (by omega))
    rw [show 256 + (pc - 256) = pc by omega] at h1
    exact h1
  rcases Nat.lt_or_ge pc 384 with h | h
  · have h1 := List.all_eq_true.mp z_ckl_320 (pc - 320) (List.mem_range.mpr (by omega))
    rw [show 320 + (pc - 320) = pc by omega] at h1
    exact h1
  rcases Nat.lt_or_ge pc 448 with h | h
  · have h1 := List.all_eq_true.mp z_ckl_384 (pc - 384) (List.mem_range.mpr (by omega))
    rw [show 384 + (pc - 384) = pc by omega] at h1
    exact h1
  rcases Nat.lt_or_ge pc 512 with h | h
  · have h1 := List.all_eq_true.mp z_ckl_448 (pc - 448) (List.mem_range.mpr (by omega))
    rw [show 448 + (pc - 448) = pc by omega] at h1
    exact h1
  rcases Nat.lt_or_ge pc 576 with h | h
  · have h1 := List.all_eq_true.mp z_ckl_512 (pc - 512) (List.mem_range.mpr (by omega))
    rw [show 512 + (pc - 512) = pc by omega] at h1
    exact h1
  rcases Nat.lt_or_ge pc 640 with h | h
  · have h1 := List.all_eq_true.mp z_ckl_576 (pc - 576) (List.mem_range.mpr (by omega))
    rw [show 576 + (pc - 576) = pc by omega] at h1
    exact h1
  rcases Nat.lt_or_ge pc 704 with h | h
  · have h1 := List.all_eq_true.mp z_ckl_640 (pc - 640) (List.mem_range.mpr (by omega))
    rw [show 640 + (pc - 640) = pc by omega] at h1
    exact h1
  rcases Nat.lt_or_ge pc 768 with h | h
  · have h1 := List.all_eq_true.mp z_ckl_704 (pc - 704) (List.mem_range.mpr (by omega))
    rw [show 704 + (pc - 704) = pc by omega] at h1
    exact h1
  rcases Nat.lt_or_ge pc 832 with h | h
  · have h1 := List.all_eq_true.mp z_ckl_768 (pc - 768) (List.mem_range.mpr (by omega))
    rw [show 768 + (pc - 768) = pc by omega] at h1
    exact h1
  rcases Nat.lt_or_ge pc 896 with h | h
  · have h1 := List.all_eq_true.mp z_ckl_832 (pc - 832) (List.mem_range.mpr (by omega))
    rw [show 832 + (pc - 832) = pc by omega] at h1
    exact h1
  rcases Nat.lt_or_ge pc 960 with h | h
  · have h1 := List.all_eq_true.mp z_ckl_896 (pc - 896) (List.mem_range.mpr (by omega))
    rw [show 896 + (pc - 896) = pc by omega] at h1
    exact h1
  rcases Nat.lt_or_ge pc 1024 with h | h
  · have h1 := List.all_eq_true.mp z_ckl_960 (pc - 960) (List.mem_range.mpr (by omega))
    rw [show 960 + (pc - 960) = pc by omega] at h1
    exact h1
  rcases Nat.lt_or_ge pc 1088 with h | h
  · have h1 := List.all_eq_true.mp z_ckl_1024 (pc - 1024) (List.mem_range.mpr (by omega))
    rw [show 1024 + (pc - 1024) = pc by omega] at h1
    exact h1
  rcases Nat.lt_or_ge pc 1152 with h | h
  · have h1 := List.all_eq_true.mp z_ckl_1088 (pc - 1088) (List.mem_range.mpr (by omega))
    rw [show 1088 + (pc - 1088) = pc by omega] at h1
    exact h1
  rcases Nat.lt_or_ge pc 1216 with h | h
  · have h1 := List.all_eq_true.mp z_ckl_1152 (pc - 1152) (List.mem_range.mpr (by omega))
    rw [show 1152 + (pc - 1152) = pc by omega] at h1
    exact h1
  rcases Nat.lt_or_ge pc 1273 with h | h
  · have h1 := List.all_eq_true.mp z_ckl_1216 (pc - 1216) (List.mem_range.mpr (by omega))
    rw [show 1216 + (pc - 1216) = pc by omega] at h1
    exact h1
  omega
theorem z_ck {m pc : Nat} (hm : m < 152) (hp : pc < z_len m) : z_ckI m pc = true := by
  rcases Nat.lt_or_ge m 8 with h | h
  · have h1 := List.all_eq_true.mp (List.all_eq_true.mp z_ck_0 (m - 0) (List.mem_range.mpr (by omega))) pc (List.mem_range.mpr (by rw [show 0 + (m - 0) = m by omega]; exact hp))
    rw [show 0 + (m - 0) = m by omega] at h1
    exact h1
  rcases Nat.lt_or_ge m 16 with h | h
  · have h1 := List.all_eq_true.mp (List.all_eq_true.mp z_ck_8 (m - 8) (List.mem_range.mpr (by omega))) pc (List.mem_range.mpr (by rw [show 8 + (m - 8) = m by omega]; exact hp))
    rw [show 8 + (m - 8) = m by omega] at h1
    exact h1
  rcases Nat.lt_or_ge m 24 with h | h
  · have h1 := List.all_eq_true.mp (List.all_eq_true.mp z_ck_16 (m - 16) (List.mem_range.mpr (by omega))) pc (List.mem_range.mpr (by rw [show 16 + (m - 16) = m by omega]; exact hp))
    rw [show 16 + (m - 16) = m by omega] at h1
    exact h1
  rcases Nat.lt_or_ge m 32 with h | h
  · have h1 := List.all_eq_true.mp (List.all_eq_true.mp z_ck_24 (m - 24) (List.mem_range.mpr (by omega))) pc (List.mem_range.mpr (by rw [show 24 + (m - 24) = m by omega]; exact hp))
    rw [show 24 + (m - 24) = m by omega] at h1
    exact h1
  rcases Nat.lt_or_ge m 40 with h | h
  · have h1 := List.all_eq_true.mp (List.all_eq_true.mp z_ck_32 (m - 32) (List.mem_range.mpr (by omega))) pc (List.mem_range.mpr (by rw [show 32 + (m - 32) = m by omega]; exact hp))
    rw [show 32 + (m - 32) = m by omega] at h1
    exact h1
  rcases Nat.lt_or_ge m 48 with h | h
  · have h1 := List.all_eq_true.mp (List.all_eq_true.mp z_ck_40 (m - 40) (List.mem_range.mpr (by omega))) pc (List.mem_range.mpr (by rw [show 40 + (m - 40) = m by omega]; exact hp))
    rw [show 40 + (m - 40) = m by omega] at h1
    exact h1
  rcases Nat.lt_or_ge m 56 with h | h
  · have h1 := List.all_eq_true.mp (List.all_eq_true.mp z_ck_48 (m - 48) (List.mem_range.mpr (by omega))) pc (List.mem_range.mpr (by rw [show 48 + (m - 48) = m by omega]; exact hp))
    rw [show 48 + (m - 48) = m by omega] at h1
    exact h1
  rcases Nat.lt_or_ge m 64 with h | h
  · have h1 := List.all_eq_true.mp (List.all_eq_true.mp z_ck_56 (m - 56) (List.mem_range.mpr (by omega))) pc (List.mem_range.mpr (by rw [show 56 + (m - 56) = m by omega]; exact hp))
    rw [show 56 + (m - 56) = m by omega] at h1
    exact h1
  rcases Nat.lt_or_ge m 72 with h | h
  · have h1 := List.all_eq_true.mp (List.all_eq_true.mp z_ck_64 (m - 64) (List.mem_range.mpr (by omega))) pc (List.mem_range.mpr (by rw [show 64 + (m - 64) = m by omega]; exact hp))
    rw [show 64 + (m - 64) = m by omega] at h1
    exact h1
  rcases Nat.lt_or_ge m 80 with h | h
  · have h1 := List.all_eq_true.mp (List.all_eq_true.mp z_ck_72 (m - 72) (List.mem_range.mpr (by omega))) pc (List.mem_range.mpr (by rw [show 72 + (m - 72) = m by omega]; exact hp))
    rw [show 72 + (m - 72) = m by omega] at h1
    exact h1
  rcases Nat.lt_or_ge m 88 with h | h
  · have h1 := List.all_eq_true.mp (List.all_eq_true.mp z_ck_80 (m - 80) (List.mem_range.mpr (by omega))) pc (List.mem_range.mpr (by rw [show 80 + (m - 80) = m by omega]; exact hp))
    rw [show 80 + (m - 80) = m by omega] at h1
    exact h1
  rcases Nat.lt_or_ge m 96 with h | h
  · have h1 := List.all_eq_true.mp (List.all_eq_true.mp z_ck_88 (m - 88) (List.mem_range.mpr (by omega))) pc (List.mem_range.mpr (by rw [show 88 + (m - 88) = m by omega]; exact hp))
    rw [show 88 + (m - 88) = m by omega] at h1
    exact h1
  rcases Nat.lt_or_ge m 104 with h | h
  · have h1 := List.all_eq_true.mp (List.all_eq_true.mp z_ck_96 (m - 96) (List.mem_range.mpr (by omega))) pc (List.mem_range.mpr (by rw [show 96 + (m - 96) = m by omega]; exact hp))
    rw [show 96 + (m - 96) = m by omega] at h1
    exact h1
  rcases Nat.lt_or_ge m 112 with h | h
  · have h1 := List.all_eq_true.mp (List.all_eq_true.mp z_ck_104 (m - 104) (List.mem_range.mpr (by omega))) pc (List.mem_range.mpr (by rw [show 104 + (m - 104) = m by omega]; exact hp))
    rw [show 104 + (m - 104) = m by omega] at h1
    exact h1
  rcases Nat.lt_or_ge m 120 with h | h
  · have h1 := List.all_eq_true.mp (List.all_eq_true.mp z_ck_112 (m - 112) (List.mem_range.mpr (by omega))) pc (List.mem_range.mpr (by rw [show 112 + (m - 112) = m by omega]; exact hp))
    rw [show 112 + (m - 112) = m by omega] at h1
    exact h1
  rcases Nat.lt_or_ge m 128 with h | h
  · have h1 := List.all_eq_true.mp (List.all_eq_true.mp z_ck_120 (m - 120) (List.mem_range.mpr (by omega))) pc (List.mem_range.mpr (by rw [show 120 + (m - 120) = m by omega]; exact hp))
    rw [show 120 + (m - 120) = m by omega] at h1
    exact h1
  rcases Nat.lt_or_ge m 136 with h | h
  · have h1 := List.all_eq_true.mp (List.all_eq_true.mp z_ck_128 (m - 128) (List.mem_range.mpr (by omega))) pc (List.mem_range.mpr (by rw [show 128 + (m - 128) = m by omega]; exact hp))
    rw [show 128 + (m - 128) = m by omega] at h1
    exact h1
  rcases Nat.lt_or_ge m 144 with h | h
  · have h1 := List.all_eq_true.mp (List.all_eq_true.mp z_ck_136 (m - 136) (List.mem_range.mpr (by omega))) pc (List.mem_range.mpr (by rw [show 136 + (m - 136) = m by omega]; exact hp))
    rw [show 136 + (m - 136) = m by omega] at h1
    exact h1
  rcases Nat.lt_or_ge m 151 with h | h
  · have h1 := List.all_eq_true.mp (List.all_eq_true.mp z_ck_144 (m - 144) (List.mem_range.mpr (by omega))) pc (List.mem_range.mpr (by rw [show 144 + (m - 144) = m by omega]; exact hp))
    rw [show 144 + (m - 144) = m by omega] at h1
    exact h1
  have h9 : m = 151 := by omega
  subst h9
  exact z_ckl hp

theorem z_isW_in {v : Nat} {w : Cond} (h : z_isW v w = true) : w ∈ lw_tbl := by
  unfold z_isW at h
  split at h
  · rename_i x hx
    have e := of_decide_eq_true h
    subst e
    exact List.mem_of_getElem? hx
  · cases h
theorem z_ins_lt {m pc : Nat} {x : Instr × Nat × Int32} (h : z_ins m pc = some x) : m < 152 ∧ pc < z_len m := by
  unfold z_ins at h
  cases e : (Nat.blt m 152 && Nat.blt pc (z_len m))
  · rw [e] at h; cases h
  · obtain ⟨a, b⟩ := Bool.and_eq_true_iff.mp e
    exact ⟨Nat.ble_eq.mp a, Nat.ble_eq.mp b⟩
theorem z_ins_ck {m pc t : Nat} {i : Instr} {cs : Int32} (h : z_ins m pc = some (i, t, cs)) : (∃ n, decode (z_b m) pc = .ok (i, n) ∧ (z_sw i = true ∨ n = z_il i)) ∧ z_ccB pc i t cs = true ∧ z_lnk m i = true := by
  obtain ⟨h1, h2⟩ := z_ins_lt h
  have h3 := z_ck h1 h2
  unfold z_ckI at h3
  rw [h] at h3
  dsimp only at h3
  obtain ⟨h4, h5⟩ := Bool.and_eq_true_iff.mp h3
  obtain ⟨h6, h7⟩ := Bool.and_eq_true_iff.mp h4
  refine ⟨?_, h7, h5⟩
  cases hd : decode (z_b m) pc with
  | error _ => rw [hd] at h6; cases h6
  | ok q =>
    rw [hd] at h6
    obtain ⟨j, n⟩ := q
    obtain ⟨e1, e2⟩ := Bool.and_eq_true_iff.mp h6
    have e3 := of_decide_eq_true e1
    subst e3
    refine ⟨n, rfl, ?_⟩
    rcases Bool.or_eq_true_iff.mp e2 with e | e
    · exact Or.inl e
    · exact Or.inr (Nat.eq_of_beq_eq_true e)
end
section

/-! ONE STEP IS SOUND -/
theorem z_inb_vp {i : Int32} {n : Nat} (h : z_inb i n = true) : vp_in i n := by
  unfold z_inb at h
  obtain ⟨h1, h2⟩ := Bool.and_eq_true_iff.mp h
  have h3 : ¬ i < 0 := by simpa using h1
  have h4 : i.toNatClampNeg < n := Nat.ble_eq.mp h2
  intro q
  rcases q with q | q
  · exact h3 q
  · omega
theorem z_good_in {w : Cond} (h : w ∈ lw_tbl) (hg : goodWord w = true) : w ∈ z_good := List.mem_filter.mpr ⟨h, hg⟩
theorem z_misc_in {w : Cond} (h : w ∈ lw_tbl) (hg : z_isM w = true) : w ∈ z_misc := List.mem_filter.mpr ⟨h, hg⟩
theorem z_lays (c : Nat) (hc : c < 6) : ∀ w ∈ u_ws (z_on c) (z_T c) (z_nf c), w ∈ z_good := by
  have h : (List.range 6).all (fun c => (u_ws (z_on c) (z_T c) (z_nf c)).all (fun w => goodWord w && lw_tbl.any (fun x => decide (x = w)))) = true := by decide +kernel
  intro w hw
  have h1 := List.all_eq_true.mp (List.all_eq_true.mp h c (List.mem_range.mpr hc)) w hw
  obtain ⟨h2, h3⟩ := Bool.and_eq_true_iff.mp h1
  obtain ⟨x, hx, e⟩ := List.any_eq_true.mp h3
  have e2 := of_decide_eq_true e
  subst e2
  exact z_good_in hx h2
theorem z_cl_ok (c : Nat) (hc : c < 6) : vwCl[c]? = some (z_on c, z_T c, z_nf c) := by
  match c, hc with
  | 0, _ => rfl
  | 1, _ => rfl
  | 2, _ => rfl
  | 3, _ => rfl
  | 4, _ => rfl
  | 5, _ => rfl
theorem z_nm_ok (c : Nat) (hc : c < 6) : ∀ a, a < z_nf c → ∀ b, b < z_nf c → a ≠ b → (z_T c a).2.1 ≠ (z_T c b).2.1 := by
  match c, hc with
  | 0, _ => exact nmX0
  | 1, _ => exact nmX1
  | 2, _ => exact nmX2
  | 3, _ => exact nmX3
  | 4, _ => exact nmX4
  | 5, _ => exact nmX5
theorem z_ty_ok (c : Nat) (hc : c < 6) : ∀ k, k < z_nf c → parseFieldDescriptor (z_T c k).2.2.1 = some (z_tyT c k) := by
  match c, hc with
  | 0, _ => exact tyX0_ok
  | 1, _ => exact tyX1_ok
  | 2, _ => exact tyX2_ok
  | 3, _ => exact tyX3_ok
  | 4, _ => exact tyX4_ok
  | 5, _ => exact tyX5_ok
theorem z_obj_nf {p c n : Nat} (h : z_obj p = some (c, n)) : c < 6 ∧ n = z_nf c := by
  unfold z_obj at h
  split at h <;> first | (cases h; decide) | cases h
/-- references read are good ones -/
theorem z_rd_ok {M : Mem} {f p k c n : Nat} (h : z_val f p = true) (ho : z_obj p = some (c, n)) (hk : k < n) : z_okv (z_rd M f p k) = true := by
  have hp : p = 0 ∨ p = 1 ∨ p = 16 ∨ p = 19 ∨ p = 23 ∨ p = 32 := by
    unfold z_obj at ho
    split at ho <;> first | omega | cases ho
  have key : ∀ r, z_rk f p k = some r → z_okv r = true := by
    intro r hr
    rcases hp with rfl | rfl | rfl | rfl | rfl | rfl
    · cases ho
      match k, hk with
      | 0, _ => cases hr; exact h
      | 1, _ => cases hr; exact h
      | 2, _ => cases hr; exact h
      | 3, _ => cases hr
      | 4, _ => cases hr
      | 5, _ => cases hr
      | 6, _ => cases hr
      | j + 7, hk => exact absurd hk (by omega)
    · cases ho
      match k, hk with
      | 0, _ => cases hr; exact h
      | 1, _ => cases hr; exact h
      | 2, _ => cases hr; exact h
      | 3, _ => cases hr; exact h
      | 4, _ => cases hr; exact h
      | 5, _ => cases hr; exact h
      | 6, _ => cases hr; exact h
      | 7, _ => cases hr; exact h
      | j + 8, hk => exact absurd hk (by omega)
    · cases ho
      match k, hk with
      | 0, _ => cases hr; exact rfl
      | 1, _ => cases hr; exact rfl
      | 2, _ => cases hr; exact rfl
      | 3, _ => cases hr
      | 4, _ => cases hr
      | 5, _ => cases hr; exact rfl
      | 6, _ => cases hr
      | 7, _ => cases hr; exact rfl
      | 8, _ => cases hr; exact rfl
      | j + 9, hk => exact absurd hk (by omega)
    · cases ho
      match k, hk with
      | 0, _ => cases hr; exact rfl
      | 1, _ => cases hr; exact rfl
      | 2, _ => cases hr; exact rfl
      | 3, _ => cases hr
      | 4, _ => cases hr
      | j + 5, hk => exact absurd hk (by omega)
    · cases ho
      match k, hk with
      | 0, _ => cases hr; exact rfl
      | 1, _ => cases hr
      | 2, _ => cases hr
      | 3, _ => cases hr
      | 4, _ => cases hr
      | j + 5, hk => exact absurd hk (by omega)
    · cases ho
      match k, hk with
      | 0, _ => cases hr
      | 1, _ => cases hr; exact rfl
      | 2, _ => cases hr; exact rfl
      | 3, _ => cases hr; exact rfl
      | 4, _ => cases hr
      | 5, _ => cases hr; exact rfl
      | 6, _ => cases hr
      | 7, _ => cases hr; exact rfl
      | 8, _ => cases hr
      | 9, _ => cases hr
      | 10, _ => cases hr
      | 11, _ => cases hr
      | 12, _ => cases hr
      | 13, _ => cases hr
      | 14, _ => cases hr
      | 15, _ => cases hr
      | 16, _ => cases hr
      | 17, _ => cases hr
      | 18, _ => cases hr
      | j + 19, hk => exact absurd hk (by omega)
  unfold z_rd
  cases hr : z_rk f p k with
  | some r => exact key r hr
  | none =>
    dsimp only
    cases (Nat.beq p 32 && Nat.beq k 18) <;> rfl
/-- a part that holds a reference is a part of the world, or the script -/
theorem z_okv_val {f p : Nat} (h : z_okv (.inr (.inr (.inr (f, p)))) = true) (hp : Nat.beq p 41 = false) : z_val f p = true := by
  have h1 : ((Nat.beq p 41 && Nat.beq f 0) || z_val f p) = true := h
  rw [hp] at h1
  exact h1
theorem z_okS_tl {v : AV} {t : List AV} (h : z_okS (v :: t) = true) : z_okS t = true := by
  have h1 : (z_okv v && z_okS t) = true := h
  exact (Bool.and_eq_true_iff.mp h1).2
theorem z_okS_hd {v : AV} {t : List AV} (h : z_okS (v :: t) = true) : z_okv v = true := by
  have h1 : (z_okv v && z_okS t) = true := h
  exact (Bool.and_eq_true_iff.mp h1).1
theorem z_okS_mk {v : AV} {t : List AV} (h1 : z_okv v = true) (h2 : z_okS t = true) : z_okS (v :: t) = true := by
  show (z_okv v && z_okS t) = true
  rw [h1, h2]
  rfl
theorem z_sl_map (ad : z_ad) : ∀ r : List AV, ((r.map (cv ad)).map fun v => v.category).sum = z_sl r
  | [] => rfl
  | v :: t => by
    have ih := z_sl_map ad t
    simp only [List.map_cons, List.sum_cons]
    rw [ih, cv_cat]
    show (if z_cat2 v = true then 2 else 1) + z_sl t = (bif z_cat2 v then 2 else 1) + z_sl t
    cases z_cat2 v <;> rfl
theorem z_isB_nar {x : Int32} (h : z_isB x = true) : narrow .boolean (.int x) = .int x := by
  unfold z_isB at h
  rcases Bool.or_eq_true_iff.mp h with e | e
  · rw [of_decide_eq_true e]; rfl
  · rw [of_decide_eq_true e]; rfl

theorem z_w_nat : Cond.native arraycopyName ∈ lw_tbl := List.mem_of_getElem? (i := 286) (by decide +kernel)
theorem z_w_stc : Cond.static arraycopyName ∈ lw_tbl := List.mem_of_getElem? (i := 285) (by decide +kernel)
theorem z_w_ini : Cond.initialized "java/lang/System" ∈ lw_tbl := List.mem_of_getElem? (i := 86) (by decide +kernel)
theorem z_w_mi : Cond.initialized "java/lang/Math" ∈ lw_tbl := List.mem_of_getElem? (i := 88) (by decide +kernel)
theorem z_w_mxs : Cond.static Lib.Math.max.name ∈ lw_tbl := List.mem_of_getElem? (i := 367) (by decide +kernel)
theorem z_w_mns : Cond.static Lib.Math.min.name ∈ lw_tbl := List.mem_of_getElem? (i := 378) (by decide +kernel)
theorem z_w_mxc : Cond.code Lib.Math.max.name Lib.Math.max.code 2 (some .int) ∈ lw_tbl := List.mem_of_getElem? (i := 368) (by decide +kernel)
theorem z_w_mnc : Cond.code Lib.Math.min.name Lib.Math.min.code 2 (some .int) ∈ lw_tbl := List.mem_of_getElem? (i := 379) (by decide +kernel)

theorem z_ti_eq {t : Int} {q : Nat} (h : z_ti t = some q) : t = (q : Int) := by
  unfold z_ti at h
  cases hc : decide (0 ≤ t)
  · rw [hc] at h; cases h
  · rw [hc] at h
    cases h
    exact (Int.toNat_of_nonneg (of_decide_eq_true hc)).symm
theorem z_natw {a : Nat} (h : a < 9) : a + (nativeFrameWords "java/lang/System" "arraycopy" 5 + 11) ≤ 40 := by
  have : nativeFrameWords "java/lang/System" "arraycopy" 5 = 7 := by decide +kernel
  omega
theorem z_beq_ne {a b : Nat} (h : a ≠ b) : Nat.beq a b = false := by
  cases hc : Nat.beq a b
  · rfl
  · exact absurd (Nat.eq_of_beq_eq_true hc) h
theorem z_okv_41 {f : Nat} (h : z_okv (.inr (.inr (.inr (f, 41)))) = true) : f = 0 := by
  have h1 : ((true && Nat.beq f 0) || false) = true := h
  have h2 : Nat.beq f 0 = true := by simpa using h1
  exact Nat.eq_of_beq_eq_true h2
theorem z_obj_41 {p c n : Nat} (h : z_obj p = some (c, n)) : Nat.beq p 41 = false := by
  refine z_beq_ne fun e => ?_
  subst e
  cases h
theorem z_ak_2 {p : Nat} (h : z_ak p = 2) : p = 17 := by
  unfold z_ak at h
  split at h <;> first | rfl | cases h
theorem z_ak_3 {p : Nat} (h : z_ak p = 3) : p = 10 := by
  unfold z_ak at h
  split at h <;> first | rfl | cases h
theorem z_ak_1 {p : Nat} (h : z_ak p = 1) : p = 40 := by
  unfold z_ak at h
  split at h <;> first | rfl | cases h
theorem z_en_any {ad : z_ad} {cs : Nat → ClassId} {M : Mem} {f p : Nat} (h : z_obj p = none) : ∃ (t0 : Nat) (cA : ClassId) (x : vp_A), z_en ad cs M f p = .inl (cA, x) ∧ (∃ ty, (z_tys cs)[t0]? = some (cA, ty)) ∧ x.1 = z_sz p := by
  unfold z_en
  rw [h]
  dsimp only
  split
  · exact ⟨0, _, _, rfl, ⟨_, rfl⟩, rfl⟩
  · rename_i hk; have e := z_ak_1 hk; subst e; exact ⟨1, _, _, rfl, ⟨_, rfl⟩, rfl⟩
  · rename_i hk; have e := z_ak_2 hk; subst e; exact ⟨2, _, _, rfl, ⟨_, rfl⟩, rfl⟩
  · rename_i h0 h1 h2
    have e : p = 10 := by
      unfold z_ak at h0 h1 h2
      split at h0 <;> first | rfl | (exact absurd rfl h0) | (exact absurd rfl h1) | (exact absurd rfl h2) | (split at h1 <;> first | rfl | (exact absurd rfl h0) | (exact absurd rfl h1) | (exact absurd rfl h2))
    subst e
    exact ⟨3, _, _, rfl, ⟨_, rfl⟩, rfl⟩
theorem z_isB_fit {x : Int32} (h : z_isB x = true) : fits .boolean (.int x) = true := by
  unfold z_isB at h
  rcases Bool.or_eq_true_iff.mp h with e | e
  · rw [of_decide_eq_true e]; rfl
  · rw [of_decide_eq_true e]; rfl
/-- a field of the kind int is not final, and its type is int or boolean -/
theorem z_put_ok {M : Mem} {f p k c n : Nat} {y : Int32} (ho : z_obj p = some (c, n)) (hk : k < n) (hy : z_rd M f p k = .inl y) : (z_T c k).2.2.2 = false ∧ z_tyT c k = (bif z_fb p k then .boolean else .int) := by
  have hp : p = 0 ∨ p = 1 ∨ p = 16 ∨ p = 19 ∨ p = 23 ∨ p = 32 := by
    unfold z_obj at ho
    split at ho <;> first | omega | cases ho
  rcases hp with rfl | rfl | rfl | rfl | rfl | rfl <;> cases ho
  · match k, hk with
    | 0, _ => cases hy
    | 1, _ => cases hy
    | 2, _ => cases hy
    | 3, _ => exact ⟨rfl, rfl⟩
    | 4, _ => exact ⟨rfl, rfl⟩
    | 5, _ => exact ⟨rfl, rfl⟩
    | 6, _ => exact ⟨rfl, rfl⟩
  · cases hy
  · match k, hk with
    | 0, _ => cases hy
    | 1, _ => cases hy
    | 2, _ => cases hy
    | 3, _ => exact ⟨rfl, rfl⟩
    | 4, _ => exact ⟨rfl, rfl⟩
    | 5, _ => cases hy
    | 6, _ => exact ⟨rfl, rfl⟩
    | 7, _ => cases hy
    | 8, _ => cases hy
  · match k, hk with
    | 0, _ => cases hy
    | 1, _ => cases hy
    | 2, _ => cases hy
    | 3, _ => exact ⟨rfl, rfl⟩
    | 4, _ => exact ⟨rfl, rfl⟩
  · match k, hk with
    | 0, _ => cases hy
    | 1, _ => exact ⟨rfl, rfl⟩
    | 2, _ => exact ⟨rfl, rfl⟩
    | 3, _ => exact ⟨rfl, rfl⟩
    | 4, _ => exact ⟨rfl, rfl⟩
  · match k, hk with
    | 0, _ => exact ⟨rfl, rfl⟩
    | 1, _ => cases hy
    | 2, _ => cases hy
    | 3, _ => cases hy
    | 4, _ => exact ⟨rfl, rfl⟩
    | 5, _ => cases hy
    | 6, _ => exact ⟨rfl, rfl⟩
    | 7, _ => cases hy
    | 8, _ => exact ⟨rfl, rfl⟩
    | 9, _ => exact ⟨rfl, rfl⟩
    | 10, _ => exact ⟨rfl, rfl⟩
    | 11, _ => exact ⟨rfl, rfl⟩
    | 12, _ => exact ⟨rfl, rfl⟩
    | 13, _ => exact ⟨rfl, rfl⟩
    | 14, _ => exact ⟨rfl, rfl⟩
    | 15, _ => exact ⟨rfl, rfl⟩
    | 16, _ => exact ⟨rfl, rfl⟩
    | 17, _ => exact ⟨rfl, rfl⟩
    | 18, _ => cases hy
    | j + 19, hk => exact absurd hk (by omega)
theorem z_cpo_ok {sp dp n : Int32} {a b : Nat} (h : z_cpo sp dp n a b = true) : ¬ sp < 0 ∧ ¬ dp < 0 ∧ ¬ n < 0 ∧ sp.toNatClampNeg + n.toNatClampNeg ≤ a ∧ dp.toNatClampNeg + n.toNatClampNeg ≤ b := by
  unfold z_cpo at h
  obtain ⟨h, h5⟩ := Bool.and_eq_true_iff.mp h
  obtain ⟨h, h4⟩ := Bool.and_eq_true_iff.mp h
  obtain ⟨h, h3⟩ := Bool.and_eq_true_iff.mp h
  obtain ⟨h1, h2⟩ := Bool.and_eq_true_iff.mp h
  exact ⟨by simpa using h1, by simpa using h2, by simpa using h3, Nat.ble_eq.mp h4, Nat.ble_eq.mp h5⟩
theorem z_ri_lt {M : Mem} {f p k : Nat} (h : p < 32) : z_ri M f p k = M.1 f p k := by
  unfold z_ri
  rw [show Nat.blt p 32 = true from Nat.ble_eq.mpr h]
  rfl
theorem z_cpy_en {ad : z_ad} {cs : Nat → ClassId} {M : Mem} {f p f' p' sp dp n : Nat} (hv : z_val f' p' = true) (ho : z_obj p' = none) (ha : z_ak p' = 0) (h1 : p < 32) (h2 : p' < 32) :
    z_en ad cs (z_cpy M.1 f p f' p' sp dp n, M.2) f' p' = .inl (cs 0, z_sz p', .inl (va_cpy (fun k => z_ri M f p k) (fun k => z_ri M f' p' k) sp dp n)) := by
  unfold z_en
  rw [ho]
  dsimp only
  rw [ha]
  show (Sum.inl (cs 0, z_sz p', Sum.inl (fun j => z_ri (z_cpy M.1 f p f' p' sp dp n, M.2) f' p' j)) : va_E) = _
  refine congrArg (fun g => (Sum.inl (cs 0, z_sz p', Sum.inl g) : va_E)) (funext fun j => ?_)
  rw [z_ri_lt h2]
  show z_cpy M.1 f p f' p' sp dp n f' p' j = _
  unfold z_cpy
  rw [if_pos ⟨rfl, rfl⟩]
  unfold va_cpy
  simp only [z_ri_lt h1, z_ri_lt h2]
theorem z_cpy_ne {ad : z_ad} {cs : Nat → ClassId} {M : Mem} {f p f' p' sp dp n f9 p9 : Nat} (h : (f9, p9) ≠ (f', p')) : z_en ad cs M f9 p9 = z_en ad cs (z_cpy M.1 f p f' p' sp dp n, M.2) f9 p9 := by
  have e : z_cpy M.1 f p f' p' sp dp n f9 p9 = M.1 f9 p9 := by
    unfold z_cpy
    rw [if_neg (fun q => h (by rw [q.1, q.2]))]
  have e2 : ∀ k, z_ri (z_cpy M.1 f p f' p' sp dp n, M.2) f9 p9 k = z_ri M f9 p9 k := by
    intro k
    unfold z_ri
    dsimp only
    rw [e]
  refine z_en_ne e2 (fun k => ?_) rfl
  unfold z_rd
  rw [e2]
theorem z_l1_ne {ad : z_ad} {cs : Nat → ClassId} {M : Mem} {x : Int64} {f p : Nat} (h : z_val f p = true) (hn : (f, p) ≠ (0, 40)) : z_en ad cs M f p = z_en ad cs (M.1, M.2.1, vp_updL M.2.2 1 x) f p := by
  unfold z_en
  cases z_obj p with
  | some q => rfl
  | none =>
    dsimp only
    split
    · rfl
    · rename_i hk
      have e := z_ak_1 hk
      subst e
      have : f = 0 := Nat.eq_of_beq_eq_true h
      subst this
      exact absurd rfl hn
    · rfl
    · rfl
theorem z_l0_ne {ad : z_ad} {cs : Nat → ClassId} {M : Mem} {x : Int64} {f p : Nat} (h : z_val f p = true) (hn : (f, p) ≠ (0, 32)) : z_en ad cs M f p = z_en ad cs (M.1, M.2.1, vp_updL M.2.2 0 x) f p := by
  refine z_en_ne (fun k => rfl) (fun k => ?_) rfl
  unfold z_rd
  cases hc : Nat.beq p 32
  · rfl
  · have e := Nat.eq_of_beq_eq_true hc
    subst e
    have : f = 0 := Nat.eq_of_beq_eq_true h
    subst this
    exact absurd rfl hn
theorem z_arrV_congr {c : ClassId} {n : Nat} {f g : Nat → Value} (h : ∀ j, j < n → f j = g j) : arrV c n f = arrV c n g := by
  unfold arrV
  congr 1
  congr 1
  funext j
  exact h j.val j.isLt
/-- a cell of longs holds its first n alone -/
theorem z_P_len {D : va_G} {cl : List vw_C} {ws : va_W} {H : Heap} {q a n : Nat} {cA : ClassId} {f g : Nat → Int64} (h : va_P D cl (ws.set q (a, .inl (cA, n, .inr (.inl f)))) H) (hfg : ∀ k, k < n → f k = g k) : va_P D cl (ws.set q (a, .inl (cA, n, .inr (.inl g)))) H := by
  intro k r hr
  by_cases hk : q = k
  · subst hk
    rw [List.getElem?_set, if_pos rfl] at hr
    split at hr
    · rename_i hlt
      cases hr
      have h1 := h q (a, .inl (cA, n, .inr (.inl f))) (by rw [List.getElem?_set, if_pos rfl, if_pos hlt])
      show H[a]? = _
      have h2 : H[a]? = some (vp_cell cA (n, .inr (.inl f))) := h1
      rw [h2]
      exact congrArg some (z_arrV_congr (c := cA) (n := n) (f := fun j => .long (f j)) (g := fun j => .long (g j)) (fun j hj => by rw [hfg j hj]))
    · cases hr
  · refine h k r ?_
    rw [List.getElem?_set, if_neg hk] at hr ⊢
    exact hr

def z_rmB (m : Nat) (i : Instr) : Bool := match i with
  | .istore k => Nat.blt k (z_ml m)
  | .istore_n k => Nat.blt k.val (z_ml m)
  | .astore k => Nat.blt k (z_ml m)
  | .astore_n k => Nat.blt k.val (z_ml m)
  | .lstore k => Nat.blt (k + 1) (z_ml m)
  | .lstore_n k => Nat.blt (k.val + 1) (z_ml m)
  | .dstore k => Nat.blt (k + 1) (z_ml m)
  | .dstore_n k => Nat.blt (k.val + 1) (z_ml m)
  | .iinc k _ => Nat.blt k (z_ml m)
  | _ => true
def z_rmI (m pc : Nat) : Bool := match z_ins m pc with
  | none => true
  | some (i, _, _) => z_rmB m i
theorem z_rm_all : (List.range 152).all (fun m => (List.range (z_len m)).all (z_rmI m)) = true := by decide +kernel
theorem z_rm {m pc t : Nat} {i : Instr} {k : Int32} (h : z_ins m pc = some (i, t, k)) : z_rmB m i = true := by
  obtain ⟨h1, h2⟩ := z_ins_lt h
  have h3 := List.all_eq_true.mp (List.all_eq_true.mp z_rm_all m (List.mem_range.mpr h1)) pc (List.mem_range.mpr h2)
  unfold z_rmI at h3
  rw [h] at h3
  exact h3
theorem z_roomistore {m pc t : Nat} {k : Nat} {c : Int32} (h : z_ins m pc = some (.istore k, t, c)) : k < z_ml m := Nat.ble_eq.mp (z_rm h)
theorem z_roomistore_n {m pc t : Nat} {k : Fin 4} {c : Int32} (h : z_ins m pc = some (.istore_n k, t, c)) : k.val < z_ml m := Nat.ble_eq.mp (z_rm h)
theorem z_roomastore {m pc t : Nat} {k : Nat} {c : Int32} (h : z_ins m pc = some (.astore k, t, c)) : k < z_ml m := Nat.ble_eq.mp (z_rm h)
theorem z_roomastore_n {m pc t : Nat} {k : Fin 4} {c : Int32} (h : z_ins m pc = some (.astore_n k, t, c)) : k.val < z_ml m := Nat.ble_eq.mp (z_rm h)
theorem z_roomlstore {m pc t : Nat} {k : Nat} {c : Int32} (h : z_ins m pc = some (.lstore k, t, c)) : k + 1 < z_ml m := Nat.ble_eq.mp (z_rm h)
theorem z_roomlstore_n {m pc t : Nat} {k : Fin 4} {c : Int32} (h : z_ins m pc = some (.lstore_n k, t, c)) : k.val + 1 < z_ml m := Nat.ble_eq.mp (z_rm h)
theorem z_roomdstore {m pc t : Nat} {k : Nat} {c : Int32} (h : z_ins m pc = some (.dstore k, t, c)) : k + 1 < z_ml m := Nat.ble_eq.mp (z_rm h)
theorem z_roomdstore_n {m pc t : Nat} {k : Fin 4} {c : Int32} (h : z_ins m pc = some (.dstore_n k, t, c)) : k.val + 1 < z_ml m := Nat.ble_eq.mp (z_rm h)
theorem z_roomiinc {m pc t k : Nat} {n : Int} {c : Int32} (h : z_ins m pc = some (.iinc k n, t, c)) : k < z_ml m := Nat.ble_eq.mp (z_rm h)

section ZR
variable {p : Program} {l : Launch} {e : Env} {R : Room} {s : State} {m : MethodId} {args : Array Value} {below : List Frame} {meth : Method} {c : Code} {H : Heap} {locs : List Loc} {cells slots : Nat} {Q : State → Prop}
variable {cc : ByteArray} {pc : Nat} {ls : Array Slot} {rest : List Value} {D : va_G} {cl : List vw_C} {a : Nat} {cs : Nat → ClassId} {ws : va_W}
theorem z_aldr (hexec : p.tables.exec = Jvm.exec) (hb : c.code = cc) (hK : va_K D cl (z_tys cs) s) (hP : va_P D cl ws H) {q0 n : Nat} {f : Nat → Option Nat} (ha : ws[q0]? = some (a, .inl (cs 3, n, .inr (.inr (.inr (.inr f)))))) {i : Int32} (hin : vp_in i n) (hdg : decode cc pc = .ok (.aaload, 1))
    (kk : W p l e R s m args below meth c H locs cells slots Q (F0 m (pc + 1) ls (va_rf (f i.toNatClampNeg) :: rest))) : W p l e R s m args below meth c H locs cells slots Q (F0 m pc ls (.int i :: .ref a :: rest)) := by
  have hlt : i.toNatClampNeg < n := Nat.not_le.mp fun q => hin (Or.inr q)
  have ht : (z_tys cs)[3]? = some (cs 3, .array .int) := rfl
  exact W.aald (v := va_rf (f i.toNatClampNeg)) (ty := .array .int) hexec hb (hP q0 _ ha) ((hK.2 3 _ ht).1 n (fun j => va_rf (f j))) rfl (fun q => by cases q) (by show ¬ (i < 0 ∨ (arrV _ _ _).slots.size ≤ _); rw [arrV_size]; exact hin) (by show (arrV _ _ _).slots[_]? = _; rw [arrV_read _ _ hlt]) rfl rfl hdg kk
end ZR
section ZS
variable {p : Program} {l : Launch} {e : Env} {R : Room} {s : State} {mi : MethodId} {args : Array Value} {below : List Frame} {meth : Method} {c : Code} {cells slots : Nat} {Q : State → Prop}
variable {D : va_G} {ad : z_ad} {cs : Nat → ClassId} {A : Nat → Prop} {b L : Nat} {xs : Nat → Int32} {sa : Nat → Nat} {H0 : Heap}
/-- what stands while a method m walks -/
def z_On (p : Program) (R : Room) (s : State) (mi : MethodId) (args : Array Value) (c : Code) (cells slots : Nat) (D : va_G) (ad : z_ad) (cs : Nat → ClassId) (A : Nat → Prop) (b L : Nat) (xs : Nat → Int32) (sa : Nat → Nat) (m : Nat) : Prop :=
  p.tables.exec = Jvm.exec ∧ c.code = z_b m ∧ c.maxLocals = z_ml m ∧ s.vm.findClass (z_on (z_own m)) = some mi.cls ∧ (∀ w ∈ z_good, w.before args s = true) ∧ z_cx D cs A b L xs sa s ∧ z_AD A ad ∧ ad 0 41 = b ∧
  z_FR m ≤ R.frames ∧ z_LR m ≤ R.locals ∧ cells ≤ R.cells ∧ slots ≤ R.slots
/-- the world at a point of the walk -/
def z_Pt (D : va_G) (ad : z_ad) (cs : Nat → ClassId) (A : Nat → Prop) (H0 : Heap) (m : Nat) (LS : Array Slot) (ls : Lc) (st : List AV) (M : Mem) (H : Heap) (locs : List Loc) : Prop :=
  lv_has LS (z_ml m) (z_asc ad 0 ls) ∧ z_okL ls = true ∧ z_okS st = true ∧ va_P D vwCl (z_W ad cs M) H ∧ va_S A H0 H locs
theorem z_st1_snd {m : Nat} {i : Instr} {t : Nat} {k0 : Int32} {pc : Nat} {ls : Lc} {st : List AV} {M : Mem} {c' : Cf} {O : List Prop} 
    (C : z_On p R s mi args c cells slots D ad cs A b L xs sa m) (hH0 : H0 = s.heap) (hi : z_ins m pc = some (i, t, k0))
    (h : z_st1 xs L (z_own m) i t k0 pc ls st M = some (c', O)) (hA : z_all O)
    (kk : ∀ (H' : Heap) (locs' : List Loc) (LS' : Array Slot), z_Pt D ad cs A H0 m LS' c'.2.1 c'.2.2.1 c'.2.2.2 H' locs' → W p l e R s mi args below meth c H' locs' cells slots Q (F0 mi c'.1 LS' (c'.2.2.1.map (cv ad))))
    {H : Heap} {locs : List Loc} {LS : Array Slot} (hp : z_Pt D ad cs A H0 m LS ls st M H locs) :
    W p l e R s mi args below meth c H locs cells slots Q (F0 mi pc LS (st.map (cv ad))) := by
  obtain ⟨hx, hb, hml, hown, hts, hcx, hAD, hab, hfr, hlo, hce, hsl⟩ := C
  obtain ⟨hl, hol, hos, hP, hS⟩ := hp
  obtain ⟨⟨n9, hd, hn9⟩, hcc, hlk⟩ := z_ins_ck hi
  have hK := hcx.1
  have hD := z_W_D (cs := cs) (M := M) hAD
  cases i with
  | aload k =>
    have hd := (show decode (z_b m) pc = .ok (_, _) from hd)
    rcases hn9 with h9 | h9
    · cases h9
    subst h9
    dsimp only [z_st1] at h
    split at h
    · rename_i r hg
      cases h
      exact lv_aload hx hb hd (z_at hl hg) (kk H locs LS ⟨hl, hol, z_okS_mk (z_okL_get hol hg) hos, hP, hS⟩)
    · cases h
  | aload_n k =>
    have hd := (show decode (z_b m) pc = .ok (_, _) from hd)
    rcases hn9 with h9 | h9
    · cases h9
    subst h9
    dsimp only [z_st1] at h
    split at h
    · rename_i r hg
      cases h
      exact lv_aload_n hx hb hd rfl (z_at hl hg) (kk H locs LS ⟨hl, hol, z_okS_mk (z_okL_get hol hg) hos, hP, hS⟩)
    · cases h
  | iload k =>
    have hd := (show decode (z_b m) pc = .ok (_, _) from hd)
    rcases hn9 with h9 | h9
    · cases h9
    subst h9
    dsimp only [z_st1] at h
    split at h
    · rename_i r hg
      cases h
      exact lv_iload hx hb hd (z_at hl hg) (kk H locs LS ⟨hl, hol, hos, hP, hS⟩)
    · cases h
  | iload_n k =>
    have hd := (show decode (z_b m) pc = .ok (_, _) from hd)
    rcases hn9 with h9 | h9
    · cases h9
    subst h9
    dsimp only [z_st1] at h
    split at h
    · rename_i r hg
      cases h
      exact lv_iload_n hx hb hd rfl (z_at hl hg) (kk H locs LS ⟨hl, hol, hos, hP, hS⟩)
    · cases h
  | lload k =>
    have hd := (show decode (z_b m) pc = .ok (_, _) from hd)
    rcases hn9 with h9 | h9
    · cases h9
    subst h9
    dsimp only [z_st1] at h
    split at h
    · rename_i r hg
      cases h
      exact lv_lload hx hb hd (z_at hl hg) (kk H locs LS ⟨hl, hol, hos, hP, hS⟩)
    · cases h
  | lload_n k =>
    have hd := (show decode (z_b m) pc = .ok (_, _) from hd)
    rcases hn9 with h9 | h9
    · cases h9
    subst h9
    dsimp only [z_st1] at h
    split at h
    · rename_i r hg
      cases h
      exact lv_lload_n hx hb hd rfl (z_at hl hg) (kk H locs LS ⟨hl, hol, hos, hP, hS⟩)
    · cases h
  | dload k =>
    have hd := (show decode (z_b m) pc = .ok (_, _) from hd)
    rcases hn9 with h9 | h9
    · cases h9
    subst h9
    dsimp only [z_st1] at h
    split at h
    · rename_i r hg
      cases h
      exact lv_dload hx hb hd (z_at hl hg) (kk H locs LS ⟨hl, hol, hos, hP, hS⟩)
    · cases h
  | dload_n k =>
    have hd := (show decode (z_b m) pc = .ok (_, _) from hd)
    rcases hn9 with h9 | h9
    · cases h9
    subst h9
    dsimp only [z_st1] at h
    split at h
    · rename_i r hg
      cases h
      exact lv_dload_n hx hb hd rfl (z_at hl hg) (kk H locs LS ⟨hl, hol, hos, hP, hS⟩)
    · cases h
  | istore k =>
    have hd := (show decode (z_b m) pc = .ok (_, _) from hd)
    rcases hn9 with h9 | h9
    · cases h9
    subst h9
    dsimp only [z_st1] at h
    split at h
    · rename_i x r
      cases h
      exact lv_istore hx hb hd hl (z_roomistore hi) rfl (fun LS' hl' => kk H locs LS' ⟨z_store1 (v := .inl x) hl', z_okL_1 hol (rfl), z_okS_tl hos, hP, hS⟩)
    · cases h
  | istore_n k =>
    have hd := (show decode (z_b m) pc = .ok (_, _) from hd)
    rcases hn9 with h9 | h9
    · cases h9
    subst h9
    dsimp only [z_st1] at h
    split at h
    · rename_i x r
      cases h
      exact lv_istore_n hx hb hd rfl hl (z_roomistore_n hi) rfl (fun LS' hl' => kk H locs LS' ⟨z_store1 (v := .inl x) hl', z_okL_1 hol (rfl), z_okS_tl hos, hP, hS⟩)
    · cases h
  | astore k =>
    have hd := (show decode (z_b m) pc = .ok (_, _) from hd)
    rcases hn9 with h9 | h9
    · cases h9
    subst h9
    dsimp only [z_st1] at h
    split at h
    · rename_i x r
      cases h
      exact lv_astore hx hb hd hl (z_roomastore hi) rfl (fun LS' hl' => kk H locs LS' ⟨z_store1 (v := .inr (.inr (.inr x))) hl', z_okL_1 hol (z_okS_hd hos), z_okS_tl hos, hP, hS⟩)
    · cases h
  | astore_n k =>
    have hd := (show decode (z_b m) pc = .ok (_, _) from hd)
    rcases hn9 with h9 | h9
    · cases h9
    subst h9
    dsimp only [z_st1] at h
    split at h
    · rename_i x r
      cases h
      exact lv_astore_n hx hb hd rfl hl (z_roomastore_n hi) rfl (fun LS' hl' => kk H locs LS' ⟨z_store1 (v := .inr (.inr (.inr x))) hl', z_okL_1 hol (z_okS_hd hos), z_okS_tl hos, hP, hS⟩)
    · cases h
  | lstore k =>
    have hd := (show decode (z_b m) pc = .ok (_, _) from hd)
    rcases hn9 with h9 | h9
    · cases h9
    subst h9
    dsimp only [z_st1] at h
    split at h
    · rename_i x r
      cases h
      exact lv_lstore hx hb hd hl (z_roomlstore hi) rfl (fun LS' hl' => kk H locs LS' ⟨z_store2 (v := .inr (.inl x)) hl', z_okL_2 hol (rfl), z_okS_tl hos, hP, hS⟩)
    · cases h
  | lstore_n k =>
    have hd := (show decode (z_b m) pc = .ok (_, _) from hd)
    rcases hn9 with h9 | h9
    · cases h9
    subst h9
    dsimp only [z_st1] at h
    split at h
    · rename_i x r
      cases h
      exact lv_lstore_n hx hb hd rfl hl (z_roomlstore_n hi) rfl (fun LS' hl' => kk H locs LS' ⟨z_store2 (v := .inr (.inl x)) hl', z_okL_2 hol (rfl), z_okS_tl hos, hP, hS⟩)
    · cases h
  | dstore k =>
    have hd := (show decode (z_b m) pc = .ok (_, _) from hd)
    rcases hn9 with h9 | h9
    · cases h9
    subst h9
    dsimp only [z_st1] at h
    split at h
    · rename_i x r
      cases h
      exact lv_dstore hx hb hd hl (z_roomdstore hi) rfl (fun LS' hl' => kk H locs LS' ⟨z_store2 (v := .inr (.inr (.inl x))) hl', z_okL_2 hol (rfl), z_okS_tl hos, hP, hS⟩)
    · cases h
  | dstore_n k =>
    have hd := (show decode (z_b m) pc = .ok (_, _) from hd)
    rcases hn9 with h9 | h9
    · cases h9
    subst h9
    dsimp only [z_st1] at h
    split at h
    · rename_i x r
      cases h
      exact lv_dstore_n hx hb hd rfl hl (z_roomdstore_n hi) rfl (fun LS' hl' => kk H locs LS' ⟨z_store2 (v := .inr (.inr (.inl x))) hl', z_okL_2 hol (rfl), z_okS_tl hos, hP, hS⟩)
    · cases h
  | iconst k =>
    have hd := (show decode (z_b m) pc = .ok (_, _) from hd)
    rcases hn9 with h9 | h9
    · cases h9
    subst h9
    dsimp only [z_st1] at h
    cases h
    exact lv_iconst hx hb hd (of_decide_eq_true hcc) (kk H locs LS ⟨hl, hol, hos, hP, hS⟩)
  | bipush k =>
    have hd := (show decode (z_b m) pc = .ok (_, _) from hd)
    rcases hn9 with h9 | h9
    · cases h9
    subst h9
    dsimp only [z_st1] at h
    cases h
    exact lv_bipush hx hb hd (of_decide_eq_true hcc) (kk H locs LS ⟨hl, hol, hos, hP, hS⟩)
  | sipush k =>
    have hd := (show decode (z_b m) pc = .ok (_, _) from hd)
    rcases hn9 with h9 | h9
    · cases h9
    subst h9
    dsimp only [z_st1] at h
    cases h
    exact lv_sipush hx hb hd (of_decide_eq_true hcc) (kk H locs LS ⟨hl, hol, hos, hP, hS⟩)
  | ldc_w k =>
    have hd := (show decode (z_b m) pc = .ok (_, _) from hd)
    rcases hn9 with h9 | h9
    · cases h9
    subst h9
    dsimp only [z_st1] at h
    split at h
    · rename_i v w hg
      cases h
      have hk := hlk
      unfold z_lnk at hk
      dsimp only at hk
      rw [hg] at hk
      exact lv_ldcw hx hb hown (hts _ (z_good_in (z_isW_in hk) rfl)) hd (kk H locs LS ⟨hl, hol, hos, hP, hS⟩)
    · cases h
  | ldc2_w k =>
    have hd := (show decode (z_b m) pc = .ok (_, _) from hd)
    rcases hn9 with h9 | h9
    · cases h9
    subst h9
    dsimp only [z_st1] at h
    have hk := hlk
    unfold z_lnk at hk
    dsimp only at hk
    obtain ⟨hk1, hk2⟩ := Bool.and_eq_true_iff.mp hk
    split at h
    · rename_i v w hg
      cases h
      rw [hg] at hk1
      exact lv_ldc2 hx hb hown (hts _ (z_good_in (z_isW_in hk1) rfl)) hd (kk H locs LS ⟨hl, hol, hos, hP, hS⟩)
    · split at h
      · rename_i v w hg
        cases h
        rw [hg] at hk2
        exact lv_ldc2d hx hb hown (hts _ (z_good_in (z_isW_in hk2) rfl)) hd (kk H locs LS ⟨hl, hol, hos, hP, hS⟩)
      · cases h
  | lconst k =>
    have hd := (show decode (z_b m) pc = .ok (_, _) from hd)
    rcases hn9 with h9 | h9
    · cases h9
    subst h9
    dsimp only [z_st1] at h
    cases h
    exact lv_lconst hx hb hd rfl (kk H locs LS ⟨hl, hol, hos, hP, hS⟩)
  | dconst k =>
    have hd := (show decode (z_b m) pc = .ok (_, _) from hd)
    rcases hn9 with h9 | h9
    · cases h9
    subst h9
    dsimp only [z_st1] at h
    match k, hd, h with
    | ⟨0, _⟩, hd, h =>
      cases h
      exact lv_dconst0 hx hb hd (kk H locs LS ⟨hl, hol, hos, hP, hS⟩)
    | ⟨1, _⟩, hd, h =>
      cases h
      exact lv_dconst1 hx hb hd (kk H locs LS ⟨hl, hol, hos, hP, hS⟩)
  | iinc k n =>
    have hd := (show decode (z_b m) pc = .ok (_, _) from hd)
    rcases hn9 with h9 | h9
    · cases h9
    subst h9
    dsimp only [z_st1] at h
    split at h
    · rename_i x hg
      cases h
      obtain ⟨j, hj⟩ := List.getElem?_of_mem ((z_asc_in (ad := ad) ls 0 (k, .int x)).mpr ⟨k, .inl x, hg, by rw [Nat.zero_add]; rfl⟩)
      exact lv_iinc hx hb hd hl hj (by rw [of_decide_eq_true hcc]) (z_roomiinc hi) rfl (fun LS' hl' => kk H locs LS' ⟨z_store1 (v := .inl (x + k0)) hl', z_okL_1 hol rfl, hos, hP, hS⟩)
    · cases h
  | goto off =>
    have hd := (show decode (z_b m) pc = .ok (_, _) from hd)
    rcases hn9 with h9 | h9
    · cases h9
    subst h9
    dsimp only [z_st1] at h
    cases h
    exact lv_goto hx hb hd (of_decide_eq_true hcc) (kk H locs LS ⟨hl, hol, hos, hP, hS⟩)
  | ifCond cd off =>
    have hd := (show decode (z_b m) pc = .ok (_, _) from hd)
    rcases hn9 with h9 | h9
    · cases h9
    subst h9
    dsimp only [z_st1] at h
    split at h
    · rename_i x r
      cases h
      have hos' := z_okS_tl hos
      cases cd with
      | eq => exact lv_if_eq hx hb hd (of_decide_eq_true hcc) (fun q => by have kk := kk H locs LS ⟨hl, hol, hos', hP, hS⟩; rw [show z_j1 .eq x t (pc + 3) = t from if_pos q] at kk; exact kk) (fun q => by have kk := kk H locs LS ⟨hl, hol, hos', hP, hS⟩; rw [show z_j1 .eq x t (pc + 3) = pc + 3 from if_neg q] at kk; exact kk)
      | ne => exact lv_if_ne hx hb hd (of_decide_eq_true hcc) (fun q => by have kk := kk H locs LS ⟨hl, hol, hos', hP, hS⟩; rw [show z_j1 .ne x t (pc + 3) = t from if_neg q] at kk; exact kk) (fun q => by have kk := kk H locs LS ⟨hl, hol, hos', hP, hS⟩; rw [show z_j1 .ne x t (pc + 3) = pc + 3 from if_pos q] at kk; exact kk)
      | lt => exact lv_if_lt hx hb hd (of_decide_eq_true hcc) (fun q => by have kk := kk H locs LS ⟨hl, hol, hos', hP, hS⟩; rw [show z_j1 .lt x t (pc + 3) = t from if_pos q] at kk; exact kk) (fun q => by have kk := kk H locs LS ⟨hl, hol, hos', hP, hS⟩; rw [show z_j1 .lt x t (pc + 3) = pc + 3 from if_neg q] at kk; exact kk)
      | ge => exact lv_if_ge hx hb hd (of_decide_eq_true hcc) (fun q => by have kk := kk H locs LS ⟨hl, hol, hos', hP, hS⟩; rw [show z_j1 .ge x t (pc + 3) = t from if_pos q] at kk; exact kk) (fun q => by have kk := kk H locs LS ⟨hl, hol, hos', hP, hS⟩; rw [show z_j1 .ge x t (pc + 3) = pc + 3 from if_neg q] at kk; exact kk)
      | gt => exact lv_if_gt hx hb hd (of_decide_eq_true hcc) (fun q => by have kk := kk H locs LS ⟨hl, hol, hos', hP, hS⟩; rw [show z_j1 .gt x t (pc + 3) = t from if_pos q] at kk; exact kk) (fun q => by have kk := kk H locs LS ⟨hl, hol, hos', hP, hS⟩; rw [show z_j1 .gt x t (pc + 3) = pc + 3 from if_neg q] at kk; exact kk)
      | le => exact lv_if_le hx hb hd (of_decide_eq_true hcc) (fun q => by have kk := kk H locs LS ⟨hl, hol, hos', hP, hS⟩; rw [show z_j1 .le x t (pc + 3) = t from if_pos q] at kk; exact kk) (fun q => by have kk := kk H locs LS ⟨hl, hol, hos', hP, hS⟩; rw [show z_j1 .le x t (pc + 3) = pc + 3 from if_neg q] at kk; exact kk)
    · cases h
  | if_icmp cd off =>
    have hd := (show decode (z_b m) pc = .ok (_, _) from hd)
    rcases hn9 with h9 | h9
    · cases h9
    subst h9
    dsimp only [z_st1] at h
    split at h
    · rename_i y x r
      cases h
      have hos' := z_okS_tl (z_okS_tl hos)
      cases cd with
      | eq => exact lv_icmp_eq hx hb hd (of_decide_eq_true hcc) (fun q => by have kk := kk H locs LS ⟨hl, hol, hos', hP, hS⟩; rw [show z_j2 .eq x y t (pc + 3) = t from if_pos q] at kk; exact kk) (fun q => by have kk := kk H locs LS ⟨hl, hol, hos', hP, hS⟩; rw [show z_j2 .eq x y t (pc + 3) = pc + 3 from if_neg q] at kk; exact kk)
      | ne => exact lv_icmp_ne hx hb hd (of_decide_eq_true hcc) (fun q => by have kk := kk H locs LS ⟨hl, hol, hos', hP, hS⟩; rw [show z_j2 .ne x y t (pc + 3) = t from if_neg q] at kk; exact kk) (fun q => by have kk := kk H locs LS ⟨hl, hol, hos', hP, hS⟩; rw [show z_j2 .ne x y t (pc + 3) = pc + 3 from if_pos q] at kk; exact kk)
      | lt => exact lv_icmp_lt hx hb hd (of_decide_eq_true hcc) (fun q => by have kk := kk H locs LS ⟨hl, hol, hos', hP, hS⟩; rw [show z_j2 .lt x y t (pc + 3) = t from if_pos q] at kk; exact kk) (fun q => by have kk := kk H locs LS ⟨hl, hol, hos', hP, hS⟩; rw [show z_j2 .lt x y t (pc + 3) = pc + 3 from if_neg q] at kk; exact kk)
      | ge => exact lv_icmp_ge hx hb hd (of_decide_eq_true hcc) (fun q => by have kk := kk H locs LS ⟨hl, hol, hos', hP, hS⟩; rw [show z_j2 .ge x y t (pc + 3) = t from if_pos q] at kk; exact kk) (fun q => by have kk := kk H locs LS ⟨hl, hol, hos', hP, hS⟩; rw [show z_j2 .ge x y t (pc + 3) = pc + 3 from if_neg q] at kk; exact kk)
      | gt => exact lv_icmp_gt hx hb hd (of_decide_eq_true hcc) (fun q => by have kk := kk H locs LS ⟨hl, hol, hos', hP, hS⟩; rw [show z_j2 .gt x y t (pc + 3) = t from if_pos q] at kk; exact kk) (fun q => by have kk := kk H locs LS ⟨hl, hol, hos', hP, hS⟩; rw [show z_j2 .gt x y t (pc + 3) = pc + 3 from if_neg q] at kk; exact kk)
      | le => exact lv_icmp_le hx hb hd (of_decide_eq_true hcc) (fun q => by have kk := kk H locs LS ⟨hl, hol, hos', hP, hS⟩; rw [show z_j2 .le x y t (pc + 3) = t from if_pos q] at kk; exact kk) (fun q => by have kk := kk H locs LS ⟨hl, hol, hos', hP, hS⟩; rw [show z_j2 .le x y t (pc + 3) = pc + 3 from if_neg q] at kk; exact kk)
    · cases h
  | tableswitch d lo1 hi1 offs =>
    dsimp only [z_st1] at h
    split at h
    · rename_i x r
      split at h
      · rename_i q hq
        cases h
        unfold z_tab at hq
        cases hc : (decide (x.toInt < lo1) || decide (hi1 < x.toInt))
        · rw [hc] at hq
          dsimp only [cond] at hq
          obtain ⟨g1, g2⟩ := Bool.or_eq_false_iff.mp hc
          split at hq
          · rename_i o ho
            have ht := z_ti_eq hq
            exact lv_tableIn hx hb hd (of_decide_eq_false g1) (of_decide_eq_false g2) ho ht (kk H locs LS ⟨hl, hol, z_okS_tl hos, hP, hS⟩)
          · cases hq
        · rw [hc] at hq
          dsimp only [cond] at hq
          have ht := z_ti_eq hq
          exact lv_tableOut hx hb hd (by rcases Bool.or_eq_true_iff.mp hc with g | g
                                         · exact Or.inl (of_decide_eq_true g)
                                         · exact Or.inr (of_decide_eq_true g)) ht (kk H locs LS ⟨hl, hol, z_okS_tl hos, hP, hS⟩)
      · cases h
    · cases h
  | lookupswitch d ps =>
    dsimp only [z_st1] at h
    split at h
    · rename_i x r
      split at h
      · rename_i q hq
        cases h
        unfold z_lkp at hq
        cases hc : ((ps.toList.zip (ps.toList.drop 1)).all (fun (a, next) => a.1 < next.1))
        · rw [hc] at hq
          cases hq
        · rw [hc] at hq
          exact lv_lookup hx hb hd hc rfl (z_ti_eq hq) (kk H locs LS ⟨hl, hol, z_okS_tl hos, hP, hS⟩)
      · cases h
    · cases h
  | iadd =>
    have hd := (show decode (z_b m) pc = .ok (_, _) from hd)
    rcases hn9 with h9 | h9
    · cases h9
    subst h9
    dsimp only [z_st1] at h
    split at h
    · cases h
      exact lv_iadd hx hb hd (kk H locs LS ⟨hl, hol, hos, hP, hS⟩)
    · cases h
  | isub =>
    have hd := (show decode (z_b m) pc = .ok (_, _) from hd)
    rcases hn9 with h9 | h9
    · cases h9
    subst h9
    dsimp only [z_st1] at h
    split at h
    · cases h
      exact lv_isub hx hb hd (kk H locs LS ⟨hl, hol, hos, hP, hS⟩)
    · cases h
  | imul =>
    have hd := (show decode (z_b m) pc = .ok (_, _) from hd)
    rcases hn9 with h9 | h9
    · cases h9
    subst h9
    dsimp only [z_st1] at h
    split at h
    · cases h
      exact lv_imul hx hb hd (kk H locs LS ⟨hl, hol, hos, hP, hS⟩)
    · cases h
  | iand =>
    have hd := (show decode (z_b m) pc = .ok (_, _) from hd)
    rcases hn9 with h9 | h9
    · cases h9
    subst h9
    dsimp only [z_st1] at h
    split at h
    · cases h
      exact lv_iand hx hb hd (kk H locs LS ⟨hl, hol, hos, hP, hS⟩)
    · cases h
  | ior =>
    have hd := (show decode (z_b m) pc = .ok (_, _) from hd)
    rcases hn9 with h9 | h9
    · cases h9
    subst h9
    dsimp only [z_st1] at h
    split at h
    · cases h
      exact lv_ior hx hb hd (kk H locs LS ⟨hl, hol, hos, hP, hS⟩)
    · cases h
  | ixor =>
    have hd := (show decode (z_b m) pc = .ok (_, _) from hd)
    rcases hn9 with h9 | h9
    · cases h9
    subst h9
    dsimp only [z_st1] at h
    split at h
    · cases h
      exact lv_ixor hx hb hd (kk H locs LS ⟨hl, hol, hos, hP, hS⟩)
    · cases h
  | ishl =>
    have hd := (show decode (z_b m) pc = .ok (_, _) from hd)
    rcases hn9 with h9 | h9
    · cases h9
    subst h9
    dsimp only [z_st1] at h
    split at h
    · cases h
      exact lv_ishl hx hb hd (kk H locs LS ⟨hl, hol, hos, hP, hS⟩)
    · cases h
  | ishr =>
    have hd := (show decode (z_b m) pc = .ok (_, _) from hd)
    rcases hn9 with h9 | h9
    · cases h9
    subst h9
    dsimp only [z_st1] at h
    split at h
    · cases h
      exact lv_ishr hx hb hd (kk H locs LS ⟨hl, hol, hos, hP, hS⟩)
    · cases h
  | idiv =>
    have hd := (show decode (z_b m) pc = .ok (_, _) from hd)
    rcases hn9 with h9 | h9
    · cases h9
    subst h9
    dsimp only [z_st1] at h
    split at h
    · cases h
      exact lv_idiv hx hb hd hA.1 (kk H locs LS ⟨hl, hol, hos, hP, hS⟩)
    · cases h
  | irem =>
    have hd := (show decode (z_b m) pc = .ok (_, _) from hd)
    rcases hn9 with h9 | h9
    · cases h9
    subst h9
    dsimp only [z_st1] at h
    split at h
    · cases h
      exact lv_irem hx hb hd hA.1 (kk H locs LS ⟨hl, hol, hos, hP, hS⟩)
    · cases h
  | ineg =>
    have hd := (show decode (z_b m) pc = .ok (_, _) from hd)
    rcases hn9 with h9 | h9
    · cases h9
    subst h9
    dsimp only [z_st1] at h
    split at h
    · cases h
      exact lv_ineg hx hb hd (kk H locs LS ⟨hl, hol, hos, hP, hS⟩)
    · cases h
  | iushr =>
    have hd := (show decode (z_b m) pc = .ok (_, _) from hd)
    rcases hn9 with h9 | h9
    · cases h9
    subst h9
    dsimp only [z_st1] at h
    split at h
    · cases h
      exact lv_iushr hx hb hd rfl (kk H locs LS ⟨hl, hol, hos, hP, hS⟩)
    · cases h
  | i2l =>
    have hd := (show decode (z_b m) pc = .ok (_, _) from hd)
    rcases hn9 with h9 | h9
    · cases h9
    subst h9
    dsimp only [z_st1] at h
    split at h
    · cases h
      exact lv_i2l hx hb hd rfl (kk H locs LS ⟨hl, hol, hos, hP, hS⟩)
    · cases h
  | lshl =>
    have hd := (show decode (z_b m) pc = .ok (_, _) from hd)
    rcases hn9 with h9 | h9
    · cases h9
    subst h9
    dsimp only [z_st1] at h
    split at h
    · cases h
      exact lv_lshl hx hb hd rfl (kk H locs LS ⟨hl, hol, hos, hP, hS⟩)
    · cases h
  | i2d =>
    have hd := (show decode (z_b m) pc = .ok (_, _) from hd)
    rcases hn9 with h9 | h9
    · cases h9
    subst h9
    dsimp only [z_st1] at h
    split at h
    · cases h
      exact lv_i2d hx hb hd (kk H locs LS ⟨hl, hol, hos, hP, hS⟩)
    · cases h
  | d2l =>
    have hd := (show decode (z_b m) pc = .ok (_, _) from hd)
    rcases hn9 with h9 | h9
    · cases h9
    subst h9
    dsimp only [z_st1] at h
    split at h
    · cases h
      exact lv_d2l hx hb hd (kk H locs LS ⟨hl, hol, hos, hP, hS⟩)
    · cases h
  | ladd =>
    have hd := (show decode (z_b m) pc = .ok (_, _) from hd)
    rcases hn9 with h9 | h9
    · cases h9
    subst h9
    dsimp only [z_st1] at h
    split at h
    · cases h
      exact lv_ladd hx hb hd (kk H locs LS ⟨hl, hol, hos, hP, hS⟩)
    · cases h
  | lsub =>
    have hd := (show decode (z_b m) pc = .ok (_, _) from hd)
    rcases hn9 with h9 | h9
    · cases h9
    subst h9
    dsimp only [z_st1] at h
    split at h
    · cases h
      exact lv_lsub hx hb hd (kk H locs LS ⟨hl, hol, hos, hP, hS⟩)
    · cases h
  | lmul =>
    have hd := (show decode (z_b m) pc = .ok (_, _) from hd)
    rcases hn9 with h9 | h9
    · cases h9
    subst h9
    dsimp only [z_st1] at h
    split at h
    · cases h
      exact lv_lmul hx hb hd (kk H locs LS ⟨hl, hol, hos, hP, hS⟩)
    · cases h
  | dcmp cd =>
    have hd := (show decode (z_b m) pc = .ok (_, _) from hd)
    rcases hn9 with h9 | h9
    · cases h9
    subst h9
    dsimp only [z_st1] at h
    split at h
    · cases h
      exact lv_dcmp hx hb hd (kk H locs LS ⟨hl, hol, hos, hP, hS⟩)
    · cases h
  | lcmp =>
    have hd := (show decode (z_b m) pc = .ok (_, _) from hd)
    rcases hn9 with h9 | h9
    · cases h9
    subst h9
    dsimp only [z_st1] at h
    split at h
    · cases h
      exact W.lcmp hx hb hd (kk H locs LS ⟨hl, hol, hos, hP, hS⟩)
    · cases h
  | dmul =>
    have hd := (show decode (z_b m) pc = .ok (_, _) from hd)
    rcases hn9 with h9 | h9
    · cases h9
    subst h9
    dsimp only [z_st1] at h
    split at h
    · cases h
      exact lv_dmul hx hb hd hA.1 (kk H locs LS ⟨hl, hol, hos, hP, hS⟩)
    · cases h
  | dsub =>
    have hd := (show decode (z_b m) pc = .ok (_, _) from hd)
    rcases hn9 with h9 | h9
    · cases h9
    subst h9
    dsimp only [z_st1] at h
    split at h
    · cases h
      exact lv_dsub hx hb hd hA.1 (kk H locs LS ⟨hl, hol, hos, hP, hS⟩)
    · cases h
  | ddiv =>
    have hd := (show decode (z_b m) pc = .ok (_, _) from hd)
    rcases hn9 with h9 | h9
    · cases h9
    subst h9
    dsimp only [z_st1] at h
    split at h
    · cases h
      exact lv_ddiv hx hb hd hA.1 (kk H locs LS ⟨hl, hol, hos, hP, hS⟩)
    · cases h
  | dup =>
    have hd := (show decode (z_b m) pc = .ok (_, _) from hd)
    rcases hn9 with h9 | h9
    · cases h9
    subst h9
    dsimp only [z_st1] at h
    split at h
    · rename_i a r
      cases hc : z_cat2 a
      · rw [hc] at h
        cases h
        exact lv_dup hx hb hd (by rw [cv_cat, hc]; rfl) (kk H locs LS ⟨hl, hol, z_okS_mk (z_okS_hd hos) hos, hP, hS⟩)
      · rw [hc] at h; cases h
    · cases h
  | dup2 =>
    have hd := (show decode (z_b m) pc = .ok (_, _) from hd)
    rcases hn9 with h9 | h9
    · cases h9
    subst h9
    dsimp only [z_st1] at h
    split at h
    · rename_i u v r
      cases hc : (z_cat2 u || z_cat2 v)
      · rw [hc] at h
        cases h
        obtain ⟨g1, g2⟩ := Bool.or_eq_false_iff.mp hc
        exact lv_dup2_11 hx hb hd (by rw [cv_cat, g1]; rfl) (by rw [cv_cat, g2]; rfl) (kk H locs LS ⟨hl, hol, z_okS_mk (z_okS_hd hos) (z_okS_mk (z_okS_hd (z_okS_tl hos)) hos), hP, hS⟩)
      · rw [hc] at h; cases h
    · cases h
  | arraylength =>
    have hd := (show decode (z_b m) pc = .ok (_, _) from hd)
    rcases hn9 with h9 | h9
    · cases h9
    subst h9
    dsimp only [z_st1] at h
    split at h
    · rename_i f q r
      split at h
      · rename_i hob
        cases h
        cases hq : Nat.beq q 41
        · rw [hq] at kk
          have hv := z_okv_val (z_okS_hd hos) hq
          obtain ⟨t0, cA, vA, ha, ht0, hsz⟩ := z_en_any (ad := ad) (cs := cs) (M := M) (f := f) hob
          obtain ⟨ty, ht0⟩ := ht0
          have hg := z_W_get (ad := ad) (cs := cs) (M := M) hv
          rw [ha] at hg
          have kk2 := kk H locs LS ⟨hl, hol, z_okS_tl hos, hP, hS⟩
          exact va_alen (v := Int32.ofNat (z_sz q)) hx hb hK hP _ t0 hg ht0 (by rw [hsz]) hd kk2
        · have e1 := Nat.eq_of_beq_eq_true hq
          subst e1
          have e2 := z_okv_41 (z_okS_hd hos)
          subst e2
          obtain ⟨-, -, -, -, -, -, -, -, -, hX, hbl, hbA⟩ := hcx
          rw [← hab] at hX hbl hbA
          rw [← hH0] at hX hbl
          exact va_slen hx hb hX hbl hbA hS hd (kk H locs LS ⟨hl, hol, z_okS_tl hos, hP, hS⟩)
      · cases h
    · cases h
  | iaload =>
    have hd := (show decode (z_b m) pc = .ok (_, _) from hd)
    rcases hn9 with h9 | h9
    · cases h9
    subst h9
    dsimp only [z_st1] at h
    split at h
    · rename_i j f q r
      split at h
      · cases h
      · rename_i hob
        split at h
        · rename_i hak
          cases hq : Nat.beq q 41
          · rw [hq] at h
            cases h
            have hv := z_okv_val (z_okS_hd (z_okS_tl hos)) hq
            have hg := z_W_get (ad := ad) (cs := cs) (M := M) hv
            rw [show z_en ad cs M f q = .inl (cs 0, z_sz q, .inl (fun k => z_ri M f q k)) by unfold z_en; rw [hob]; dsimp only; rw [hak]; rfl] at hg
            exact va_iald hx hb hK hP _ 0 hg rfl (z_inb_vp hA.1) hd (kk H locs LS ⟨hl, hol, z_okS_tl (z_okS_tl hos), hP, hS⟩)
          · rw [hq] at h
            cases h
            have e1 := Nat.eq_of_beq_eq_true hq
            subst e1
            have e2 := z_okv_41 (z_okS_hd (z_okS_tl hos))
            subst e2
            obtain ⟨-, -, -, -, -, -, -, -, -, hX, hbl, hbA⟩ := hcx
            rw [← hab] at hX hbl hbA
            rw [← hH0] at hX hbl
            exact va_sld hx hb hX hbl hbA hS (z_inb_vp hA.1) hd (kk H locs LS ⟨hl, hol, z_okS_tl (z_okS_tl hos), hP, hS⟩)
        · cases h
    · cases h
  | iastore =>
    have hd := (show decode (z_b m) pc = .ok (_, _) from hd)
    rcases hn9 with h9 | h9
    · cases h9
    subst h9
    dsimp only [z_st1] at h
    split at h
    · rename_i x j f q r
      split at h
      · cases h
      · rename_i hob
        split at h
        · rename_i hak
          cases hq : Nat.beq q 41
          · rw [hq] at h
            cases h
            have hos3 := z_okS_tl (z_okS_tl hos)
            have hv := z_okv_val (z_okS_hd hos3) hq
            have hg := z_W_get (ad := ad) (cs := cs) (M := M) hv
            rw [show z_en ad cs M f q = .inl (cs 0, z_sz q, .inl (fun k => z_ri M f q k)) by unfold z_en; rw [hob]; dsimp only; rw [hak]; rfl] at hg
            refine va_iast hx hb hK hP hD hS _ 0 hg rfl (z_inb_vp hA.1) hd (fun H1 locs1 hP1 _ hS1 => ?_)
            rw [z_W_set (M' := z_wi M f q j.toNatClampNeg x) hv (z_en_arr hv hob hak) (fun f' p' h1 h2 => z_wi_ne hv h1 h2)] at hP1
            exact kk H1 locs1 LS ⟨hl, hol, z_okS_tl hos3, hP1, hS1⟩
          · rw [hq] at h
            cases h
        · cases h
    · cases h
  | laload =>
    have hd := (show decode (z_b m) pc = .ok (_, _) from hd)
    rcases hn9 with h9 | h9
    · cases h9
    subst h9
    dsimp only [z_st1] at h
    split at h
    · rename_i j f q r
      cases hq : Nat.beq q 40
      · rw [hq] at h; cases h
      · rw [hq] at h
        cases h
        have e1 := Nat.eq_of_beq_eq_true hq
        subst e1
        have hv := z_okv_val (z_okS_hd (z_okS_tl hos)) rfl
        have hg := z_W_get (ad := ad) (cs := cs) (M := M) hv
        exact va_lald hx hb hK hP _ 1 hg rfl (z_inb_vp hA.1) hd (kk H locs LS ⟨hl, hol, z_okS_tl (z_okS_tl hos), hP, hS⟩)
    · cases h
  | lastore =>
    have hd := (show decode (z_b m) pc = .ok (_, _) from hd)
    rcases hn9 with h9 | h9
    · cases h9
    subst h9
    dsimp only [z_st1] at h
    split at h
    · rename_i x j f q r
      cases hq : Nat.beq q 40
      · rw [hq] at h; cases h
      · rw [hq] at h
        cases h
        have e1 := Nat.eq_of_beq_eq_true hq
        subst e1
        have hos3 := z_okS_tl (z_okS_tl hos)
        have hv := z_okv_val (z_okS_hd hos3) rfl
        have hg := z_W_get (ad := ad) (cs := cs) (M := M) hv
        have hf0 : f = 0 := Nat.eq_of_beq_eq_true hv
        subst hf0
        have hin := z_inb_vp hA.1
        refine va_last hx hb hK hP hD hS _ 1 hg rfl hin hd (fun H1 locs1 hP1 _ hS1 => ?_)
        have hj : j.toNatClampNeg = 0 := by
          have h3 : ¬ 1 ≤ j.toNatClampNeg := fun q => hin (Or.inr q)
          omega
        have hP1 := z_P_len (g := fun _ => x) hP1 (fun k hk => by rw [hj]; unfold vp_updL; rw [if_pos (by omega)])
        rw [z_W_set (M' := (M.1, M.2.1, vp_updL M.2.2 1 x)) hv (by rfl) (fun f' p' h1 h2 => z_l1_ne h1 h2)] at hP1
        exact kk H1 locs1 LS ⟨hl, hol, z_okS_tl hos3, hP1, hS1⟩
    · cases h
  | aaload =>
    have hd := (show decode (z_b m) pc = .ok (_, _) from hd)
    rcases hn9 with h9 | h9
    · cases h9
    subst h9
    dsimp only [z_st1] at h
    split at h
    · rename_i j f q r
      have hq : Nat.beq q 41 = false := by
        cases hq : Nat.beq q 41
        · rfl
        · have e1 := Nat.eq_of_beq_eq_true hq
          subst e1
          cases h
      have hv := z_okv_val (z_okS_hd (z_okS_tl hos)) hq
      have hg := z_W_get (ad := ad) (cs := cs) (M := M) hv
      split at h
      · rename_i hak
        cases h
        have e1 : q = 17 := z_ak_2 hak
        subst e1
        have hin := z_inb_vp hA.1
        refine va_aldq hx hb hK hP _ 2 hg rfl hin hd (kk H locs LS ⟨hl, hol, z_okS_mk ?_ (z_okS_tl (z_okS_tl hos)), hP, hS⟩)
        have h3 : ¬ 6 ≤ j.toNatClampNeg := fun q => hin (Or.inr q)
        exact Nat.ble_eq.mpr (by omega : 2 + j.toNatClampNeg + 1 ≤ 8)
      · rename_i hak
        cases h
        have e1 : q = 10 := z_ak_3 hak
        subst e1
        have hin := z_inb_vp hA.1
        have h3 : ¬ 7 ≤ j.toNatClampNeg := fun q => hin (Or.inr q)
        have hf8 : f + 1 ≤ 8 := Nat.ble_eq.mp hv
        refine z_aldr hx hb hK hP hg hin hd (kk H locs LS ⟨hl, hol, z_okS_mk ?_ (z_okS_tl (z_okS_tl hos)), hP, hS⟩)
        exact Nat.ble_eq.mpr (by omega : 7 * f + j.toNatClampNeg + 1 ≤ 56)
      · cases h
    · cases h
  | getfield k =>
    have hd := (show decode (z_b m) pc = .ok (_, _) from hd)
    rcases hn9 with h9 | h9
    · cases h9
    subst h9
    dsimp only [z_st1] at h
    split at h
    · rename_i f q r
      cases hf : z_fld (z_own m) k with
      | none => rw [hf] at h; cases h
      | some w =>
      obtain ⟨c1, s1, n1, v1⟩ := w
      cases hob : z_obj q with
      | none => rw [hf, hob] at h; cases h
      | some w2 =>
      obtain ⟨c2, n2⟩ := w2
      rw [hf, hob] at h
      dsimp only at h
      · skip
        cases hc : (Nat.beq c1 c2 && Nat.blt s1 n2)
        · rw [hc] at h; cases h
        · rw [hc] at h
          cases h
          obtain ⟨g1, g2⟩ := Bool.and_eq_true_iff.mp hc
          have e1 := Nat.eq_of_beq_eq_true g1
          subst e1
          have g3 : s1 < n2 := Nat.ble_eq.mp g2
          obtain ⟨hc6, hn2⟩ := z_obj_nf hob
          subst hn2
          have hv := z_okv_val (z_okS_hd hos) (z_obj_41 hob)
          have hg := z_W_get (ad := ad) (cs := cs) (M := M) hv
          rw [show z_en ad cs M f q = .inr (c1, (List.range (z_nf c1)).map fun k => cv ad (z_rd M f q k)) by unfold z_en; rw [hob]] at hg
          have hk := hlk
          unfold z_lnk at hk
          dsimp only at hk
          rw [hf] at hk
          dsimp only at hk
          have hw := z_isW_in (Bool.and_eq_true_iff.mp (Bool.and_eq_true_iff.mp hk).1).1
          have hval : ((List.range (z_nf c1)).map fun k => cv ad (z_rd M f q k))[s1]? = some (cv ad (z_rd M f q s1)) := by rw [List.getElem?_map, List.getElem?_range g3]; rfl
          have kk := kk H locs LS ⟨hl, hol, z_okS_mk (z_rd_ok hv hob g3) (z_okS_tl hos), hP, hS⟩
          cases n1 with
          | false => exact va_get (ref := (z_T c1 s1).1) hx hb hts (z_lays c1 hc6) hown hK hP _ hg (z_cl_ok c1 hc6) s1 g3 (hts _ (z_good_in hw rfl)) (fun _ h9 => h9) hval hd kk
          | true => exact va_getN (ref := (z_T c1 s1).1) (host := "IslandReserve") hx hb hts (z_lays c1 hc6) hown hK hP _ hg (z_cl_ok c1 hc6) s1 g3 (va_Nw.use rfl (hcx.2.2.2.1 _ (z_misc_in hw rfl))) (fun _ h9 => h9) hval hd kk
    · cases h
  | putfield k =>
    have hd := (show decode (z_b m) pc = .ok (_, _) from hd)
    rcases hn9 with h9 | h9
    · cases h9
    subst h9
    dsimp only [z_st1] at h
    split at h
    · rename_i x f q r
      cases hf : z_fld (z_own m) k with
      | none => rw [hf] at h; cases h
      | some w =>
      obtain ⟨c1, s1, n1, v1⟩ := w
      cases hob : z_obj q with
      | none => rw [hf, hob] at h; cases h
      | some w2 =>
      obtain ⟨c2, n2⟩ := w2
      rw [hf, hob] at h
      dsimp only at h
      · skip
        cases hc : (Nat.beq c1 c2 && Nat.blt s1 n2)
        · rw [hc] at h; cases h
        · rw [hc] at h
          dsimp only [cond] at h
          obtain ⟨g1, g2⟩ := Bool.and_eq_true_iff.mp hc
          have e1 := Nat.eq_of_beq_eq_true g1
          subst e1
          have g3 : s1 < n2 := Nat.ble_eq.mp g2
          obtain ⟨hc6, hn2⟩ := z_obj_nf hob
          subst hn2
          have hv := z_okv_val (z_okS_hd (z_okS_tl hos)) (z_obj_41 hob)
          have hg := z_W_get (ad := ad) (cs := cs) (M := M) hv
          rw [show z_en ad cs M f q = .inr (c1, (List.range (z_nf c1)).map fun k => cv ad (z_rd M f q k)) by unfold z_en; rw [hob]] at hg
          have hk := hlk
          unfold z_lnk at hk
          dsimp only at hk
          rw [hf] at hk
          dsimp only at hk
          have hw := z_isW_in (Bool.and_eq_true_iff.mp (Bool.and_eq_true_iff.mp hk).1).1
          split at h
          · rename_i y hy
            have hc' : c' = (pc + 3, ls, r, z_wi M f q s1 x) ∧ (z_fb q s1 = true → z_isB x = true) := by
              cases hfb : z_fb q s1
              · rw [hfb] at h; cases h; exact ⟨rfl, fun w => by cases w⟩
              · rw [hfb] at h; cases h; exact ⟨rfl, fun _ => hA.1⟩
            obtain ⟨e2, hbool⟩ := hc'
            subst e2
            obtain ⟨hfin, hty⟩ := z_put_ok hob g3 hy
            have hnar : narrow (z_tyT c1 s1) (.int x) = .int x ∧ fits (z_tyT c1 s1) (.int x) = true := by
              rw [hty]
              cases hfb : z_fb q s1
              · exact ⟨rfl, rfl⟩
              · exact ⟨z_isB_nar (hbool hfb), z_isB_fit (hbool hfb)⟩
            have hln : s1 < ((List.range (z_nf c1)).map fun k => cv ad (z_rd M f q k)).length := by rw [List.length_map, List.length_range]; exact g3
            have kk : ∀ (H1 : Heap) (locs1 : List Loc), va_P D vwCl ((z_W ad cs M).set (z_ix f q) (ad f q, .inr (c1, ((List.range (z_nf c1)).map fun k => cv ad (z_rd M f q k)).set s1 (.int x)))) H1 → va_D A ((z_W ad cs M).set (z_ix f q) (ad f q, .inr (c1, ((List.range (z_nf c1)).map fun k => cv ad (z_rd M f q k)).set s1 (.int x)))) → va_S A H0 H1 locs1 → W p l e R s mi args below meth c H1 locs1 cells slots Q (F0 mi (pc + 3) LS (r.map (cv ad))) := by
              intro H1 locs1 hP1 _ hS1
              rw [z_W_set (M' := z_wi M f q s1 x) hv (z_en_obj hv hob hy g3) (fun f' p' h1 h2 => z_wi_ne hv h1 h2)] at hP1
              exact kk H1 locs1 LS ⟨hl, hol, z_okS_tl (z_okS_tl hos), hP1, hS1⟩
            cases n1 with
            | false => exact va_put (ref := (z_T c1 s1).1) hx hb hts (z_lays c1 hc6) (z_tyT c1) (z_ty_ok c1 hc6) (z_nm_ok c1 hc6) hown hK hP hD hS _ hg (z_cl_ok c1 hc6) s1 g3 (hts _ (z_good_in hw rfl)) (fun _ h9 => h9) hfin (z_ty_ok c1 hc6 s1 g3) hnar.1 hnar.2 hln hd kk
            | true => exact va_putN (ref := (z_T c1 s1).1) (host := "IslandReserve") hx hb hts (z_lays c1 hc6) (z_tyT c1) (z_ty_ok c1 hc6) (z_nm_ok c1 hc6) hown hK hP hD hS _ hg (z_cl_ok c1 hc6) s1 g3 (va_Nw.use rfl (hcx.2.2.2.1 _ (z_misc_in hw rfl))) (fun _ h9 => h9) hfin (z_ty_ok c1 hc6 s1 g3) hnar.1 hnar.2 hln hd kk
          · cases h
    · rename_i x f q r
      cases hf : z_fld (z_own m) k with
      | none => rw [hf] at h; cases h
      | some w =>
      obtain ⟨c1, s1, n1, v1⟩ := w
      cases hob : z_obj q with
      | none => rw [hf, hob] at h; cases h
      | some w2 =>
      obtain ⟨c2, n2⟩ := w2
      rw [hf, hob] at h
      dsimp only at h
      · skip
        cases hc : (Nat.beq c1 c2 && Nat.beq c1 5 && Nat.beq s1 18 && Nat.beq q 32)
        · rw [hc] at h; cases h
        · rw [hc] at h
          cases h
          obtain ⟨g1, g4⟩ := Bool.and_eq_true_iff.mp hc
          obtain ⟨g1, g3⟩ := Bool.and_eq_true_iff.mp g1
          obtain ⟨g1, g2⟩ := Bool.and_eq_true_iff.mp g1
          have e2 := Nat.eq_of_beq_eq_true g2
          have e3 := Nat.eq_of_beq_eq_true g3
          have e4 := Nat.eq_of_beq_eq_true g4
          subst e2; subst e3; subst e4
          have hv := z_okv_val (z_okS_hd (z_okS_tl hos)) rfl
          have hg := z_W_get (ad := ad) (cs := cs) (M := M) hv
          have hk := hlk
          unfold z_lnk at hk
          dsimp only at hk
          rw [hf] at hk
          dsimp only at hk
          have hw := z_isW_in (Bool.and_eq_true_iff.mp (Bool.and_eq_true_iff.mp hk).1).1
          have hf0 : f = 0 := Nat.eq_of_beq_eq_true hv
          subst hf0
          have kk : ∀ (H1 : Heap) (locs1 : List Loc), va_P D vwCl ((z_W ad cs M).set (z_ix 0 32) (ad 0 32, .inr (5, ((List.range 19).map fun k => cv ad (z_rd M 0 32 k)).set 18 (.long x)))) H1 → va_D A ((z_W ad cs M).set (z_ix 0 32) (ad 0 32, .inr (5, ((List.range 19).map fun k => cv ad (z_rd M 0 32 k)).set 18 (.long x)))) → va_S A H0 H1 locs1 → W p l e R s mi args below meth c H1 locs1 cells slots Q (F0 mi (pc + 3) LS (r.map (cv ad))) := by
            intro H1 locs1 hP1 _ hS1
            rw [z_W_set (M' := (M.1, M.2.1, vp_updL M.2.2 0 x)) hv (by rfl) (fun f' p' h1 h2 => z_l0_ne h1 h2)] at hP1
            exact kk H1 locs1 LS ⟨hl, hol, z_okS_tl (z_okS_tl hos), hP1, hS1⟩
          cases n1 with
          | false => exact va_put (ref := (z_T 5 18).1) hx hb hts (z_lays 5 (by decide)) (z_tyT 5) (z_ty_ok 5 (by decide)) (z_nm_ok 5 (by decide)) hown hK hP hD hS _ hg (z_cl_ok 5 (by decide)) 18 (by decide) (hts _ (z_good_in hw rfl)) (fun _ h9 => h9) rfl (z_ty_ok 5 (by decide) 18 (by decide)) rfl rfl (by rw [List.length_map, List.length_range]; decide) hd kk
          | true => exact va_putN (ref := (z_T 5 18).1) (host := "IslandReserve") hx hb hts (z_lays 5 (by decide)) (z_tyT 5) (z_ty_ok 5 (by decide)) (z_nm_ok 5 (by decide)) hown hK hP hD hS _ hg (z_cl_ok 5 (by decide)) 18 (by decide) (va_Nw.use rfl (hcx.2.2.2.1 _ (z_misc_in hw rfl))) (fun _ h9 => h9) rfl (z_ty_ok 5 (by decide) 18 (by decide)) rfl rfl (by rw [List.length_map, List.length_range]; decide) hd kk
    · cases h
  | invokestatic k =>
    have hd := (show decode (z_b m) pc = .ok (_, _) from hd)
    rcases hn9 with h9 | h9
    · cases h9
    subst h9
    dsimp only [z_st1] at h
    have hk := hlk
    unfold z_lnk at hk
    dsimp only at hk
    split at h
    · rename_i hsp
      rw [hsp] at hk
      dsimp only at hk
      have hw := z_isW_in (Bool.and_eq_true_iff.mp (Bool.and_eq_true_iff.mp (Bool.and_eq_true_iff.mp hk).1).1).1
      have hf1 := Nat.ble_eq.mp (Bool.and_eq_true_iff.mp (Bool.and_eq_true_iff.mp (Bool.and_eq_true_iff.mp hk).1).1).2
      have hf2 := Nat.ble_eq.mp (Bool.and_eq_true_iff.mp (Bool.and_eq_true_iff.mp hk).1).2
      split at h
      · rename_i n dp f2 p2 sp f1 p1 r
        split at h
        · rename_i ho1 ho2
          cases hc : (Nat.beq (z_ak p1) 0 && Nat.beq (z_ak p2) 0 && Nat.blt p1 32 && Nat.blt p2 32 && Nat.blt (z_sl r) 9)
          · rw [hc] at h; cases h
          · rw [hc] at h
            cases h
            obtain ⟨g1, g5⟩ := Bool.and_eq_true_iff.mp hc
            obtain ⟨g1, g4⟩ := Bool.and_eq_true_iff.mp g1
            obtain ⟨g1, g3⟩ := Bool.and_eq_true_iff.mp g1
            obtain ⟨g1, g2⟩ := Bool.and_eq_true_iff.mp g1
            have k1 := Nat.eq_of_beq_eq_true g1
            have k2 := Nat.eq_of_beq_eq_true g2
            have k3 : p1 < 32 := Nat.ble_eq.mp g3
            have k4 : p2 < 32 := Nat.ble_eq.mp g4
            have k5 : z_sl r < 9 := Nat.ble_eq.mp g5
            have hos4 := z_okS_tl (z_okS_tl hos)
            have hos6 := z_okS_tl (z_okS_tl hos4)
            have hv2 := z_okv_val (z_okS_hd hos4) (z_beq_ne (by omega))
            have hv1 := z_okv_val (z_okS_hd hos6) (z_beq_ne (by omega))
            have hg1 := z_W_get (ad := ad) (cs := cs) (M := M) hv1
            have hg2 := z_W_get (ad := ad) (cs := cs) (M := M) hv2
            rw [show z_en ad cs M f1 p1 = .inl (cs 0, z_sz p1, .inl (fun k => z_ri M f1 p1 k)) by unfold z_en; rw [ho1]; dsimp only; rw [k1]; rfl] at hg1
            rw [show z_en ad cs M f2 p2 = .inl (cs 0, z_sz p2, .inl (fun k => z_ri M f2 p2 k)) by unfold z_en; rw [ho2]; dsimp only; rw [k2]; rfl] at hg2
            obtain ⟨q1, q2, q3, q4, q5⟩ := z_cpo_ok hA.1
            refine va_copyi hx hb (hml.trans hl.1.symm) hown (hts _ (z_good_in hw rfl)) (hts _ (z_good_in z_w_nat rfl)) (hts _ (z_good_in z_w_stc rfl)) (hts _ (z_good_in z_w_ini rfl)) hK hP hD hS _ _ 0 0 hg1 hg2 rfl rfl rfl q1 q2 q3 q4 q5 (fun _ _ => rfl) (by omega) (by rw [z_sl_map]; exact Nat.le_trans (z_natw k5) (by omega)) hd (fun H1 locs1 hP1 _ hS1 => ?_)
            rw [z_W_set (M' := (z_cpy M.1 f1 p1 f2 p2 sp.toNatClampNeg dp.toNatClampNeg n.toNatClampNeg, M.2)) hv2 (z_cpy_en hv2 ho2 k2 k3 k4) (fun f' p' h1 h2 => z_cpy_ne h2)] at hP1
            exact kk H1 locs1 LS ⟨hl, hol, z_okS_tl hos6, hP1, hS1⟩
        · cases h
      · cases h
    · rename_i hsp
      rw [hsp] at hk
      dsimp only at hk
      have hw := z_isW_in (Bool.and_eq_true_iff.mp (Bool.and_eq_true_iff.mp (Bool.and_eq_true_iff.mp hk).1).1).1
      have hf1 := Nat.ble_eq.mp (Bool.and_eq_true_iff.mp (Bool.and_eq_true_iff.mp (Bool.and_eq_true_iff.mp hk).1).1).2
      have hf2 := Nat.ble_eq.mp (Bool.and_eq_true_iff.mp (Bool.and_eq_true_iff.mp hk).1).2
      split at h
      · rename_i y x r
        cases hc : Nat.blt (z_sl r) 9
        · rw [hc] at h; cases h
        · rw [hc] at h
          cases h
          have k5 : z_sl r < 9 := Nat.ble_eq.mp hc
          exact va_mmax hx hb (hml.trans hl.1.symm) hown (hts _ (z_good_in hw rfl)) (hts _ (z_good_in z_w_mxs rfl)) (hts _ (z_good_in z_w_mi rfl)) (hts _ (z_good_in z_w_mxc rfl)) (by omega) (by rw [z_sl_map]; omega) hce hsl hd (kk H locs LS ⟨hl, hol, z_okS_tl (z_okS_tl hos), hP, hS⟩)
      · cases h
    · rename_i hsp
      rw [hsp] at hk
      dsimp only at hk
      have hw := z_isW_in (Bool.and_eq_true_iff.mp (Bool.and_eq_true_iff.mp (Bool.and_eq_true_iff.mp hk).1).1).1
      have hf1 := Nat.ble_eq.mp (Bool.and_eq_true_iff.mp (Bool.and_eq_true_iff.mp (Bool.and_eq_true_iff.mp hk).1).1).2
      have hf2 := Nat.ble_eq.mp (Bool.and_eq_true_iff.mp (Bool.and_eq_true_iff.mp hk).1).2
      split at h
      · rename_i y x r
        cases hc : Nat.blt (z_sl r) 9
        · rw [hc] at h; cases h
        · rw [hc] at h
          cases h
          have k5 : z_sl r < 9 := Nat.ble_eq.mp hc
          exact va_mmin hx hb (hml.trans hl.1.symm) hown (hts _ (z_good_in hw rfl)) (hts _ (z_good_in z_w_mns rfl)) (hts _ (z_good_in z_w_mi rfl)) (hts _ (z_good_in z_w_mnc rfl)) (by omega) (by rw [z_sl_map]; omega) hce hsl hd (kk H locs LS ⟨hl, hol, z_okS_tl (z_okS_tl hos), hP, hS⟩)
      · cases h
    · cases h
  | _ => (dsimp only [z_st1] at h; cases h)
end ZS
end
section

/-! A RUN IS SOUND: what the interpreter runs, the machine runs -/
def z_ex (e : Nat) : String := match e with
  | 0 => "java/lang/IllegalArgumentException"
  | 1 => "java/lang/IllegalStateException"
  | _ => "java/lang/IndexOutOfBoundsException"
def z_Qc (D : va_G) (ad : z_ad) (cs : Nat → ClassId) (A : Nat → Prop) (o : z_Rs) (M' : Mem) : Array Value → State → Outcome → State → Prop := fun _ st oc t => (∃ v, o = .inl v ∧ oc = .returned (v.map (cv ad)) ∧ va_P D vwCl (z_W ad cs M') t.heap) ∧ va_F A st t
def z_XC (D : va_G) (ad : z_ad) (cs : Nat → ClassId) (A : Nat → Prop) (o : z_Rs) (M' : Mem) : String → State → State → Prop := fun E st t => (∃ e, o = .inr e ∧ E = z_ex e ∧ va_P D vwCl (z_W ad cs M') t.heap) ∧ va_F A st t
def z_Pc (D : va_G) (ad : z_ad) (cs : Nat → ClassId) (A : Nat → Prop) (b L : Nat) (xs : Nat → Int32) (sa : Nat → Nat) (M : Mem) (as : List AV) : Array Value → State → Prop := va_Pc (as.map (cv ad)) (fun U => z_cx D cs A b L xs sa U ∧ va_P D vwCl (z_W ad cs M) U.heap)
def z_room (m k : Nat) : Room := { frames := z_FR m, cells := k, slots := 6 * k, locals := z_LR m }
def z_ws (m : Nat) : List Cond := z_codeW m :: z_good
-- the entry
theorem z_asc_ent (ad : z_ad) : ∀ (as : List AV) (i : Nat), z_asc ad i (z_entL as) = lv_args i (as.map (cv ad))
  | [], _ => rfl
  | v :: t, i => by
    have hc := cv_cat ad v
    cases h2 : z_cat2 v with
    | true =>
      rw [h2] at hc
      have h1 : (cv ad v).category = 2 := hc
      unfold z_entL
      rw [h2]
      show (i, cv ad v) :: z_asc ad (i + 2) (z_entL t) = (i, cv ad v) :: lv_args (if (cv ad v).category = 2 then i + 2 else i + 1) (t.map (cv ad))
      rw [if_pos h1, z_asc_ent ad t]
    | false =>
      rw [h2] at hc
      have h1 : (cv ad v).category = 1 := hc
      unfold z_entL
      rw [h2]
      show (i, cv ad v) :: z_asc ad (i + 1) (z_entL t) = (i, cv ad v) :: lv_args (if (cv ad v).category = 2 then i + 2 else i + 1) (t.map (cv ad))
      rw [if_neg (by omega), z_asc_ent ad t]
theorem z_get_pad : ∀ (n : Nat) (l : Lc) (j : Nat) (v : AV), z_get (z_pad n l) j = some v → z_get l j = some v
  | 0, l, j, v, h => h
  | n + 1, [], 0, v, h => by cases h
  | n + 1, [], j + 1, v, h => by have h1 := z_get_pad n [] j v h; cases h1
  | n + 1, x :: t, 0, v, h => h
  | n + 1, x :: t, j + 1, v, h => z_get_pad n t j v h
theorem z_has_entry {ad : z_ad} {as : List AV} {n : Nat} {LS : Array Slot} (h : lv_has LS n (lv_args 0 (as.map (cv ad)))) : lv_has LS n (z_asc ad 0 (z_pad n (z_entL as))) := by
  refine z_has_mem h fun q hq => ?_
  obtain ⟨j, v, h1, h2⟩ := (z_asc_in _ _ _).mp hq
  rw [← z_asc_ent]
  exact (z_asc_in _ _ _).mpr ⟨j, v, z_get_pad _ _ _ _ h1, h2⟩
theorem z_okL_pad : ∀ (n : Nat) (l : Lc), z_okL l = true → z_okL (z_pad n l) = true
  | 0, l, h => h
  | n + 1, [], _ => z_okL_pad n [] rfl
  | n + 1, none :: t, h => z_okL_pad n t h
  | n + 1, some v :: t, h => by
    have h' : (z_okv v && z_okL t) = true := h
    obtain ⟨h1, h2⟩ := Bool.and_eq_true_iff.mp h'
    show (z_okv v && z_okL (z_pad n t)) = true
    rw [h1, z_okL_pad n t h2]
    rfl
theorem z_okL_ent : ∀ (as : List AV), z_okS as = true → z_okL (z_entL as) = true
  | [], _ => rfl
  | v :: t, h => by
    have ih := z_okL_ent t (z_okS_tl h)
    unfold z_entL
    cases z_cat2 v
    · show (z_okv v && z_okL (z_entL t)) = true
      rw [z_okS_hd h, ih]
      rfl
    · show (z_okv v && z_okL (z_entL t)) = true
      rw [z_okS_hd h, ih]
      rfl
theorem z_sl_lg (ad : z_ad) : ∀ as : List AV, (lg_sl (as.map (cv ad))).length = z_sl as
  | [] => rfl
  | v :: t => by
    have ih := z_sl_lg ad t
    have hc := cv_cat ad v
    unfold lg_sl at ih ⊢
    rw [List.map_cons, List.flatMap_cons, List.length_append, ih]
    show _ = (bif z_cat2 v then 2 else 1) + z_sl t
    rw [hc]
    cases z_cat2 v <;> rfl
theorem z_okS_app : ∀ {a b : List AV}, z_okS (a ++ b) = true → z_okS a = true ∧ z_okS b = true
  | [], b, h => ⟨rfl, h⟩
  | v :: t, b, h => by
    obtain ⟨h1, h2⟩ := z_okS_app (a := t) (b := b) (z_okS_tl h)
    exact ⟨z_okS_mk (z_okS_hd h) h1, h2⟩
theorem z_okS_in {a : List AV} : z_okS a = true ↔ ∀ v ∈ a, z_okv v = true := List.all_eq_true
theorem z_okS_rev {a : List AV} (h : z_okS a.reverse = true) : z_okS a = true := z_okS_in.mpr fun v hv => z_okS_in.mp h v (List.mem_reverse.mpr hv)
theorem z_codeW_good (m : Nat) : goodWord (z_codeW m) = true := by
  unfold z_codeW
  split <;> rfl
theorem z_ws_in {m : Nat} (hm : m < 151) : GoodIn z_good (z_ws m) := by
  intro w hw
  rcases List.mem_cons.mp hw with e | h
  · subst e
    exact ⟨z_good_in (z_cw hm) (z_codeW_good m), good_of_word (z_codeW_good m)⟩
  · exact ⟨h, good_of_word (List.mem_filter.mp h).2⟩
-- handlers
def z_isIn (w : Cond) : Bool := lw_tbl.any (fun x => decide (x = w))
theorem z_isIn_in {w : Cond} (h : z_isIn w = true) : w ∈ lw_tbl := by
  obtain ⟨x, hx, e⟩ := List.any_eq_true.mp h
  have e2 := of_decide_eq_true e
  subst e2
  exact hx
def z_hk (m h ct e hp sl : Nat) : Bool := !(Nat.beq ct 0) && z_isIn (.classLink (z_on (z_own m)) ct (z_ex e)) && z_isIn (.castable (z_ex e) (z_ex e)) && (match z_ins m h with
  | some (.astore k, _, _) => Nat.beq k sl && Nat.beq hp (h + 2) && Nat.blt k (z_ml m)
  | some (.astore_n k, _, _) => Nat.beq k.val sl && Nat.beq hp (h + 1) && Nat.blt k.val (z_ml m)
  | _ => false)
def z_hp (m ct e : Nat) : Bool := !(Nat.beq ct 0) && ((Nat.beq e 1 && z_isIn (.classLink (z_on (z_own m)) ct "java/lang/IllegalArgumentException")) || (Nat.beq e 0 && z_isIn (.classLink (z_on (z_own m)) ct "java/lang/IndexOutOfBoundsException")))
def z_hck (m e : Nat) : Bool := match z_han m e with
  | none => true
  | some (hp, sl) => match z_hh m with
    | [(_, _, h, ct)] => z_hk m h ct e hp sl
    | [(_, _, h, ct), (_, _, h2, ct2)] => z_hk m h ct e hp sl || (z_hp m ct e && z_hk m h2 ct2 e hp sl)
    | _ => false
theorem z_hck_all : (List.range 152).all (fun m => (List.range 3).all (z_hck m)) = true := by decide +kernel
theorem z_han_lt {m e : Nat} {x : Nat × Nat} (h : z_han m e = some x) : e < 3 := by
  unfold z_han at h
  cases he : Nat.blt e 3
  · rw [he] at h; cases h
  · exact Nat.ble_eq.mp he
section ZC
variable {p : Program} {l : Launch} {e : Env} {R : Room} {s : State} {mi : MethodId} {args : Array Value} {below : List Frame} {meth : Method} {c : Code} {cells slots : Nat} {Q : State → Prop}
variable {D : va_G} {ad : z_ad} {cs : Nat → ClassId} {A : Nat → Prop} {b L : Nat} {xs : Nat → Int32} {sa : Nat → Nat} {H0 : Heap}
/-- behind a call, whatever it answers -/
theorem z_callG {H : Heap} {locs : List Loc} {mc ms pc : Nat} {ls : Array Slot} {st0 rest : List Value} {o : z_Rs} {M' : Mem} {a : Array Value} (hr : vx_Run p l e R s mi args below meth c H locs cells slots mc ms (F0 mi pc ls st0) rest (z_Qc D ad cs A o M' a) (z_XC D ad cs A o M') A) (hS : va_S A H0 H locs)
    (kx : ∀ (er : Nat) (ce : Cell) (q9 : Addr) (H1 : Heap) (locs1 : List Loc), o = .inr er → va_P D vwCl (z_W ad cs M') H1 → va_S A H0 H1 locs1 → H1[q9]? = some ce → ce.vm = .none → s.vm.findClass (z_ex er) = some ce.cls → vx_W p l e R s mi args below meth c H1 locs1 (cells + mc) (slots + ms) Q (F0 mi pc ls rest) q9)
    (kk : ∀ (v : Option AV) (H1 : Heap) (locs1 : List Loc), o = .inl v → va_P D vwCl (z_W ad cs M') H1 → va_S A H0 H1 locs1 → W p l e R s mi args below meth c H1 locs1 (cells + mc) (slots + ms) Q (F0 mi (pc + 3) ls ((v.map (cv ad)).toList ++ rest))) : W p l e R s mi args below meth c H locs cells slots Q (F0 mi pc ls st0) := by
  intro T hT X
  rcases hr T hT X with ⟨v, st₀, t, T', L9, h0, X', hL, e1, e2, ⟨⟨w, hw, hv, hP⟩, hF⟩, st⟩ | ⟨q, st₀, t, T', L9, E, ce, h0, X', hL, e1, e2, ⟨⟨er, ho, hE, hP⟩, hF⟩, hce, hcv, hcl, st⟩
  · cases hv
    obtain ⟨k1, k2, k3⟩ := vx_keep h0 e1 hS (fun q _ h => h) (fun q h => h) hL hF
    obtain ⟨t2, a1, b1⟩ := kk w T'.heap (locs ++ L9) hw (by rw [e1]; exact hP) k3 T' rfl X'
    exact ⟨t2, st t2 a1, b1⟩
  · obtain ⟨k1, k2, k3⟩ := vx_keep h0 e1 hS (fun q _ h => h) (fun q h => h) hL hF
    subst hE
    obtain ⟨t2, a1, b1⟩ := kx er ce q T'.heap (locs ++ L9) ho (by rw [e1]; exact hP) k3 (by rw [e1]; exact hce) hcv hcl T' rfl X'
    exact ⟨t2, st.trans a1, b1⟩
/-- the class's receiver -/
theorem z_recv {M : Mem} {f q cn n : Nat} {H : Heap} (hK : va_K D vwCl (z_tys cs) s) (hP : va_P D vwCl (z_W ad cs M) H) (hv : z_val f q = true) (ho : z_obj q = some (cn, n)) : ∃ cell : Cell, H[ad f q]? = some cell ∧ cell.vm.isStatics = false ∧ s.vm.findClass (z_on cn) = some cell.cls := by
  obtain ⟨hc6, hn⟩ := z_obj_nf ho
  have hg := z_W_get (ad := ad) (cs := cs) (M := M) hv
  rw [show z_en ad cs M f q = .inr (cn, (List.range n).map fun k => cv ad (z_rd M f q k)) by unfold z_en; rw [ho]] at hg
  exact va_recv hK hP (z_cl_ok cn hc6) hg
theorem z_blind (M : Mem) (as : List AV) : FrameBlind (z_Pc D ad cs A b L xs sa M as) := by
  intro a U g mk h
  obtain ⟨h1, h2, h3⟩ := h
  exact ⟨h1, z_cx_moved (U := U.calling g mk a) (locs := []) (State.WarmedH.refl U) va_S.rf h2, h3⟩
theorem z_mB_use {m : Nat} (hm : m < 151) : Cond.initialized (z_y m).cls ∈ z_good ∧ (z_stc m = true → Cond.static (z_y m) ∈ z_good) ∧ (z_stc m = false → Cond.instanceMethod (z_y m) ∈ z_good ∧ Cond.selects (z_on (z_own m)) (z_y m) (z_y m) ∈ z_good ∧ 0 < z_na m) ∧
    (z_y m).cls = z_on (z_own m) ∧ plainName (z_y m).cls = true ∧ ((z_y m).cls ≠ "java/lang/invoke/MethodHandle" ∧ (z_y m).cls ≠ "java/lang/invoke/VarHandle") ∧ (parseMethodDescriptor (z_y m).desc).map (fun d => d.parameters.length) = some (bif z_stc m then z_na m else z_na m - 1) := by
  have h := z_mB_all hm
  unfold z_mB at h
  obtain ⟨h, g8⟩ := Bool.and_eq_true_iff.mp h
  obtain ⟨h, g7⟩ := Bool.and_eq_true_iff.mp h
  obtain ⟨h, g6⟩ := Bool.and_eq_true_iff.mp h
  obtain ⟨h, g5⟩ := Bool.and_eq_true_iff.mp h
  obtain ⟨h, g4⟩ := Bool.and_eq_true_iff.mp h
  obtain ⟨h, g3⟩ := Bool.and_eq_true_iff.mp h
  obtain ⟨g1, g2⟩ := Bool.and_eq_true_iff.mp h
  refine ⟨z_good_in (z_isW_in g1) rfl, fun e => ?_, fun e => ?_, of_decide_eq_true g3, g4, ⟨of_decide_eq_true g5, of_decide_eq_true g6⟩, of_decide_eq_true g7⟩
  · rw [e] at g2
    exact z_good_in (z_isW_in g2) rfl
  · rw [e] at g2 g8
    obtain ⟨k1, k2⟩ := Bool.and_eq_true_iff.mp g2
    exact ⟨z_good_in (z_isW_in k1) rfl, z_good_in (z_isW_in k2) rfl, Nat.ble_eq.mp g8⟩
end ZC


def z_rOK (m : Nat) (i : Instr) (o : z_Rs) (st : List AV) : Prop := match i with
  | .return_ => z_rt m = 0 ∧ st = [] ∧ o = .inl none
  | .ireturn => ∃ x, st = [.inl x] ∧ o = .inl (some (.inl x)) ∧ (z_rt m = 1 ∨ (z_rt m = 2 ∧ z_isB x = true))
  | .lreturn => ∃ x, st = [.inr (.inl x)] ∧ o = .inl (some (.inr (.inl x))) ∧ z_rt m = 3
  | .dreturn => ∃ x, st = [.inr (.inr (.inl x))] ∧ o = .inl (some (.inr (.inr (.inl x)))) ∧ z_rt m = 4
  | _ => False
/-- all that a walk of m from a point needs besides the point -/
def z_Env (p : Program) (l : Launch) (R : Room) (s : State) (mi : MethodId) (args : Array Value) (meth : Method) (c : Code) (cells slots : Nat) (D : va_G) (ad : z_ad) (cs : Nat → ClassId) (A : Nat → Prop) (b L : Nat) (xs : Nat → Int32) (sa : Nat → Nat) (m : Nat) : Prop :=
  z_On p R s mi args c cells slots D ad cs A b L xs sa m ∧ l.stackTraces = false ∧ meth.locks = false ∧ c.exceptionTable.toList = tableOf (z_hh m)
/-- the soundness of all runs of at most n steps -/
def z_Snd (l : Launch) (D : va_G) (ad : z_ad) (cs : Nat → ClassId) (A : Nat → Prop) (b L : Nat) (xs : Nat → Int32) (sa : Nat → Nat) (n : Nat) : Prop :=
  ∀ (m : Nat) (cf : Cf) (o : z_Rs) (M' : Mem) (k : Nat), z_Ex xs L n m cf o M' k → ∀ {p : Program} {e : Env} {R : Room} {s : State} {mi : MethodId} {args : Array Value} {below : List Frame} {meth : Method} {c : Code} {cells slots : Nat} {Q : State → Prop} {H : Heap} {locs : List Loc} {LS : Array Slot},
    z_Env p l R s mi args meth c cells slots D ad cs A b L xs sa m → cells + k ≤ R.cells → slots + 6 * k ≤ R.slots → z_Pt D ad cs A s.heap m LS cf.2.1 cf.2.2.1 cf.2.2.2 H locs →
    (∀ er, o = .inr er → Q = vx_MQ below (z_Qc D ad cs A o M') (z_XC D ad cs A o M') args s (cells + k) (slots + 6 * k) A) →
    (∀ (H' : Heap) (locs' : List Loc) (pc' : Nat) (LS' : Array Slot) (st' : List AV) (i : Instr) (t : Nat) (k0 : Int32), z_ins m pc' = some (i, t, k0) → z_rOK m i o st' → va_P D vwCl (z_W ad cs M') H' → va_S A s.heap H' locs' → W p l e R s mi args below meth c H' locs' (cells + k) (slots + 6 * k) Q (F0 mi pc' LS' (st'.map (cv ad)))) →
    W p l e R s mi args below meth c H locs cells slots Q (F0 mi cf.1 LS (cf.2.2.1.map (cv ad)))
/-- a method's contract out of its run -/
theorem z_met {l : Launch} {D : va_G} {ad : z_ad} {cs : Nat → ClassId} {A : Nat → Prop} {b L : Nat} {xs : Nat → Int32} {sa : Nat → Nat} {n : Nat} (ih : z_Snd l D ad cs A b L xs sa n) (hAD : z_AD A ad) (hab : ad 0 41 = b) (hl : l.stackTraces = false) {m : Nat} (hm : m < 151) {as : List AV} {M M1 : Mem} {o1 : z_Rs} {k1 : Nat}
    (hex : z_Ex xs L n m (0, z_pad (z_ml m) (z_entL as), [], M) o1 M1 k1) (hos : z_okS as = true) (hsl : z_sl as ≤ z_ml m) :
    vx_Met l (z_y m) (z_ws m) (z_room m k1) (z_Pc D ad cs A b L xs sa M as) (z_Qc D ad cs A o1 M1) (z_XC D ad cs A o1 M1) k1 (6 * k1) A := by
  obtain ⟨-, -, -, hcls, hpl, -, -⟩ := z_mB_use hm
  have body : ∀ (p : Program) (e : Env) (s : State) (mi : MethodId) (args : Array Value) (below : List Frame) (meth : Method) (c : Code) (s₁ : State), BodyLoose p l (z_y m) (headSpec (z_ws m) (z_room m k1)) (z_b m) (z_ml m) (z_ret m) e s mi args below meth c s₁ → c.maxLocals = z_ml m → c.exceptionTable.toList = tableOf (z_hh m) → z_Pc D ad cs A b L xs sa M as args s →
      W p l e (headSpec (z_ws m) (z_room m k1)).room s mi args below meth c s.heap [] 0 0 (vx_MQ below (z_Qc D ad cs A o1 M1) (z_XC D ad cs A o1 M1) args s k1 (6 * k1) A) (entryFrame mi args (z_ml m)) := by
    intro p e s mi args below meth c s₁ B hml htab hv
    obtain ⟨rfl, hcx, hP⟩ := hv
    have hx := B.exec
    have hb := B.bytes
    have hr := B.returns
    have hlocks := B.notSynchronized
    have hts0 := atoms_spec (ws := z_ws m) B.pre
    have hown : s.vm.findClass (z_on (z_own m)) = some mi.cls := by
      rw [← hcls]
      exact findClass_of_methodNamed B.named
    have hl9 := lv_entry (as.map (cv ad)) (n := z_ml m) (by rw [z_sl_lg]; exact hsl)
    rw [lg_entry_eq]
    generalize (lg_sl (as.map (cv ad)) ++ List.replicate (z_ml m - (lg_sl (as.map (cv ad))).length) Slot.unset).toArray = LS at hl9 ⊢
    have hE : z_Env p l (headSpec (z_ws m) (z_room m k1)).room s mi (as.map (cv ad)).toArray meth c 0 0 D ad cs A b L xs sa m :=
      ⟨⟨hx, hb, hml, hown, fun w hw => hts0 w (List.mem_cons_of_mem _ hw), hcx, hAD, hab, Nat.le_refl _, Nat.le_refl _, Nat.zero_le _, Nat.zero_le _⟩, hl, hlocks, htab⟩
    refine ih m _ o1 M1 k1 hex hE (by rw [Nat.zero_add]; exact Nat.le_refl k1) (by rw [Nat.zero_add]; exact Nat.le_refl (6 * k1)) ⟨z_has_entry hl9, z_okL_pad _ _ (z_okL_ent as hos), rfl, hP, va_S.rf⟩ ?_ ?_
    · intro er _
      simp only [Nat.zero_add]
    · intro H' locs' pc' LS' st' i t k0 hi hrk hP' hS'
      simp only [Nat.zero_add]
      obtain ⟨⟨n9, hd, hn9⟩, -, -⟩ := z_ins_ck hi
      have hrt : meth.sig.returnType = z_ret m := hr
      refine vx_ret ?_
      have hq : ∀ (v : Option AV), o1 = .inl v → ∀ t9 : State, t9.heap = H' → s.WarmedH t9.vm → z_Qc D ad cs A o1 M1 (as.map (cv ad)).toArray s (.returned (v.map (cv ad))) t9 := fun v hv t9 ht9 _ => ⟨⟨v, hv, rfl, by rw [ht9]; exact hP'⟩, hS'.F ht9⟩
      cases i with
      | return_ =>
        rcases hn9 with h9 | h9
        · cases h9
        subst h9
        obtain ⟨r1, rfl, r3⟩ := hrk
        exact W.vret hx hb (by rw [hrt]; unfold z_ret; rw [r1]; rfl) (hq none r3) hS'.2.2 hd
      | ireturn =>
        rcases hn9 with h9 | h9
        · cases h9
        subst h9
        obtain ⟨x9, rfl, r2, r3⟩ := hrk
        rcases r3 with r3 | ⟨r3, r4⟩
        · exact W.zret (ty := .int) hx hb (by rw [hrt]; unfold z_ret; rw [r3]; rfl) rfl (hq (some (.inl x9)) r2) hS'.2.2 hd
        · exact W.zret (ty := .boolean) hx hb (by rw [hrt]; unfold z_ret; rw [r3]; rfl) (z_isB_nar r4) (hq (some (.inl x9)) r2) hS'.2.2 hd
      | lreturn =>
        rcases hn9 with h9 | h9
        · cases h9
        subst h9
        obtain ⟨x9, rfl, r2, r3⟩ := hrk
        exact W.lret hx hb (by rw [hrt]; unfold z_ret; rw [r3]; rfl) (hq (some (.inr (.inl x9))) r2) hS'.2.2 hd
      | dreturn =>
        rcases hn9 with h9 | h9
        · cases h9
        subst h9
        obtain ⟨x9, rfl, r2, r3⟩ := hrk
        exact W.dret hx hb (by rw [hrt]; unfold z_ret; rw [r3]; rfl) (hq (some (.inr (.inr (.inl x9)))) r2) hS'.2.2 hd
      | _ => exact absurd hrk (fun q => q)
  cases hh : z_hh m with
  | nil =>
    refine vx_ofW (cc := z_b m) (maxL := z_ml m) (ret := z_ret m) (ws' := z_good) hpl (by unfold z_ws z_codeW; rw [hh]) ?_
    intro p e s mi args below meth c s₁ B hml hnone hv
    refine body p e s mi args below meth c s₁ B hml ?_ hv
    rw [hh]
    cases ht : c.exceptionTable.toList with
    | nil => rfl
    | cons x t => exact absurd (hnone x (by rw [ht]; exact List.mem_cons_self)) (fun q => q)
  | cons x t =>
    have hcw : z_codeW m = Cond.codeWith (z_y m) (z_b m) (z_ml m) (z_ret m) (z_hh m) := by
      unfold z_codeW
      rw [hh]
    refine vx_ofWH (cc := z_b m) (maxL := z_ml m) (ret := z_ret m) (hh := z_hh m) (ws' := z_good) hpl (by unfold z_ws; rw [hcw]) ?_
    intro p e s mi args below meth c s₁ B hml hv
    refine body p e s mi args below meth c s₁ B hml ?_ hv
    refine vx_table (x := z_y m) (bytes := z_b m) (maxL' := z_ml m) (ret' := z_ret m) B ?_
    rw [← hcw]
    exact atoms_spec (ws := z_ws m) B.pre _ List.mem_cons_self
end
section

theorem z_Ex_okv {xs : Nat → Int32} {L : Nat} : ∀ (n m : Nat) (cf : Cf) (o : z_Rs) (M' : Mem) (k : Nat), z_Ex xs L n m cf o M' k → ∀ v, o = .inl (some v) → z_okv v = true
  | 0, _, _, _, _, _, h, _, _ => absurd h (fun q => q)
  | n + 1, m, (pc, ls, st, M), o, M', k, h, v, hv => by
    subst hv
    unfold z_Ex at h
    split at h
    · obtain ⟨_, _, _, h2, _⟩ := h
      cases h2
    · split at h
      · obtain ⟨_, _, h2, _⟩ := h
        cases h2
      · obtain ⟨x, _, h2, _⟩ := h
        cases h2; rfl
      · obtain ⟨x, _, h2, _⟩ := h
        cases h2; rfl
      · obtain ⟨x, _, h2, _⟩ := h
        cases h2; rfl
      · obtain ⟨m', b, w, as, r, o1, M1, k1, k2, -, -, -, -, -, -, -, -, h⟩ := h
        cases o1 with
        | inl v1 => exact z_Ex_okv n _ _ _ _ _ h _ rfl
        | inr e1 =>
          rcases h with ⟨-, h2, -⟩ | ⟨h1, s1, -, -, h⟩
          · cases h2
          · exact z_Ex_okv n _ _ _ _ _ h _ rfl
      · split at h
        · obtain ⟨c', O, -, -, h⟩ := h
          exact z_Ex_okv n _ _ _ _ _ h _ rfl
        · obtain ⟨m', b, w, as, r, o1, M1, k1, k2, -, -, -, -, -, -, -, h⟩ := h
          cases o1 with
          | inl v1 => exact z_Ex_okv n _ _ _ _ _ h _ rfl
          | inr e1 =>
            obtain ⟨-, h2, -⟩ := h
            cases h2
      · obtain ⟨c', O, -, -, h⟩ := h
        exact z_Ex_okv n _ _ _ _ _ h _ rfl
theorem z_thr_in {m pc e : Nat} (h : z_thr m pc = some e) : (m = 58 ∧ pc = 4 ∧ e = 0) ∨ (m = 59 ∧ pc = 4 ∧ e = 1) ∨ (m = 60 ∧ pc = 9 ∧ e = 2) := by
  unfold z_thr at h

  cases c0 : (Nat.beq m 58 && Nat.beq pc 4)
  · rw [c0] at h; dsimp only [cond] at h
    cases c1 : (Nat.beq m 59 && Nat.beq pc 4)
    · rw [c1] at h; dsimp only [cond] at h
      cases c2 : (Nat.beq m 60 && Nat.beq pc 9)
      · rw [c2] at h; dsimp only [cond] at h
        cases h
      · rw [c2] at h
        cases h
        obtain ⟨g1, g2⟩ := Bool.and_eq_true_iff.mp c2
        exact Or.inr (Or.inr (⟨Nat.eq_of_beq_eq_true g1, Nat.eq_of_beq_eq_true g2, rfl⟩))
    · rw [c1] at h
      cases h
      obtain ⟨g1, g2⟩ := Bool.and_eq_true_iff.mp c1
      exact Or.inr (Or.inl ⟨Nat.eq_of_beq_eq_true g1, Nat.eq_of_beq_eq_true g2, rfl⟩)
  · rw [c0] at h
    cases h
    obtain ⟨g1, g2⟩ := Bool.and_eq_true_iff.mp c0
    exact Or.inl ⟨Nat.eq_of_beq_eq_true g1, Nat.eq_of_beq_eq_true g2, rfl⟩

def z_names : List String := ["java/lang/RuntimeException", "java/lang/Exception"]
def z_atB (ik is ic e : Nat) : Bool := (Cond.classLink RX4 ik (z_ex e) :: Cond.initialized (z_ex e) :: vx_atS RX4 ic (z_ex e) z_names).all (fun w => z_isIn w && (goodWord w || z_isM w) && vx_ot w)
theorem z_M_tab {w : Cond} (h : z_isM w = true) : w.onTables = true := by
  cases w <;> first | rfl | cases h
section ZD
variable {p : Program} {l : Launch} {e : Env} {R : Room} {s : State} {mi : MethodId} {args : Array Value} {below : List Frame} {meth : Method} {c : Code} {cells slots : Nat} {Q : State → Prop}
variable {D : va_G} {ad : z_ad} {cs : Nat → ClassId} {A : Nat → Prop} {b L : Nat} {xs : Nat → Int32} {sa : Nat → Nat}
theorem z_word {args : Array Value} {w : Cond} (hts : ∀ w ∈ z_good, w.before args s = true) (hcx : z_cx D cs A b L xs sa s) (hw : w ∈ lw_tbl) (hg : (goodWord w || z_isM w) = true) : w.before args s = true := by
  cases hgw : goodWord w with
  | true => exact hts w (z_good_in hw hgw)
  | false =>
    rw [hgw] at hg
    exact va_Nw.use (z_M_tab hg) (hcx.2.2.2.1 w (z_misc_in hw hg))
theorem z_keptP {M : Mem} {H H1 : Heap} (h : va_P D vwCl (z_W ad cs M) H) (hk : ∀ q : Nat, q < H.size → H1[q]? = H[q]?) : va_P D vwCl (z_W ad cs M) H1 := h.kept fun k q hq => hk q.1 (vx_lt h hq)
/-- an exception that is made and thrown -/
theorem z_throw {m pc er ik is ic : Nat} {text : String} {M : Mem} {ls : Lc} {st : List AV} {H : Heap} {locs : List Loc} {LS : Array Slot} (hl : l.stackTraces = false) (hE : z_Env p l R s mi args meth c cells slots D ad cs A b L xs sa m) (hown : z_own m = 4) (hm : z_hh m = []) (hfr : z_FR m = 6) (hlr : z_LR m = 90)
    (hat : z_atB ik is ic er = true) (hfit : Bundle.fit (z_ex er) = true) {sx : Nat} (hstr : vk_R RX4 is text sx s)
    (d0 : decode (z_b m) pc = .ok (.new ik, 3)) (d3 : decode (z_b m) (pc + 3) = .ok (.dup, 1)) (d4 : decode (z_b m) (pc + 4) = .ok (.ldc_w is, 3)) (d7 : decode (z_b m) (pc + 7) = .ok (.invokespecial ic, 3)) (d10 : decode (z_b m) (pc + 10) = .ok (.athrow, 1))
    (hst : st = []) (hc : cells + 1 ≤ R.cells) (hs : slots + 6 * 1 ≤ R.slots) (hp : z_Pt D ad cs A s.heap m LS ls st M H locs) :
    W p l e R s mi args below meth c H locs cells slots (vx_MQ below (z_Qc D ad cs A (.inr er) M) (z_XC D ad cs A (.inr er) M) args s (cells + 1) (slots + 6 * 1) A) (F0 mi pc LS (st.map (cv ad))) := by
  obtain ⟨⟨hx, hb, hml, hcl, hts, hcx, hAD, hab, hfr9, hlo9, -, -⟩, -, hlocks, htab⟩ := hE
  obtain ⟨hLS, -, -, hP, hS⟩ := hp
  subst hst
  rw [hown] at hcl
  have hat9 := fun w hw => List.all_eq_true.mp hat w hw
  have hw9 : ∀ w ∈ Cond.classLink RX4 ik (z_ex er) :: Cond.initialized (z_ex er) :: vx_atS RX4 ic (z_ex er) z_names, w.before args s = true ∧ vx_ot w = true := by
    intro w hw
    obtain ⟨h1, h2⟩ := Bool.and_eq_true_iff.mp (hat9 w hw)
    obtain ⟨h3, h4⟩ := Bool.and_eq_true_iff.mp h1
    exact ⟨z_word hts hcx (z_isIn_in h3) h4, h2⟩
  refine vx_throwSW (own := RX4) (cls := z_ex er) (text := text) (names := z_names) (ik := ik) (is := is) (ic := ic) (sa := sx) (A := A) hx hb hl hcl hfit (by decide +kernel) (hw9 _ List.mem_cons_self).1 (hw9 _ (List.mem_cons_of_mem _ List.mem_cons_self)).1 hstr
    (fun w hw => (hw9 w (List.mem_cons_of_mem _ (List.mem_cons_of_mem _ hw))).1) (fun w hw => (hw9 w hw).2) hcx.2.1 hcx.2.2.1 hS (hLS.1.trans hml.symm) d0 d3 d4 d7 d10 ?_ ?_ ?_ hc (by omega) hlocks ?_ hS.2.2 (Nat.le_refl _) (Nat.le_refl _)
  · intro x hx9
    rw [htab, hm] at hx9
    cases hx9
  · show 2 + 3 < R.frames
    rw [hfr] at hfr9
    omega
  · show 0 + (13 * (2 + 1) + 43) ≤ R.locals
    rw [hlr] at hlo9
    omega
  · intro t _ hz hk
    refine ⟨⟨er, rfl, rfl, z_keptP hP hk⟩, Nat.le_trans hS.1 hz, fun q h1 h2 => ?_⟩
    rw [hk q (Nat.lt_of_lt_of_le h1 hS.1)]
    exact hS.2.1 q h1 h2
/-- an exception that goes on to the caller -/
theorem z_pass {m pc er : Nat} {M : Mem} {H : Heap} {locs : List Loc} {LS : Array Slot} {rest : List Value} {ce : Cell} {q9 : Addr} (hE : z_Env p l R s mi args meth c cells slots D ad cs A b L xs sa m) (hm : z_hh m = []) {k1 s1 : Nat} (hP : va_P D vwCl (z_W ad cs M) H) (hS : va_S A s.heap H locs) (hce : H[q9]? = some ce) (hcv : ce.vm = .none) (hcl : s.vm.findClass (z_ex er) = some ce.cls) :
    vx_W p l e R s mi args below meth c H locs k1 s1 (vx_MQ below (z_Qc D ad cs A (.inr er) M) (z_XC D ad cs A (.inr er) M) args s k1 s1 A) (F0 mi pc LS rest) q9 := by
  obtain ⟨-, -, hlocks, htab⟩ := hE
  refine vx_out (E := z_ex er) (fun x hx => ?_) hlocks hce hcv hcl (fun t ht hv => ?_) hS.2.2 (Nat.le_refl _) (Nat.le_refl _)
  · rw [htab, hm] at hx
    cases hx
  · exact ⟨⟨er, rfl, rfl, by rw [ht]; exact hP⟩, hS.F ht⟩
/-- an exception that a wrapper catches -/
theorem z_caught {m pc er hp sl : Nat} {M : Mem} {ls : Lc} {H : Heap} {locs : List Loc} {LS : Array Slot} {rest : List Value} {ce : Cell} {q9 : Addr} (hm : m < 152) (hE : z_Env p l R s mi args meth c cells slots D ad cs A b L xs sa m) (hh : z_han m er = some (hp, sl)) (hcov : z_cov m pc = true) {k1 s1 : Nat} (hP : va_P D vwCl (z_W ad cs M) H) (hS : va_S A s.heap H locs) (hce : H[q9]? = some ce) (hcv : ce.vm = .none) (hcl : s.vm.findClass (z_ex er) = some ce.cls)
    (hl : lv_has LS (z_ml m) (z_asc ad 0 ls)) (hol : z_okL ls = true)
    (kk : ∀ (LS' : Array Slot), z_Pt D ad cs A s.heap m LS' (z_set (z_clr ls sl) sl none) [] M H locs → W p l e R s mi args below meth c H locs k1 s1 Q (F0 mi hp LS' [])) :
    vx_W p l e R s mi args below meth c H locs k1 s1 Q (F0 mi pc LS rest) q9 := by
  obtain ⟨⟨hx, hb, hml, hcl9, hts, hcx, hAD, hab, -, -, -, -⟩, -, hlocks, htab⟩ := hE
  have hck := List.all_eq_true.mp (List.all_eq_true.mp z_hck_all m (List.mem_range.mpr hm)) er (List.mem_range.mpr (z_han_lt hh))
  have key : ∀ (pre suf : List (Nat × Nat × Nat × Nat)) (a9 b9 h9 ct : Nat), z_hh m = pre ++ (a9, b9, h9, ct) :: suf → z_hk m h9 ct er hp sl = true → (∀ z ∈ tableOf pre, covers z pc = false ∨ (z.catchType ≠ 0 ∧ ∃ nm : String, (Cond.classLink (z_on (z_own m)) z.catchType nm).before args s = true ∧ va_Nc (z_ex er) nm s)) →
      vx_W p l e R s mi args below meth c H locs k1 s1 Q (F0 mi pc LS rest) q9 := by
    intro pre suf a9 b9 h9 ct hsplit hk hpre
    obtain ⟨hk, g4⟩ := Bool.and_eq_true_iff.mp hk
    obtain ⟨hk, g3⟩ := Bool.and_eq_true_iff.mp hk
    obtain ⟨g1, g2⟩ := Bool.and_eq_true_iff.mp hk
    have hcv2 : covers ⟨a9, b9, h9, ct⟩ pc = true := by
      have h1 := List.all_eq_true.mp hcov (a9, b9, h9, ct) (by rw [hsplit]; exact List.mem_append_right _ List.mem_cons_self)
      obtain ⟨h2, h3⟩ := Bool.and_eq_true_iff.mp h1
      have h4 : a9 ≤ pc := Nat.ble_eq.mp h2
      have h5 : pc < b9 := Nat.ble_eq.mp h3
      simp [covers, h4, h5]
    refine vx_catch (own := z_on (z_own m)) (name := z_ex er) (E := z_ex er) hcl9 (tableOf pre) ⟨a9, b9, h9, ct⟩ (tableOf suf) (by rw [htab, hsplit]; simp [tableOf]) hpre hcv2 ?_ (hts _ (z_good_in (z_isIn_in g2) rfl)) (va_Nw.use rfl (hcx.2.2.2.1 _ (z_misc_in (z_isIn_in g3) rfl))) hce hcv hcl ?_
    · intro h0
      have h1 : ct = 0 := h0
      rw [h1] at g1
      cases g1
    · show W p l e R s mi args below meth c H locs k1 s1 Q (F0 mi h9 LS [.ref q9])
      have hrest : ∀ (LS' : Array Slot), lv_has LS' (z_ml m) ((sl, Value.ref q9) :: (z_asc ad 0 ls).filter (fun q => !(q.1 == sl) && !(q.1 + 1 == sl && q.2.category == 2))) → z_Pt D ad cs A s.heap m LS' (z_set (z_clr ls sl) sl none) [] M H locs :=
        fun LS' hl' => ⟨z_store0 hl', z_okL_set (z_okL_clr hol) (fun v hv => by cases hv), rfl, hP, hS⟩
      split at g4
      · rename_i k t9 c9 hi9
        obtain ⟨g4, g7⟩ := Bool.and_eq_true_iff.mp g4
        obtain ⟨g5, g6⟩ := Bool.and_eq_true_iff.mp g4
        have e1 := Nat.eq_of_beq_eq_true g5
        have e2 := Nat.eq_of_beq_eq_true g6
        subst e1; subst e2
        obtain ⟨⟨n9, hd, hn9⟩, -, -⟩ := z_ins_ck hi9
        rcases hn9 with h0 | h0
        · cases h0
        subst h0
        exact lv_astore hx hb hd hl (Nat.ble_eq.mp g7) rfl (fun LS' hl' => kk LS' (hrest LS' hl'))
      · rename_i k t9 c9 hi9
        obtain ⟨g4, g7⟩ := Bool.and_eq_true_iff.mp g4
        obtain ⟨g5, g6⟩ := Bool.and_eq_true_iff.mp g4
        have e1 := Nat.eq_of_beq_eq_true g5
        have e2 := Nat.eq_of_beq_eq_true g6
        subst e1; subst e2
        obtain ⟨⟨n9, hd, hn9⟩, -, -⟩ := z_ins_ck hi9
        rcases hn9 with h0 | h0
        · cases h0
        subst h0
        exact lv_astore_n hx hb hd rfl hl (Nat.ble_eq.mp g7) rfl (fun LS' hl' => kk LS' (hrest LS' hl'))
      · cases g4
  unfold z_hck at hck
  rw [hh] at hck
  dsimp only at hck
  split at hck
  · rename_i a9 b9 h9 ct hz
    exact key [] [] a9 b9 h9 ct hz hck (fun z hz => by cases hz)
  · rename_i a9 b9 h9 ct a8 b8 h8 ct8 hz
    rcases Bool.or_eq_true_iff.mp hck with h1 | h1
    · exact key [] [(a8, b8, h8, ct8)] a9 b9 h9 ct hz h1 (fun z hz => by cases hz)
    · obtain ⟨h2, h3⟩ := Bool.and_eq_true_iff.mp h1
      refine key [(a9, b9, h9, ct)] [] a8 b8 h8 ct8 hz h3 (fun z hz9 => Or.inr ?_)
      have e9 : z = ⟨a9, b9, h9, ct⟩ := by simpa [tableOf] using hz9
      subst e9
      unfold z_hp at h2
      obtain ⟨h4, h5⟩ := Bool.and_eq_true_iff.mp h2
      refine ⟨fun h0 => ?_, ?_⟩
      · have h1 : ct = 0 := h0
        rw [h1] at h4
        cases h4
      · rcases Bool.or_eq_true_iff.mp h5 with h6 | h6
        · obtain ⟨h7, h8⟩ := Bool.and_eq_true_iff.mp h6
          have e1 := Nat.eq_of_beq_eq_true h7
          subst e1
          exact ⟨_, hts _ (z_good_in (z_isIn_in h8) rfl), hcx.2.2.2.2.2.2.2.1⟩
        · obtain ⟨h7, h8⟩ := Bool.and_eq_true_iff.mp h6
          have e1 := Nat.eq_of_beq_eq_true h7
          subst e1
          exact ⟨_, hts _ (z_good_in (z_isIn_in h8) rfl), hcx.2.2.2.2.2.2.2.2.1⟩
  · cases hck
end ZD
end
section

section ZE
variable {l : Launch} {D : va_G} {ad : z_ad} {cs : Nat → ClassId} {A : Nat → Prop} {b L : Nat} {xs : Nat → Int32} {sa : Nat → Nat}
/-- what the links of a call say -/
theorem z_lnkV {m j m' w : Nat} {nb : Bool} (h : z_lnk m (.invokevirtual j) = true) (hc : z_cal (z_own m) j = some (m', nb, w)) : z_mw (z_own m) j m' nb ∈ lw_tbl ∧ z_FR m' < z_FR m ∧ 8 + (z_ml m' + 11) + z_LR m' ≤ z_LR m ∧ m' < 151 ∧ z_hh m' = [] := by
  unfold z_lnk at h
  dsimp only at h
  rw [hc] at h
  dsimp only at h
  obtain ⟨h, g5⟩ := Bool.and_eq_true_iff.mp h
  obtain ⟨h, g4⟩ := Bool.and_eq_true_iff.mp h
  obtain ⟨h, g3⟩ := Bool.and_eq_true_iff.mp h
  obtain ⟨g1, g2⟩ := Bool.and_eq_true_iff.mp h
  exact ⟨z_isW_in g1, Nat.ble_eq.mp g2, Nat.ble_eq.mp g3, Nat.ble_eq.mp g4, of_decide_eq_true g5⟩
theorem z_lnkS {m j m' w : Nat} {nb : Bool} (h : z_lnk m (.invokestatic j) = true) (hs : z_sp (z_own m) j = 0) (hc : z_cal (z_own m) j = some (m', nb, w)) : z_mw (z_own m) j m' nb ∈ lw_tbl ∧ z_FR m' < z_FR m ∧ 8 + (z_ml m' + 11) + z_LR m' ≤ z_LR m ∧ m' < 151 ∧ (nb = true → z_hh m' = []) := by
  unfold z_lnk at h
  dsimp only at h
  rw [hs] at h
  dsimp only at h
  rw [hc] at h
  dsimp only at h
  obtain ⟨h, g5⟩ := Bool.and_eq_true_iff.mp h
  obtain ⟨h, g4⟩ := Bool.and_eq_true_iff.mp h
  obtain ⟨h, g3⟩ := Bool.and_eq_true_iff.mp h
  obtain ⟨g1, g2⟩ := Bool.and_eq_true_iff.mp h
  exact ⟨z_isW_in g1, Nat.ble_eq.mp g2, Nat.ble_eq.mp g3, Nat.ble_eq.mp g4, fun e => by rw [e] at g5; exact of_decide_eq_true g5⟩
theorem z_codeW0 {m : Nat} (h : z_hh m = []) : z_codeW m = Cond.code (z_y m) (z_b m) (z_ml m) (z_ret m) := by
  unfold z_codeW
  rw [h]
theorem z_codeWh {m : Nat} {x : Nat × Nat × Nat × Nat} {t : List (Nat × Nat × Nat × Nat)} (h : z_hh m = x :: t) : z_codeW m = Cond.codeWith (z_y m) (z_b m) (z_ml m) (z_ret m) (z_hh m) := by
  unfold z_codeW
  rw [h]
theorem z_np {m n : Nat} (h : (parseMethodDescriptor (z_y m).desc).map (fun d => d.parameters.length) = some n) : ∀ sig, parseMethodDescriptor (z_y m).desc = some sig → n = sig.parameters.length := by
  intro sig hs
  rw [hs] at h
  exact (Option.some.inj h).symm
set_option maxHeartbeats 4000000 in
theorem z_snd (hAD : z_AD A ad) (hab : ad 0 41 = b) (hl : l.stackTraces = false) : ∀ n : Nat, z_Snd l D ad cs A b L xs sa n
  | 0 => fun m cf o M' k h => absurd h (fun q => q)
  | n + 1 => by
    have ih := z_snd hAD hab hl n
    intro m cf o M' k h p e R s mi args below meth c cells slots Q H locs LS hE hcell hslot hp hX hI
    obtain ⟨pc, ls, st, M⟩ := cf
    have hE0 := hE
    obtain ⟨⟨hx, hb, hml, hown, hts, hcx, -, -, hfr, hlo, hce, hsl⟩, -, hlocks, htab⟩ := hE
    have hend : ∀ (i : Instr) (t : Nat) (k0 : Int32), z_ins m pc = some (i, t, k0) → z_rOK m i o st → M' = M → k = 0 → W p l e R s mi args below meth c H locs cells slots Q (F0 mi pc LS (st.map (cv ad))) := by
      intro i t k0 hi hr hM hk
      subst hM
      subst hk
      exact hI H locs pc LS st i t k0 hi hr hp.2.2.2.1 hp.2.2.2.2
    unfold z_Ex at h
    split at h
    · -- an exception of its own
      rename_i hi
      obtain ⟨hstn, er, hthr, ho, hM, hk⟩ := h
      subst ho
      subst hM
      subst hk
      have hQ := hX er rfl
      subst hQ
      have hcx9 := hcx
      have hpn := hp
      dsimp only at hpn
      rcases z_thr_in hthr with ⟨e1, e2, e3⟩ | ⟨e1, e2, e3⟩ | ⟨e1, e2, e3⟩
      · subst e1
        subst e2
        subst e3
        exact z_throw (m := 58) (pc := 4) hl hE0 rfl rfl rfl rfl (ik := 271) (is := 273) (ic := 275) (by decide +kernel) (by decide +kernel) hcx9.2.2.2.2.1 (by decide +kernel) (by decide +kernel) (by decide +kernel) (by decide +kernel) (by decide +kernel) hstn hcell hslot hp
      · subst e1
        subst e2
        subst e3
        exact z_throw (m := 59) (pc := 4) hl hE0 rfl rfl rfl rfl (ik := 278) (is := 280) (ic := 282) (by decide +kernel) (by decide +kernel) hcx9.2.2.2.2.2.1 (by decide +kernel) (by decide +kernel) (by decide +kernel) (by decide +kernel) (by decide +kernel) hstn hcell hslot hp
      · subst e1
        subst e2
        subst e3
        exact z_throw (m := 60) (pc := 9) hl hE0 rfl rfl rfl rfl (ik := 283) (is := 285) (ic := 287) (by decide +kernel) (by decide +kernel) hcx9.2.2.2.2.2.2.1 (by decide +kernel) (by decide +kernel) (by decide +kernel) (by decide +kernel) (by decide +kernel) hstn hcell hslot hp
    · rename_i i t k0 hi
      obtain ⟨-, -, hlk⟩ := z_ins_ck hi
      obtain ⟨hmN, -⟩ := z_ins_lt hi
      split at h
      · obtain ⟨h1, h2, h3, h4, h5⟩ := h
        exact hend _ _ _ hi ⟨h1, h2, h3⟩ h4 h5
      · obtain ⟨x, h1, h2, h3, h4, h5⟩ := h
        exact hend _ _ _ hi ⟨x, h1, h2, h5⟩ h3 h4
      · obtain ⟨x, h1, h2, h3, h4, h5⟩ := h
        exact hend _ _ _ hi ⟨x, h1, h2, h5⟩ h3 h4
      · obtain ⟨x, h1, h2, h3, h4, h5⟩ := h
        exact hend _ _ _ hi ⟨x, h1, h2, h5⟩ h3 h4
      · -- a virtual call
        rename_i j
        obtain ⟨m', nb, w, as, r, o1, M1, k1, k2, hcal, hst, hstk, hlen, hrcv, h8, hex, hk, hcont⟩ := h
        obtain ⟨hw, hf1, hf2, hm', hh'⟩ := z_lnkV hlk hcal
        obtain ⟨⟨n9, hd, hn9⟩, -, -⟩ := z_ins_ck hi
        rcases hn9 with h9 | h9
        · cases h9
        subst h9
        obtain ⟨g8a, g8b⟩ := Bool.and_eq_true_iff.mp h8
        have g9 : z_sl r < 9 := Nat.ble_eq.mp g8a
        have g10 : z_sl as ≤ z_ml m' := Nat.ble_eq.mp g8b
        obtain ⟨hLS, hol, hos, hP, hS⟩ := hp
        dsimp only at hLS hol hos hP
        rw [hstk] at hos
        obtain ⟨hoa, hor⟩ := z_okS_app hos
        have hoas := z_okS_rev hoa
        have hM := z_met (l := l) ih hAD hab hl hm' hex hoas g10
        obtain ⟨hini, -, hvi, hcls, -, hmh, hnp⟩ := z_mB_use hm'
        obtain ⟨hvi1, hvi2, hna⟩ := hvi hst
        rw [hst] at hnp
        cases as with
        | nil => cases hrcv
        | cons v as' =>
        match v, hrcv with
        | .inr (.inr (.inr (f, q))), hrcv =>
        have hrc : ∃ cn n, z_obj q = some (cn, n) ∧ cn = z_own m' := by
          unfold z_rcv at hrcv
          dsimp only at hrcv
          split at hrcv
          · rename_i cn n hob
            exact ⟨cn, n, hob, Nat.eq_of_beq_eq_true hrcv⟩
          · cases hrcv
        obtain ⟨cn, nq, hob, hcn⟩ := hrc
        subst hcn
        have hv := z_okv_val (z_okS_hd hoas) (z_obj_41 hob)
        have hrec := z_recv (ad := ad) (M := M) hcx.1 hP hv hob
        have hlen' : (as'.map (cv ad)).length = z_na m' - 1 := by
          rw [List.length_map]
          have h1 : as'.length + 1 = z_na m' := hlen
          omega
        have hpv : PreV s H (z_on (z_own m')) (ad f q) (z_Pc D ad cs A b L xs sa M (.inr (.inr (.inr (f, q))) :: as')) (as'.map (cv ad)) :=
          ⟨z_blind M _, hrec, fun U hU hW => ⟨rfl, z_cx_moved hW (by rw [hU]; exact hS) hcx, by rw [hU]; exact hP⟩⟩
        have hstack : (F0 mi pc LS (st.map (cv ad))).stack = (as'.map (cv ad)).reverse ++ .ref (ad f q) :: r.map (cv ad) := by
          show st.map (cv ad) = _
          rw [hstk]
          simp [cv]
        have hroom : 2 * (F0 mi pc LS (st.map (cv ad))).monitorRoom + ((r.map (cv ad)).map fun v => v.category).sum ≤ 8 := by
          rw [z_sl_map]
          show 2 * 0 + z_sl r ≤ 8
          omega
        have hws := pay_in hts (z_ws_in hm')
        have hcw : z_codeW m' ∈ z_ws m' := List.mem_cons_self
        have hcw2 : (z_codeW m').before args s = true := hts _ (z_ws_in hm' _ hcw).1
        rw [z_codeW0 hh'] at hcw hcw2
        have hrun : vx_Run p l e R s mi args below meth c H locs cells slots k1 (6 * k1) (F0 mi pc LS (st.map (cv ad))) (r.map (cv ad)) (z_Qc D ad cs A o1 M1 (Value.ref (ad f q) :: as'.map (cv ad)).toArray) (z_XC D ad cs A o1 M1) A := by
          cases nb with
          | false =>
            refine vx_runV (C := z_on (z_own m')) (bytes := z_b m') (maxL := z_ml m') (ret := z_ret m') (ws := z_ws m') (rm := z_room m' k1) (n := z_na m' - 1) (own := z_on (z_own m)) (index := j) (y := z_y m') (nL := z_ml m) (cc := z_b m) (Ts := z_good) ⟨hx, hb, hml, hown, hts⟩ hM
              ⟨⟨rfl, rfl, ?_, ?_, hws, hcw, hcw2, hts _ hini, hmh, z_np hnp, hts _ (z_good_in hw rfl)⟩, hts _ hvi1, hts _ hvi2⟩ hpv rfl hlen' hLS.1 hstack hroom hd ⟨by omega, by omega⟩
            · show z_FR m' + 1 ≤ R.frames
              omega
            · show 8 + (z_ml m' + 11) + z_LR m' ≤ R.locals
              omega
          | true =>
            refine vx_runVN (C := z_on (z_own m')) (bytes := z_b m') (maxL := z_ml m') (ret := z_ret m') (ws := z_ws m') (rm := z_room m' k1) (n := z_na m' - 1) (own := z_on (z_own m)) (host := "IslandReserve") (index := j) (y := z_y m') (nL := z_ml m) (cc := z_b m) (Ts := z_good) ⟨hx, hb, hml, hown, hts⟩ hM
              ⟨⟨⟨rfl, rfl, ?_, ?_, hws, hcw⟩, hcw2, hts _ hini, hmh, z_np hnp, va_Nw.use rfl (hcx.2.2.2.1 _ (z_misc_in hw rfl))⟩, hts _ hvi1, hts _ hvi2⟩ hpv rfl hlen' hLS.1 hstack hroom hd ⟨by omega, by omega⟩
            · show z_FR m' + 1 ≤ R.frames
              omega
            · show 8 + (z_ml m' + 11) + z_LR m' ≤ R.locals
              omega
        have hOn : z_Env p l R s mi args meth c (cells + k1) (slots + 6 * k1) D ad cs A b L xs sa m := ⟨⟨hx, hb, hml, hown, hts, hcx, hAD, hab, hfr, hlo, by omega, by omega⟩, hl, hlocks, htab⟩
        refine z_callG hrun hS ?_ ?_
        · intro er ce q9 H1 locs1 ho1 hP1 hS1 hce9 hcv9 hcl9
          subst ho1
          rcases hcont with ⟨hh, ho, hM9, hk9⟩ | ⟨hp9, sl9, hhan, hcov, hex2⟩
          · subst ho
            subst hM9
            have hQ := hX er rfl
            have ek : cells + k1 = cells + k := by omega
            have es : slots + 6 * k1 = slots + 6 * k := by omega
            rw [hQ, ek, es]
            exact z_pass hE0 hh hP1 hS1 hce9 hcv9 hcl9
          · refine z_caught hmN hE0 hhan hcov hP1 hS1 hce9 hcv9 hcl9 hLS hol (fun LS' hp' => ?_)
            refine ih m _ o M' k2 hex2 hOn (by omega) (by omega) hp' (fun er9 ho9 => ?_) (fun H' locs' pc' LS9 st' i9 t9 k9 hi9 hr9 hP9 hS9 => ?_)
            · have hQ := hX er9 ho9
              rw [show cells + k1 + k2 = cells + k by omega, show slots + 6 * k1 + 6 * k2 = slots + 6 * k by omega]
              exact hQ
            · rw [show cells + k1 + k2 = cells + k by omega, show slots + 6 * k1 + 6 * k2 = slots + 6 * k by omega]
              exact hI H' locs' pc' LS9 st' i9 t9 k9 hi9 hr9 hP9 hS9
        · intro v9 H1 locs1 ho1 hP1 hS1
          subst ho1
          dsimp only at hcont
          have hos9 : z_okS (v9.toList ++ r) = true := by
            cases v9 with
            | none => exact hor
            | some v8 => exact z_okS_mk (z_Ex_okv _ _ _ _ _ _ hex v8 rfl) hor
          have e9 : (v9.map (cv ad)).toList ++ r.map (cv ad) = (v9.toList ++ r).map (cv ad) := by cases v9 <;> rfl
          rw [e9]
          refine ih m _ o M' k2 hcont hOn (by omega) (by omega) ⟨hLS, hol, hos9, hP1, hS1⟩ (fun er9 ho9 => ?_) (fun H' locs' pc' LS9 st' i9 t9 k9 hi9 hr9 hP9 hS9 => ?_)
          · have hQ := hX er9 ho9
            rw [show cells + k1 + k2 = cells + k by omega, show slots + 6 * k1 + 6 * k2 = slots + 6 * k by omega]
            exact hQ
          · rw [show cells + k1 + k2 = cells + k by omega, show slots + 6 * k1 + 6 * k2 = slots + 6 * k by omega]
            exact hI H' locs' pc' LS9 st' i9 t9 k9 hi9 hr9 hP9 hS9
      · -- a static call, or one with a row of its own
        rename_i j
        split at h
        · obtain ⟨c', O, h1, h2, h3⟩ := h
          exact z_st1_snd hE0.1 rfl hi h1 h2 (fun H' locs' LS' hp' => ih m c' o M' k h3 hE0 hcell hslot hp' hX hI) hp
        · rename_i hsp
          obtain ⟨m', nb, w, as, r, o1, M1, k1, k2, hcal, hst, hstk, hlen, h8, hex, hk, hcont⟩ := h
          obtain ⟨hw, hf1, hf2, hm', hh'⟩ := z_lnkS hlk hsp hcal
          obtain ⟨⟨n9, hd, hn9⟩, -, -⟩ := z_ins_ck hi
          rcases hn9 with h9 | h9
          · cases h9
          subst h9
          obtain ⟨g8a, g8b⟩ := Bool.and_eq_true_iff.mp h8
          have g9 : z_sl r < 9 := Nat.ble_eq.mp g8a
          have g10 : z_sl as ≤ z_ml m' := Nat.ble_eq.mp g8b
          obtain ⟨hLS, hol, hos, hP, hS⟩ := hp
          dsimp only at hLS hol hos hP
          rw [hstk] at hos
          obtain ⟨hoa, hor⟩ := z_okS_app hos
          have hoas := z_okS_rev hoa
          have hM := z_met (l := l) ih hAD hab hl hm' hex hoas g10
          obtain ⟨hini, hvi, -, hcls, -, hmh, hnp⟩ := z_mB_use hm'
          have hvi1 := hvi hst
          rw [hst] at hnp
          have hlen' : (as.map (cv ad)).length = z_na m' := by rw [List.length_map]; exact hlen
          have hpv : PreS s H (z_Pc D ad cs A b L xs sa M as) (as.map (cv ad)) :=
            ⟨z_blind M _, fun U hU hW => ⟨rfl, z_cx_moved hW (by rw [hU]; exact hS) hcx, by rw [hU]; exact hP⟩⟩
          have hstack : (F0 mi pc LS (st.map (cv ad))).stack = (as.map (cv ad)).reverse ++ r.map (cv ad) := by
            show st.map (cv ad) = _
            rw [hstk]
            simp
          have hroom : 2 * (F0 mi pc LS (st.map (cv ad))).monitorRoom + ((r.map (cv ad)).map fun v => v.category).sum ≤ 8 := by
            rw [z_sl_map]
            show 2 * 0 + z_sl r ≤ 8
            omega
          have hws := pay_in hts (z_ws_in hm')
          have hcw : z_codeW m' ∈ z_ws m' := List.mem_cons_self
          have hcw2 : (z_codeW m').before args s = true := hts _ (z_ws_in hm' _ hcw).1
          have hrun : vx_Run p l e R s mi args below meth c H locs cells slots k1 (6 * k1) (F0 mi pc LS (st.map (cv ad))) (r.map (cv ad)) (z_Qc D ad cs A o1 M1 (as.map (cv ad)).toArray) (z_XC D ad cs A o1 M1) A := by
            cases hhh : z_hh m' with
            | nil =>
              rw [z_codeW0 hhh] at hcw hcw2
              cases nb with
              | false =>
                refine vx_runS (bytes := z_b m') (maxL := z_ml m') (ret := z_ret m') (ws := z_ws m') (rm := z_room m' k1) (n := z_na m') (own := z_on (z_own m)) (index := j) (y := z_y m') (nL := z_ml m) (cc := z_b m) (Ts := z_good) ⟨hx, hb, hml, hown, hts⟩ hM
                  ⟨⟨rfl, rfl, ?_, ?_, hws, hcw, hcw2, hts _ hini, hmh, z_np hnp, hts _ (z_good_in hw rfl)⟩, hts _ hvi1⟩ hpv rfl hlen' hLS.1 hstack hroom hd ⟨by omega, by omega⟩
                · show z_FR m' + 1 ≤ R.frames
                  omega
                · show 8 + (z_ml m' + 11) + z_LR m' ≤ R.locals
                  omega
              | true =>
                refine vx_runSN (bytes := z_b m') (maxL := z_ml m') (ret := z_ret m') (ws := z_ws m') (rm := z_room m' k1) (n := z_na m') (own := z_on (z_own m)) (host := "IslandReserve") (index := j) (y := z_y m') (nL := z_ml m) (cc := z_b m) (Ts := z_good) ⟨hx, hb, hml, hown, hts⟩ hM
                  ⟨⟨⟨rfl, rfl, ?_, ?_, hws, hcw⟩, hcw2, hts _ hini, hmh, z_np hnp, va_Nw.use rfl (hcx.2.2.2.1 _ (z_misc_in hw rfl))⟩, hts _ hvi1, trivial⟩ hpv rfl hlen' hLS.1 hstack hroom hd ⟨by omega, by omega⟩
                · show z_FR m' + 1 ≤ R.frames
                  omega
                · show 8 + (z_ml m' + 11) + z_LR m' ≤ R.locals
                  omega
            | cons x9 t9 =>
              rw [z_codeWh hhh] at hcw hcw2
              cases nb with
              | true =>
                rw [hh' rfl] at hhh
                cases hhh
              | false =>
                refine vx_runSX (hh := z_hh m') (bytes := z_b m') (maxL := z_ml m') (ret := z_ret m') (ws := z_ws m') (rm := z_room m' k1) (n := z_na m') (own := z_on (z_own m)) (index := j) (y := z_y m') (nL := z_ml m) (cc := z_b m) (Ts := z_good) ⟨hx, hb, hml, hown, hts⟩ hM
                  ⟨⟨rfl, rfl, ?_, ?_, hws, hcw⟩, hcw2, hts _ hini, hmh, z_np hnp, hts _ (z_good_in hw rfl), hts _ hvi1⟩ hpv rfl hlen' hLS.1 hstack hroom hd ⟨by omega, by omega⟩
                · show z_FR m' + 1 ≤ R.frames
                  omega
                · show 8 + (z_ml m' + 11) + z_LR m' ≤ R.locals
                  omega
          have hOn : z_Env p l R s mi args meth c (cells + k1) (slots + 6 * k1) D ad cs A b L xs sa m := ⟨⟨hx, hb, hml, hown, hts, hcx, hAD, hab, hfr, hlo, by omega, by omega⟩, hl, hlocks, htab⟩
          refine z_callG hrun hS ?_ ?_
          · intro er ce q9 H1 locs1 ho1 hP1 hS1 hce9 hcv9 hcl9
            subst ho1
            obtain ⟨hh, ho, hM9, hk9⟩ := hcont
            subst ho
            subst hM9
            have hQ := hX er rfl
            have ek : cells + k1 = cells + k := by omega
            have es : slots + 6 * k1 = slots + 6 * k := by omega
            rw [hQ, ek, es]
            exact z_pass hE0 hh hP1 hS1 hce9 hcv9 hcl9
          · intro v9 H1 locs1 ho1 hP1 hS1
            subst ho1
            dsimp only at hcont
            have hos9 : z_okS (v9.toList ++ r) = true := by
              cases v9 with
              | none => exact hor
              | some v8 => exact z_okS_mk (z_Ex_okv _ _ _ _ _ _ hex v8 rfl) hor
            have e9 : (v9.map (cv ad)).toList ++ r.map (cv ad) = (v9.toList ++ r).map (cv ad) := by cases v9 <;> rfl
            rw [e9]
            refine ih m _ o M' k2 hcont hOn (by omega) (by omega) ⟨hLS, hol, hos9, hP1, hS1⟩ (fun er9 ho9 => ?_) (fun H' locs' pc' LS9 st' i9 t9 k9 hi9 hr9 hP9 hS9 => ?_)
            · have hQ := hX er9 ho9
              rw [show cells + k1 + k2 = cells + k by omega, show slots + 6 * k1 + 6 * k2 = slots + 6 * k by omega]
              exact hQ
            · rw [show cells + k1 + k2 = cells + k by omega, show slots + 6 * k1 + 6 * k2 = slots + 6 * k by omega]
              exact hI H' locs' pc' LS9 st' i9 t9 k9 hi9 hr9 hP9 hS9
      · obtain ⟨c', O, h1, h2, h3⟩ := h
        exact z_st1_snd hE0.1 rfl hi h1 h2 (fun H' locs' LS' hp' => ih m c' o M' k h3 hE0 hcell hslot hp' hX hI) hp
end ZE
end
